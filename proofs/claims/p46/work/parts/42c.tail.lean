/-! NEW CELLS: a run over h and a few cells of its own behind it; the cells typed afterwards -/
section TL
variable {X : List mE} {d m pc a b npc tg n k j ci q t : Nat} {ret : Option FieldType} {h T T' : List mE} {e : mE} {fs : List Value} {L : mL} {S : List Value} {Q : Option Value → List mE → Prop} {x z : Int} {τ ts : List Nat} {W : List (Nat × Nat)}
theorem tl_own (hk : T[k]? = some e) : mown (h ++ T) (h.length + 4 + k) = some e := by
  unfold mown
  rw [if_neg (by omega), show h.length + 4 + k - 4 = h.length + k by omega, List.getElem?_append_right (by omega), show h.length + k - h.length = k by omega]
  exact hk
theorem tl_mput : mput (h ++ T) (h.length + 4 + k) e = h ++ T.set k e := by
  unfold mput
  rw [show h.length + 4 + k - 4 = h.length + k by omega, List.set_append_right _ _ (by omega), show h.length + k - h.length = k by omega]
theorem tl_new {l : List FieldType} (hc : CF m pc ret (.new j) a b npc tg) (hl : mTy[a]? = some l) (hf : l.map defaultValue = fs) (k : MR X d m npc L (.ref (h.length + 4) :: S) (h ++ [.inr (a, fs)]) Q) : MR X d m pc L S h Q := by
  obtain ⟨n, q1, hc, rfl, rfl⟩ := hc
  subst hf
  refine MR_go hc ?_ k
  dsimp only [mx]
  rw [hl]
  rfl
theorem tl_newT {l : List FieldType} (hc : CF m pc ret (.new j) a b npc tg) (hl : mTy[a]? = some l) (hf : l.map defaultValue = fs) (hn : T.length = n) (hT' : T ++ [.inr (a, fs)] = T') (k : MR X d m npc L (.ref (h.length + 4 + n) :: S) (h ++ T') Q) : MR X d m pc L S (h ++ T) Q := by
  refine tl_new (h := h ++ T) hc hl hf ?_
  rw [List.append_assoc, hT', List.length_append, hn, show h.length + n + 4 = h.length + 4 + n by omega]
  exact k
theorem na_cond {z : Nat} (hz : z ≤ 4000000) : (¬ Int32.ofInt (z : Int) < 0 ∧ (Int32.ofInt (z : Int)).toNatClampNeg ≤ 4000000) ∧ (Int32.ofInt (z : Int)).toNatClampNeg = z := by
  have e : (Int32.ofInt (z : Int)).toNatClampNeg = z := by
    rw [← Int32.toNat_toInt, to_of (by omega) (by omega)]; rfl
  refine ⟨⟨?_, by rw [e]; exact hz⟩, e⟩
  rw [Int32.lt_iff_toInt_lt, to_of (by omega) (by omega)]
  show ¬ (z : Int) < 0
  omega
theorem st_na {z : Nat} (hc : CF m pc ret (.newarray .int) a b npc tg) (hz : z ≤ 4000000) (hv : (z : Int) = x) (k : MR X d m npc L (.ref (h.length + 4) :: S) (h ++ [.inl (0, (z, .inl (fun _ => 0)))]) Q) : MR X d m pc L (vI x :: S) h Q := by
  subst hv
  obtain ⟨n, q1, hc, rfl, rfl⟩ := hc
  obtain ⟨h1, h2⟩ := na_cond hz
  refine MR_go hc ?_ k
  show (if ¬ Int32.ofInt (z : Int) < 0 ∧ (Int32.ofInt (z : Int)).toNatClampNeg ≤ 4000000 then mgo _ L (.ref (h.length + 4) :: S) (h ++ [.inl (0, ((Int32.ofInt (z : Int)).toNatClampNeg, .inl (fun _ => 0)))]) else none) = _
  rw [if_pos h1, h2]
  rfl
theorem st_nz {z : Nat} (hc : CF m pc ret (.newarray .boolean) a b npc tg) (hz : z ≤ 4000000) (hv : (z : Int) = x) (k : MR X d m npc L (.ref (h.length + 4) :: S) (h ++ [.inl (1, (z, .inl (fun _ => 0)))]) Q) : MR X d m pc L (vI x :: S) h Q := by
  subst hv
  obtain ⟨n, q1, hc, rfl, rfl⟩ := hc
  obtain ⟨h1, h2⟩ := na_cond hz
  refine MR_go hc ?_ k
  show (if ¬ Int32.ofInt (z : Int) < 0 ∧ (Int32.ofInt (z : Int)).toNatClampNeg ≤ 4000000 then mgo _ L (.ref (h.length + 4) :: S) (h ++ [.inl (1, ((Int32.ofInt (z : Int)).toNatClampNeg, .inl (fun _ => 0)))]) else none) = _
  rw [if_pos h1, h2]
  rfl
theorem tl_na {z : Nat} (hc : CF m pc ret (.newarray .int) a b npc tg) (hz : z ≤ 4000000) (hv : (z : Int) = x) (hn : T.length = n) (hT' : T ++ [.inl (0, (z, .inl (fun _ => 0)))] = T') (k : MR X d m npc L (.ref (h.length + 4 + n) :: S) (h ++ T') Q) : MR X d m pc L (vI x :: S) (h ++ T) Q := by
  refine st_na (h := h ++ T) hc hz hv ?_
  rw [List.append_assoc, hT', List.length_append, hn, show h.length + n + 4 = h.length + 4 + n by omega]
  exact k
theorem tl_nz {z : Nat} (hc : CF m pc ret (.newarray .boolean) a b npc tg) (hz : z ≤ 4000000) (hv : (z : Int) = x) (hn : T.length = n) (hT' : T ++ [.inl (1, (z, .inl (fun _ => 0)))] = T') (k : MR X d m npc L (.ref (h.length + 4 + n) :: S) (h ++ T') Q) : MR X d m pc L (vI x :: S) (h ++ T) Q := by
  refine st_nz (h := h ++ T) hc hz hv ?_
  rw [List.append_assoc, hT', List.length_append, hn, show h.length + n + 4 = h.length + 4 + n by omega]
  exact k
theorem tl_put {v : Value} {yy : FieldType} (hc : CF m pc ret (.putfield j) ci b npc tg) (hk : T[k]? = some (.inr (ci, fs))) (hb : Nat.blt b fs.length = true) (hy : mfty ci b = some yy) (hm : mfit yy v = true) (hT' : T.set k (.inr (ci, fs.set b v)) = T') (kk : MR X d m npc L S (h ++ T') Q) : MR X d m pc L (v :: .ref (h.length + 4 + k) :: S) (h ++ T) Q := by
  obtain ⟨n, q1, hc, rfl, rfl⟩ := hc
  refine MR_go hc ?_ kk
  dsimp only [mx]
  rw [tl_own hk]
  dsimp only
  rw [if_pos ⟨rfl, Nat.blt_eq.mp hb⟩, hy]
  dsimp only
  rw [if_pos hm, tl_mput, hT']
  rfl
theorem tl_get {v : Value} (hc : CF m pc ret (.getfield j) ci b npc tg) (hk : T[k]? = some (.inr (ci, fs))) (hv : fs[b]? = some v) (kk : MR X d m npc L (v :: S) (h ++ T) Q) : MR X d m pc L (.ref (h.length + 4 + k) :: S) (h ++ T) Q := by
  obtain ⟨n, q1, hc, rfl, rfl⟩ := hc
  refine MR_go hc ?_ kk
  dsimp only [mx]
  rw [tl_own hk]
  dsimp only
  rw [if_pos rfl, hv]
  rfl
theorem tl_ist {f : Nat → Int32} (hc : CF m pc ret .iastore a b npc tg) (hk : T[k]? = some (.inl (0, (n, .inl f)))) (hx : 0 ≤ x ∧ x < (n : Int) ∧ x ≤ 2147483647) (hT' : T.set k (.inl (0, (n, .inl (upd f x.toNat (Int32.ofInt z))))) = T') (kk : MR X d m npc L S (h ++ T') Q) : MR X d m pc L (vI z :: vI x :: .ref (h.length + 4 + k) :: S) (h ++ T) Q := by
  obtain ⟨n0, q1, hc, rfl, rfl⟩ := hc
  have hm := mib_of hx.1 hx.2.1 hx.2.2
  refine MR_go hc ?_ kk
  show (match mown (h ++ T) (h.length + 4 + k) with
          | some (.inl (0, (n, .inl f))) => if mib (Int32.ofInt x) n then mgo _ L S (mput (h ++ T) (h.length + 4 + k) (.inl (0, (n, .inl (upd f (Int32.ofInt x).toNatClampNeg (Int32.ofInt z)))))) else none
          | _ => none) = _
  rw [tl_own hk]
  refine (if_pos hm.1).trans ?_
  rw [hm.2, tl_mput, hT']
  rfl
theorem st_clone {f : Nat → Int32} (hc : CF m pc ret .fmul a b npc tg) (hq : mown h q = some (.inl (0, (n, .inl f)))) (h4 : Nat.ble S.length 4 = true) (k : MR X d m npc L (.ref (h.length + 4) :: S) (h ++ [.inl (0, (n, .inl f))]) Q) : MR X d m pc L (.ref q :: S) h Q := by
  obtain ⟨n0, q1, hc, rfl, rfl⟩ := hc
  refine MR_go hc ?_ k
  show (match mown h q with
          | some (.inl (0, (n, .inl f))) => if mcat S ≤ 8 then mgo _ L (.ref (h.length + 4) :: S) (h ++ [(.inl (0, (n, .inl f)) : mE)]) else none
          | _ => none) = _
  rw [hq]
  exact if_pos (mc4 h4)
theorem st_cast {f : Nat → Int32} (hc : CF m pc ret .fdiv a b npc tg) (hq : mown h q = some (.inl (0, (n, .inl f)))) (k : MR X d m npc L (.ref q :: S) h Q) : MR X d m pc L (.ref q :: S) h Q := by
  obtain ⟨n0, q1, hc, rfl, rfl⟩ := hc
  refine MR_go hc ?_ k
  show (match mown h q with
          | some (.inl (0, _)) => mgo _ L (.ref q :: S) h
          | _ => none) = _
  rw [hq]
  rfl
theorem st_acopy {u v n1 kk dp sp : Nat} {f g : Nat → Int32} (hc : CF m pc ret .frem a b npc tg) (hu : mown h u = some (.inl (0, (n, .inl f)))) (hv : mown h v = some (.inl (0, (n1, .inl g)))) (hne : u ≠ v) (h1 : sp + kk ≤ n) (h2 : dp + kk ≤ n1) (hb : sp ≤ 4000000 ∧ dp ≤ 4000000 ∧ kk ≤ 4000000) {x1 x2 x3 : Int} (e1 : (sp : Int) = x1) (e2 : (dp : Int) = x2) (e3 : (kk : Int) = x3) (h4 : Nat.ble S.length 4 = true) (k : MR X d m npc L S (mput h v (.inl (0, (n1, .inl (va_cpy f g sp dp kk))))) Q) : MR X d m pc L (vI x3 :: vI x2 :: .ref v :: vI x1 :: .ref u :: S) h Q := by
  subst e1 e2 e3
  obtain ⟨n0, q1, hc, rfl, rfl⟩ := hc
  obtain ⟨⟨a1, -⟩, a2⟩ := na_cond hb.1
  obtain ⟨⟨b1, -⟩, b2⟩ := na_cond hb.2.1
  obtain ⟨⟨c1, -⟩, c2⟩ := na_cond hb.2.2
  refine MR_go hc ?_ k
  show (match mown h u, mown h v with
          | some (.inl (0, (n, .inl f))), some (.inl (0, (n1, .inl g))) => if ((¬ Int32.ofInt (kk : Int) < 0 ∧ ¬ Int32.ofInt (dp : Int) < 0 ∧ ¬ Int32.ofInt (sp : Int) < 0) ∧ u ≠ v) ∧ ((Int32.ofInt (sp : Int)).toNatClampNeg + (Int32.ofInt (kk : Int)).toNatClampNeg ≤ n ∧ (Int32.ofInt (dp : Int)).toNatClampNeg + (Int32.ofInt (kk : Int)).toNatClampNeg ≤ n1 ∧ mcat S ≤ 8) then
              mgo _ L S (mput h v (.inl (0, (n1, .inl (va_cpy f g (Int32.ofInt (sp : Int)).toNatClampNeg (Int32.ofInt (dp : Int)).toNatClampNeg (Int32.ofInt (kk : Int)).toNatClampNeg))))) else none
          | _, _ => none) = _
  rw [hu, hv, a2, b2, c2]
  exact if_pos ⟨⟨⟨c1, b1, a1⟩, hne⟩, h1, h2, mc4 h4⟩
/-! typed -/
theorem Ext_app : Ext τ (τ ++ ts) := fun i t hi => by
  rw [List.getElem?_append_left (List.getElem?_eq_some_iff.mp hi).1]; exact hi
theorem okV_ext {σ : List Nat} {ft : FT} {v : Value} (he : Ext τ σ) (hv : okV τ ft v) : okV σ ft v := by
  obtain ⟨kd, lo, hi⟩ := ft
  match kd, hv with
  | 0, hv => exact hv
  | 1, hv => exact hv
  | 2, hv => obtain ⟨q, e, ht⟩ := hv; exact ⟨q, e, Ext_ty he ht⟩
  | 3, hv =>
    rcases hv with e | ⟨q, e, ht⟩
    · exact Or.inl e
    · exact Or.inr ⟨q, e, Ext_ty he ht⟩
  | 4, hv => exact hv
  | n + 5, hv => exact hv
theorem okC_ext {σ : List Nat} {td : TD} (he : Ext τ σ) (hv : okC τ td e) : okC σ td e := by
  obtain ⟨kd, c, fts, lo, hi⟩ := td
  match kd, hv with
  | 0, hv =>
    obtain ⟨fs, e1, hl, hall⟩ := hv
    exact ⟨fs, e1, hl, fun k ft v h1 h2 => okV_ext he (hall k ft v h1 h2)⟩
  | 1, hv => exact hv
  | 2, hv => exact hv
  | 3, hv =>
    obtain ⟨n, f, e1, a1, a2, hall⟩ := hv
    exact ⟨n, f, e1, a1, a2, fun i hi => okV_ext he (hall i hi)⟩
  | n + 4, hv => exact hv
theorem TH_app (hT : TH Tr τ h) (hl : T.length = ts.length) (hok : ∀ (i t : Nat) (e : mE), ts[i]? = some t → T[i]? = some e → okC (τ ++ ts) (tyd t) e) : TH Tr (τ ++ ts) (h ++ T) := by
  refine ⟨⟨by rw [List.length_append, List.length_append, hT.1.1, hl], fun i t e h1 h2 => ?_⟩, fun i t hi => Ext_app i t (hT.2.1 i t hi), trivial⟩
  have hl2 := hT.1.1
  by_cases c : i < τ.length
  · rw [List.getElem?_append_left c] at h1
    rw [List.getElem?_append_left (by omega)] at h2
    exact okC_ext Ext_app (hT.1.2 i t e h1 h2)
  · rw [List.getElem?_append_right (by omega)] at h1
    rw [List.getElem?_append_right (by omega), hl2] at h2
    exact hok _ t e h1 h2
theorem ty_lt (hT : TH Tr τ h) (ht : ty τ q t) : 4 ≤ q ∧ q - 4 < h.length := ⟨ht.1, by rw [hT.1.1]; exact (List.getElem?_eq_some_iff.mp ht.2).1⟩
theorem ty_new (hT : TH Tr τ h) (hk : ts[k]? = some t) : ty (τ ++ ts) (h.length + 4 + k) t := ⟨by omega, by
  rw [show h.length + 4 + k - 4 = τ.length + k by rw [hT.1.1]; omega, List.getElem?_append_right (by omega), show τ.length + k - τ.length = k by omega]; exact hk⟩
theorem mown_app (hT : TH Tr τ h) (ht : ty τ q t) : mown (h ++ T) q = mown h q := by
  obtain ⟨h4, hl⟩ := ty_lt hT ht
  unfold mown
  rw [if_neg (by omega), if_neg (by omega), List.getElem?_append_left hl]
theorem Fr_app (hT : TH Tr τ h) : Fr τ W h (h ++ T) := fun q t ht => by
  have e := mown_app (T := T) hT ht
  refine ⟨by unfold aN; rw [e], fun b _ => ⟨by unfold rV; rw [e], fun _ => ⟨by unfold aF; rw [e], by unfold aO; rw [e]⟩⟩⟩
theorem Fr_dn {σ : List Nat} {h0 h1 : List mE} (he : Ext τ σ) (hF : Fr σ W h0 h1) : Fr τ W h0 h1 := fun q t ht => hF q t (Ext_ty he ht)
theorem okV_i {lo hi : Int} (hr : -2147483648 ≤ z ∧ z ≤ 2147483647) (hz : lo ≤ z ∧ z ≤ hi) : okV τ (0, lo, hi) (vI z) := ⟨_, rfl, by rw [to_of hr.1 hr.2]; exact hz.1, by rw [to_of hr.1 hr.2]; exact hz.2⟩
/-- an own cell's places -/
theorem tl_fI (hk : T[k]? = some (.inr (ci, fs))) (hb : fs[b]? = some (vI z)) (hr : -2147483648 ≤ z ∧ z ≤ 2147483647) : fI (h ++ T) (h.length + 4 + k) b = z := by
  unfold fI rV
  rw [tl_own hk]
  dsimp only
  rw [hb]
  exact to_of hr.1 hr.2
theorem tl_fR (hk : T[k]? = some (.inr (ci, fs))) (hb : fs[b]? = some (.ref q)) : fR (h ++ T) (h.length + 4 + k) b = some q := by
  unfold fR rV
  rw [tl_own hk]
  dsimp only
  rw [hb]
theorem tl_aN {c : Nat} {y : (Nat → Int32) ⊕ (Nat → Int64) ⊕ _} (hk : T[k]? = some (.inl (c, (n, y)))) : aN (h ++ T) (h.length + 4 + k) = n := by
  unfold aN
  rw [tl_own hk]
theorem tl_aI {c : Nat} {f : Nat → Int32} (hk : T[k]? = some (.inl (c, (n, .inl f)))) : aI (h ++ T) (h.length + 4 + k) x = (f x.toNat).toInt := by
  unfold aI aF
  rw [tl_own hk]
/-- which types new cells have -/
def dyT (t : Nat) : Bool := Nat.ble 9 t && (Nat.blt t 14 || (Nat.ble 112 t && Nat.blt t 122))
def gsT (ts : List Nat) : Bool := Nat.ble ts.length 6 && ts.all dyT
end TL
section TL2
variable {X : List mE} {d m pc a b npc tg n k j ci q t nlo nhi n1 n2 : Nat} {ret : Option FieldType} {h h' T : List mE} {e : mE} {fs : List Value} {fts : List FT} {L : mL} {S : List Value} {Q : Option Value → List mE → Prop} {x z lo hi : Int} {τ ts : List Nat} {W : List (Nat × Nat)} {f : Nat → Int32}
theorem okC_o (hl : fs.length = fts.length) (hall : ∀ (k : Nat) (ft : FT) (v : Value), fts[k]? = some ft → fs[k]? = some v → okV τ ft v) : okC τ (0, ci, fts, n1, n2) (.inr (ci, fs)) := ⟨fs, rfl, hl, hall⟩
theorem okC_i (h1 : nlo ≤ n) (h2 : n ≤ nhi) (hall : ∀ i, lo ≤ (f i).toInt ∧ (f i).toInt ≤ hi) : okC τ (1, ci, [(0, lo, hi)], nlo, nhi) (.inl (ci, (n, .inl f))) := ⟨n, f, rfl, h1, h2, hall⟩
theorem okV_0 (hz : lo ≤ 0 ∧ 0 ≤ hi) : okV τ (0, lo, hi) (.int 0) := ⟨0, rfl, hz.1, hz.2⟩
theorem ok_full : ∀ i : Nat, (-2147483648 : Int) ≤ (f i).toInt ∧ (f i).toInt ≤ 2147483647 := fun i => ⟨to_lo _, to_hi _⟩
theorem ok_zero : ∀ i : Nat, (0 : Int) ≤ ((fun _ => 0 : Nat → Int32) i).toInt ∧ ((fun _ => 0 : Nat → Int32) i).toInt ≤ 1 := fun i => ⟨(by decide : (0 : Int) ≤ (0 : Int32).toInt), (by decide : (0 : Int32).toInt ≤ 1)⟩
theorem TH_raw (hT : TH Tr τ h) : TH Tr (τ ++ [0]) (h ++ [e]) := TH_app hT rfl (fun i t e' h1 h2 => by
  cases i with
  | zero => cases h1; exact trivial
  | succ i => cases h1)
theorem ty_app (hT : TH Tr τ h) (hq : ty (τ ++ ts) q t) : ty τ q t ∨ ∃ k : Nat, q = h.length + 4 + k ∧ ts[k]? = some t := by
  obtain ⟨h4, hq⟩ := hq
  by_cases c : q - 4 < τ.length
  · rw [List.getElem?_append_left c] at hq
    exact Or.inl ⟨h4, hq⟩
  · rw [List.getElem?_append_right (by omega)] at hq
    exact Or.inr ⟨q - 4 - τ.length, by rw [hT.1.1]; omega, hq⟩
theorem nocon {u : Nat} (hno : ts.contains u = false) (hk : ts[k]? = some u) : False := by
  have : u ∈ ts := List.mem_of_getElem? hk
  rw [List.contains_iff_mem.mpr this] at hno
  cases hno
theorem I1_app (hI : I1 τ h) (hT : TH Tr τ h) (hn : ∀ k : Nat, ts[k]? = some 11 → ∃ r1 r2 : Nat, fR (h ++ T) (h.length + 4 + k) 0 = some r1 ∧ fR (h ++ T) (h.length + 4 + k) 1 = some r2 ∧ ty (τ ++ ts) r1 116 ∧ ty (τ ++ ts) r2 117 ∧ fI (h ++ T) (h.length + 4 + k) 2 ≤ (aN (h ++ T) r1 : Int) ∧ aN (h ++ T) r1 = aN (h ++ T) r2 ∧ fI (h ++ T) (h.length + 4 + k) 2 ≤ fI (h ++ T) 4 1 + 1) : I1 (τ ++ ts) (h ++ T) := fun q hq => by
  rcases ty_app hT hq with hq | ⟨k, rfl, hk⟩
  · have hF : Fr τ [] h (h ++ T) := Fr_app hT
    obtain ⟨r1, r2, a1, a2, t1, t2, a3, a4, a5⟩ := hI q hq
    refine ⟨r1, r2, ?_, ?_, Ext_ty Ext_app t1, Ext_ty Ext_app t2, ?_, ?_, ?_⟩
    · rw [Fr_fR hF hq rfl]; exact a1
    · rw [Fr_fR hF hq rfl]; exact a2
    · rw [Fr_fI hF hq rfl, (hF r1 116 t1).1]; exact a3
    · rw [(hF r1 116 t1).1, (hF r2 117 t2).1]; exact a4
    · rw [Fr_fI hF hq rfl, Fr_fI hF (tf (q := 4) (t := 1) hT rfl rfl) rfl]; exact a5
  · exact hn k hk
theorem I1_app0 (hI : I1 τ h) (hT : TH Tr τ h) (hno : ts.contains 11 = false) : I1 (τ ++ ts) (h ++ T) := I1_app hI hT (fun k hk => (nocon hno hk).elim)
theorem I2_app (hI : I2 τ h) (hT : TH Tr τ h) (hn : ∀ k : Nat, ts[k]? = some 13 → ∃ r : Nat, fR (h ++ T) (h.length + 4 + k) 3 = some r ∧ ty (τ ++ ts) r 121 ∧ Ch (aI (h ++ T) r) (aN (h ++ T) r : Int)) : I2 (τ ++ ts) (h ++ T) := fun q hq => by
  rcases ty_app hT hq with hq | ⟨k, rfl, hk⟩
  · have hF : Fr τ [] h (h ++ T) := Fr_app hT
    obtain ⟨r, a1, t1, P, hP, hs⟩ := hI q hq
    refine ⟨r, ?_, Ext_ty Ext_app t1, P, hP, fun s p => ?_⟩
    · rw [Fr_fR hF hq rfl]; exact a1
    · rw [(hF r 121 t1).1, Fr_aI hF t1 rfl]; exact hs s p
  · exact hn k hk
theorem I2_app0 (hI : I2 τ h) (hT : TH Tr τ h) (hno : ts.contains 13 = false) : I2 (τ ++ ts) (h ++ T) := I2_app hI hT (fun k hk => (nocon hno hk).elim)
/-- Arrays.copyOf of ints -/
theorem va_cpy0 {g : Nat → Int32} {kk i : Nat} (hi : i < kk) : va_cpy f g 0 0 kk i = f i := by
  unfold va_cpy
  rw [if_pos ⟨Nat.zero_le _, by omega⟩]
  congr 1
  omega
end TL2
section TL3
variable {X : List mE} {d m pc a b npc tg ci q t j : Nat} {ret : Option FieldType} {h : List mE} {ft : FT} {L : mL} {S T : List Value} {Q : Option Value → List mE → Prop} {τ : List Nat} {E : EP}
theorem st_callt8 {ml : Nat} {as : List Value} {L0 : mL} {Q' : Option Value → List mE → Prop} (hc : CF m pc ret (.invokevirtual j) a b npc tg) (hm : CM a ci ml) (hT : TH E τ h) (ht : ty τ q t) (hd : fld t 0 = some (ci, ft)) (hS : mtake b S [] = some (as, .ref q :: T)) (h8 : mcat T ≤ 8) (hl : Nat.ble (lent1 (.ref q :: as)).length ml = true) (hL : lent (.ref q :: as) ml = L0) (hd0 : 0 < d) (hk : MR X (d - 1) a 0 L0 [] h Q')
    (k : ∀ v h', Q' v h' → MR X d m npc L (mpush v T) h' Q) : MR X d m pc L S h Q := by
  obtain ⟨fs, hq⟩ := TW_cls hT.1 ht hd
  obtain ⟨R', hR, hci, hml⟩ := hm
  obtain ⟨n, q1, hc, rfl, rfl⟩ := hc
  refine MR_call hc ?_ ⟨R', hR, hci, hml⟩ (Nat.le_of_ble_eq_true hl) hL hd0 hk k
  dsimp only [mx]
  rw [hS]
  dsimp only
  rw [hq, hR]
  dsimp only
  rw [if_pos ⟨hci.symm, h8⟩]
  rfl
end TL3
