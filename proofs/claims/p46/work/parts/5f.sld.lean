/-! THE LAW'S OWN ROWS -/
def sv (xs : Nat → Int32) (x : Int) : Int := (xs x.toNat).toInt
theorem st_sld {Ln : Nat} {xs : Nat → Int32} {d m pc a b npc tg : Nat} {ret : Option FieldType} {L : mL} {S : List Value} {h : List mE} {Q : Option Value → List mE → Prop} {x : Int} (hc : CF m pc ret .iaload a b npc tg) (hx : 0 ≤ x ∧ x < (Ln : Int) ∧ x ≤ 2147483647) (k : -2147483648 ≤ sv xs x → sv xs x ≤ 2147483647 → MR (mex Ln xs) d m npc L (vI (sv xs x) :: S) h Q) : MR (mex Ln xs) d m pc L (vI x :: .ref 0 :: S) h Q := by
  obtain ⟨n, q1, hc, rfl, rfl⟩ := hc
  have hm := mib_of hx.1 hx.2.1 hx.2.2
  refine MR_go hc ?_ (k (to_lo _) (to_hi _))
  show (match mget (mex Ln xs) h 0 with
        | some (.inl (0, (n, .inl f))) => if mib (Int32.ofInt x) n then mgo _ L (.int (f (Int32.ofInt x).toNatClampNeg) :: S) h else none
        | _ => none) = _
  rw [show mget (mex Ln xs) h 0 = some (.inl (0, (Ln, .inl xs))) from rfl]
  refine (if_pos hm.1).trans ?_
  rw [hm.2, vI_to]
  rfl
theorem st_xlen {Ln : Nat} {xs : Nat → Int32} {d m pc a b npc tg : Nat} {ret : Option FieldType} {L : mL} {S : List Value} {h : List mE} {Q : Option Value → List mE → Prop} (hc : CF m pc ret .arraylength a b npc tg) (hx : (Ln : Int) ≤ 3072) (k : MR (mex Ln xs) d m npc L (vI (Ln : Int) :: S) h Q) : MR (mex Ln xs) d m pc L (.ref 0 :: S) h Q := by
  obtain ⟨n, q1, hc, rfl, rfl⟩ := hc
  refine MR_go hc ?_ k
  rfl
