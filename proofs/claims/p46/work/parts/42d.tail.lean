section TL4
variable {X : List mE} {d m pc a b npc tg n k j ci q t : Nat} {ret : Option FieldType} {h T T' : List mE} {L : mL} {S : List Value} {Q : Option Value → List mE → Prop} {x z : Int}
theorem len_app (hn : T.length = n) : (h ++ T).length + 4 = h.length + 4 + n := by rw [List.length_append, hn]; omega
theorem tl_nl {z : Nat} (hc : CF m pc ret (.newarray .long) a b npc tg) (hz : z ≤ 4000000) (hv : (z : Int) = x) (hn : T.length = n) (hT' : T ++ [.inl (2, (z, .inr (.inl (fun _ => 0))))] = T') (k : MR X d m npc L (.ref (h.length + 4 + n) :: S) (h ++ T') Q) : MR X d m pc L (vI x :: S) (h ++ T) Q := by
  subst hv
  rw [← hT', ← List.append_assoc, ← len_app hn] at k
  obtain ⟨n0, q1, hc, rfl, rfl⟩ := hc
  obtain ⟨h1, h2⟩ := na_cond hz
  refine MR_go hc ?_ k
  show (if ¬ Int32.ofInt (z : Int) < 0 ∧ (Int32.ofInt (z : Int)).toNatClampNeg ≤ 4000000 then mgo _ L (.ref ((h ++ T).length + 4) :: S) ((h ++ T) ++ [(.inl (2, ((Int32.ofInt (z : Int)).toNatClampNeg, .inr (.inl (fun _ => 0)))) : mE)]) else none) = _
  rw [if_pos h1, h2]
  rfl
theorem tl_nb {z : Nat} (hc : CF m pc ret (.newarray .byte) a b npc tg) (hz : z ≤ 4000000) (hv : (z : Int) = x) (hn : T.length = n) (hT' : T ++ [.inl (8, (z, .inl (fun _ => 0)))] = T') (k : MR X d m npc L (.ref (h.length + 4 + n) :: S) (h ++ T') Q) : MR X d m pc L (vI x :: S) (h ++ T) Q := by
  subst hv
  rw [← hT', ← List.append_assoc, ← len_app hn] at k
  obtain ⟨n0, q1, hc, rfl, rfl⟩ := hc
  obtain ⟨h1, h2⟩ := na_cond hz
  refine MR_go hc ?_ k
  show (if ¬ Int32.ofInt (z : Int) < 0 ∧ (Int32.ofInt (z : Int)).toNatClampNeg ≤ 4000000 then mgo _ L (.ref ((h ++ T).length + 4) :: S) ((h ++ T) ++ [(.inl (8, ((Int32.ofInt (z : Int)).toNatClampNeg, .inl (fun _ => 0))) : mE)]) else none) = _
  rw [if_pos h1, h2]
  rfl
theorem tl_an {z c : Nat} (hc : CF m pc ret (.anewarray j) a b npc tg) (he : mEl[a]? = some (some c)) (hz : z ≤ 4000000) (hv : (z : Int) = x) (hn : T.length = n) (hT' : T ++ [.inl (a, (z, .inr (.inr (.inr (.inr (fun _ => none))))))] = T') (k : MR X d m npc L (.ref (h.length + 4 + n) :: S) (h ++ T') Q) : MR X d m pc L (vI x :: S) (h ++ T) Q := by
  subst hv
  rw [← hT', ← List.append_assoc, ← len_app hn] at k
  obtain ⟨n0, q1, hc, rfl, rfl⟩ := hc
  obtain ⟨h1, h2⟩ := na_cond hz
  refine MR_go hc ?_ k
  dsimp only [mx]
  show (if ¬ Int32.ofInt (z : Int) < 0 ∧ (Int32.ofInt (z : Int)).toNatClampNeg ≤ 4000000 then (match mEl[a]? with
          | some (some _) => mgo _ L (.ref ((h ++ T).length + 4) :: S) ((h ++ T) ++ [(.inl (a, ((Int32.ofInt (z : Int)).toNatClampNeg, .inr (.inr (.inr (.inr (fun _ => none)))))) : mE)])
          | _ => none) else none) = _
  rw [if_pos h1, h2, he]
  rfl
theorem tl_ma {z w : Nat} {i2 : Nat} {x y : Int} (hc : CF m pc ret (.multianewarray j i2) a b npc tg) (hz : z ≤ 4000000) (hw : w ≤ 4000000) (hv : (z : Int) = x) (hv2 : (w : Int) = y) (hn : T.length = n) (hT' : T ++ (.inl (7, (z, .inr (.inr (.inr (.inr (fun i => if i < z then some (h.length + 4 + n + 1 + i) else none)))))) :: List.replicate z (.inl (0, (w, .inl (fun _ => 0))))) = T') (k : MR X d m npc L (.ref (h.length + 4 + n) :: S) (h ++ T') Q) : MR X d m pc L (vI y :: vI x :: S) (h ++ T) Q := by
  subst hv hv2
  rw [← hT', ← List.append_assoc, ← len_app hn] at k
  obtain ⟨n0, q1, hc, rfl, rfl⟩ := hc
  obtain ⟨h1, h2⟩ := na_cond hz
  obtain ⟨h3, h4⟩ := na_cond hw
  refine MR_go hc ?_ k
  show (if (¬ Int32.ofInt (z : Int) < 0 ∧ (Int32.ofInt (z : Int)).toNatClampNeg ≤ 4000000) ∧ (¬ Int32.ofInt (w : Int) < 0 ∧ (Int32.ofInt (w : Int)).toNatClampNeg ≤ 4000000) then
          mgo _ L (.ref ((h ++ T).length + 4) :: S) ((h ++ T) ++ ((.inl (7, ((Int32.ofInt (z : Int)).toNatClampNeg, .inr (.inr (.inr (.inr (fun i => if i < (Int32.ofInt (z : Int)).toNatClampNeg then some ((h ++ T).length + 4 + 1 + i) else none)))))) : mE) :: List.replicate (Int32.ofInt (z : Int)).toNatClampNeg (.inl (0, ((Int32.ofInt (w : Int)).toNatClampNeg, .inl (fun _ => 0))))))
          else none) = _
  rw [if_pos ⟨h1, h3⟩, h2, h4]
  rfl
end TL4
section TL5
variable {τ : List Nat} {c n n1 n2 : Nat} {lo hi y z : Int}
theorem okC_z (h : lo ≤ 0 ∧ 0 ≤ hi) : okC τ (1, c, [(0, lo, hi)], n, n) (.inl (c, (n, .inl (fun _ => 0)))) := ⟨n, fun _ => 0, rfl, Nat.le_refl _, Nat.le_refl _, fun _ => h⟩
theorem okC_l : okC τ (2, c, [(1, 0, 0)], n, n) (.inl (c, (n, .inr (.inl (fun _ => 0))))) := ⟨n, fun _ => 0, rfl, Nat.le_refl _, Nat.le_refl _⟩
theorem okC_a : okC τ (3, c, [(3, y, z)], n, n) (.inl (c, (n, .inr (.inr (.inr (.inr (fun _ => none))))))) := ⟨n, fun _ => none, rfl, Nat.le_refl _, Nat.le_refl _, fun _ _ => Or.inl rfl⟩
end TL5
