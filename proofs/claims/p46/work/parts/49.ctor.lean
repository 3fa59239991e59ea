theorem KI56m {X : List mE} {h : List mE} {e0 e1 e2 : mE} (p1 : Int) (p2 : Int) (d : Nat) (hd : 0 ≤ d) : MR X d 56 0 [some (.ref (h.length + 4 + 3)), some (vI p1), some (vI p2)] [] (h ++ [e0, e1, e2, .inr (6, [.null, .null, .int 0, .int 0])]) (fun v h' => v = none ∧ h' = h ++ [e0, e1, e2, .inr (6, [.ref (h.length + 4 + 4), .ref (h.length + 4 + 5), vI 1, vI 1]), .inl (0, (4, .inl (upd (fun _ => 0) 0 (Int32.ofInt p1)))), .inl (0, (4, .inl (upd (fun _ => 0) 0 (Int32.ofInt p2))))]) := by
  refine st_aload c56_0 rfl ?_
  refine st_oinit c56_1 (mc4 rfl) ?_
  refine st_aload c56_4 rfl ?_
  refine st_iconst c56_5 ?_
  refine tl_na (z := 4) (T' := [e0, e1, e2, .inr (6, [.null, .null, .int 0, .int 0]), .inl (0, (4, .inl (fun _ => 0)))]) c56_6 (by decide) rfl rfl rfl ?_
  refine tl_put (k := 3) (T' := [e0, e1, e2, .inr (6, [.ref (h.length + 4 + 4), .null, .int 0, .int 0]), .inl (0, (4, .inl (fun _ => 0)))]) c56_8 rfl rfl rfl rfl rfl ?_
  refine st_aload c56_11 rfl ?_
  refine st_iconst c56_12 ?_
  refine tl_na (z := 4) (T' := [e0, e1, e2, .inr (6, [.ref (h.length + 4 + 4), .null, .int 0, .int 0]), .inl (0, (4, .inl (fun _ => 0))), .inl (0, (4, .inl (fun _ => 0)))]) c56_13 (by decide) rfl rfl rfl ?_
  refine tl_put (k := 3) (T' := [e0, e1, e2, .inr (6, [.ref (h.length + 4 + 4), .ref (h.length + 4 + 5), .int 0, .int 0]), .inl (0, (4, .inl (fun _ => 0))), .inl (0, (4, .inl (fun _ => 0)))]) c56_15 rfl rfl rfl rfl rfl ?_
  refine st_aload c56_18 rfl ?_
  refine tl_get (k := 3) c56_19 rfl rfl ?_
  refine st_iconst c56_22 ?_
  refine st_iload c56_23 rfl ?_
  refine tl_ist (k := 4) (T' := [e0, e1, e2, .inr (6, [.ref (h.length + 4 + 4), .ref (h.length + 4 + 5), .int 0, .int 0]), .inl (0, (4, .inl (upd (fun _ => 0) 0 (Int32.ofInt p1)))), .inl (0, (4, .inl (fun _ => 0)))]) c56_24 rfl (by omega) rfl ?_
  refine st_aload c56_25 rfl ?_
  refine tl_get (k := 3) c56_26 rfl rfl ?_
  refine st_iconst c56_29 ?_
  refine st_iload c56_30 rfl ?_
  refine tl_ist (k := 5) (T' := [e0, e1, e2, .inr (6, [.ref (h.length + 4 + 4), .ref (h.length + 4 + 5), .int 0, .int 0]), .inl (0, (4, .inl (upd (fun _ => 0) 0 (Int32.ofInt p1)))), .inl (0, (4, .inl (upd (fun _ => 0) 0 (Int32.ofInt p2))))]) c56_31 rfl (by omega) rfl ?_
  refine st_aload c56_32 rfl ?_
  refine st_iconst c56_33 ?_
  refine tl_put (k := 3) (T' := [e0, e1, e2, .inr (6, [.ref (h.length + 4 + 4), .ref (h.length + 4 + 5), vI 1, .int 0]), .inl (0, (4, .inl (upd (fun _ => 0) 0 (Int32.ofInt p1)))), .inl (0, (4, .inl (upd (fun _ => 0) 0 (Int32.ofInt p2))))]) c56_34 rfl rfl rfl rfl rfl ?_
  refine st_aload c56_37 rfl ?_
  refine st_iconst c56_38 ?_
  refine tl_put (k := 3) (T' := [e0, e1, e2, .inr (6, [.ref (h.length + 4 + 4), .ref (h.length + 4 + 5), vI 1, vI 1]), .inl (0, (4, .inl (upd (fun _ => 0) 0 (Int32.ofInt p1)))), .inl (0, (4, .inl (upd (fun _ => 0) 0 (Int32.ofInt p2))))]) c56_39 rfl rfl rfl (by decide) rfl ?_
  refine st_return c56_42 ?_
  exact ⟨rfl, rfl⟩
theorem KI10 {X : List mE} {h : List mE} (p1 : Int) (p2 : Int) (hp2 : 0 ≤ p2 ∧ p2 ≤ 2147483647) (p3 : Int) (p4 : Int) (p5 : Int) (d : Nat) (hd : 0 ≤ d) : MR X d 10 0 [some (.ref (h.length + 4 + 0)), some (vI p1), some (vI p2), some (vI p3), some (vI p4), some (vI p5)] [] (h ++ [.inr (1, [.int 0, .int 0, .int 0, .int 0, .int 0, .int 0, .null, .null])]) (fun v h' => v = none ∧ h' = h ++ [.inr (1, [vI p1, vI (p2 / 1000), vI (p2 % 1000), vI p3, vI p4, vI p5, .ref (h.length + 4 + 1), .ref (h.length + 4 + 2)]), .inl (0, (16, .inl (fun _ => 0))), .inl (1, (15, .inl (fun _ => 0)))]) := by
  refine st_aload c10_0 rfl ?_
  refine st_oinit c10_1 (mc4 rfl) ?_
  refine st_aload c10_4 rfl ?_
  refine st_iconst c10_5 ?_
  refine tl_na (z := 16) (T' := [.inr (1, [.int 0, .int 0, .int 0, .int 0, .int 0, .int 0, .null, .null]), .inl (0, (16, .inl (fun _ => 0)))]) c10_7 (by decide) rfl rfl rfl ?_
  refine tl_put (k := 0) (T' := [.inr (1, [.int 0, .int 0, .int 0, .int 0, .int 0, .int 0, .ref (h.length + 4 + 1), .null]), .inl (0, (16, .inl (fun _ => 0)))]) c10_9 rfl rfl rfl rfl rfl ?_
  refine st_aload c10_12 rfl ?_
  refine st_iconst c10_13 ?_
  refine tl_nz (z := 15) (T' := [.inr (1, [.int 0, .int 0, .int 0, .int 0, .int 0, .int 0, .ref (h.length + 4 + 1), .null]), .inl (0, (16, .inl (fun _ => 0))), .inl (1, (15, .inl (fun _ => 0)))]) c10_15 (by decide) rfl rfl rfl ?_
  refine tl_put (k := 0) (T' := [.inr (1, [.int 0, .int 0, .int 0, .int 0, .int 0, .int 0, .ref (h.length + 4 + 1), .ref (h.length + 4 + 2)]), .inl (0, (16, .inl (fun _ => 0))), .inl (1, (15, .inl (fun _ => 0)))]) c10_17 rfl rfl rfl rfl rfl ?_
  refine st_aload c10_20 rfl ?_
  refine st_iload c10_21 rfl ?_
  refine tl_put (k := 0) (T' := [.inr (1, [vI p1, .int 0, .int 0, .int 0, .int 0, .int 0, .ref (h.length + 4 + 1), .ref (h.length + 4 + 2)]), .inl (0, (16, .inl (fun _ => 0))), .inl (1, (15, .inl (fun _ => 0)))]) c10_22 rfl rfl rfl rfl rfl ?_
  refine st_aload c10_25 rfl ?_
  refine st_iload c10_26 rfl ?_
  refine st_iconst c10_27 ?_
  refine st_idivp c10_30 (by omega) (by omega) ?_
  refine tl_put (k := 0) (T' := [.inr (1, [vI p1, vI (p2 / 1000), .int 0, .int 0, .int 0, .int 0, .ref (h.length + 4 + 1), .ref (h.length + 4 + 2)]), .inl (0, (16, .inl (fun _ => 0))), .inl (1, (15, .inl (fun _ => 0)))]) c10_31 rfl rfl rfl rfl rfl ?_
  refine st_aload c10_34 rfl ?_
  refine st_iload c10_35 rfl ?_
  refine st_iconst c10_36 ?_
  refine st_iremp c10_39 (by omega) (by omega) ?_
  refine tl_put (k := 0) (T' := [.inr (1, [vI p1, vI (p2 / 1000), vI (p2 % 1000), .int 0, .int 0, .int 0, .ref (h.length + 4 + 1), .ref (h.length + 4 + 2)]), .inl (0, (16, .inl (fun _ => 0))), .inl (1, (15, .inl (fun _ => 0)))]) c10_40 rfl rfl rfl rfl rfl ?_
  refine st_aload c10_43 rfl ?_
  refine st_iload c10_44 rfl ?_
  refine tl_put (k := 0) (T' := [.inr (1, [vI p1, vI (p2 / 1000), vI (p2 % 1000), vI p3, .int 0, .int 0, .ref (h.length + 4 + 1), .ref (h.length + 4 + 2)]), .inl (0, (16, .inl (fun _ => 0))), .inl (1, (15, .inl (fun _ => 0)))]) c10_45 rfl rfl rfl rfl rfl ?_
  refine st_aload c10_48 rfl ?_
  refine st_iload c10_49 rfl ?_
  refine tl_put (k := 0) (T' := [.inr (1, [vI p1, vI (p2 / 1000), vI (p2 % 1000), vI p3, vI p4, .int 0, .ref (h.length + 4 + 1), .ref (h.length + 4 + 2)]), .inl (0, (16, .inl (fun _ => 0))), .inl (1, (15, .inl (fun _ => 0)))]) c10_51 rfl rfl rfl rfl rfl ?_
  refine st_aload c10_54 rfl ?_
  refine st_iload c10_55 rfl ?_
  refine tl_put (k := 0) (T' := [.inr (1, [vI p1, vI (p2 / 1000), vI (p2 % 1000), vI p3, vI p4, vI p5, .ref (h.length + 4 + 1), .ref (h.length + 4 + 2)]), .inl (0, (16, .inl (fun _ => 0))), .inl (1, (15, .inl (fun _ => 0)))]) c10_57 rfl rfl rfl rfl rfl ?_
  refine st_return c10_60 ?_
  exact ⟨rfl, rfl⟩
theorem KI35 {X : List mE} {h : List mE} (p1 : Int) (q2 : Nat) (p3 : Int) (p4 : Int) (p5 : Int) (d : Nat) (hd : 1 ≤ d) : MR X d 35 0 [some (.ref (h.length + 4 + 0)), some (vI p1), some (.ref q2), some (vI p3), some (vI p4), some (vI p5)] [] (h ++ [.inr (4, [.int 0, .null, .null, .int 0, .int 0, .int 0, .int 0, .int 0, .int 0, .null, .null, .int 0, .int 0, .null, .null, .int 0])]) (fun v h' => v = none ∧ h' = h ++ [.inr (4, [vI p1, .ref q2, .ref (h.length + 4 + 3), .int 0, vI p3, .int 0, vI (-1), vI p4, .int 0, .null, .null, vI (-1), vI (-1), .ref (h.length + 4 + 1), .ref (h.length + 4 + 2), .int 0]), .inl (0, (5, .inl (fun _ => 0))), .inl (0, (5, .inl (fun _ => 0))), .inr (6, [.ref (h.length + 4 + 4), .ref (h.length + 4 + 5), vI 1, vI 1]), .inl (0, (4, .inl (upd (fun _ => 0) 0 (Int32.ofInt p4)))), .inl (0, (4, .inl (upd (fun _ => 0) 0 (Int32.ofInt p5))))]) := by
  refine st_aload c35_0 rfl ?_
  refine st_oinit c35_1 (mc4 rfl) ?_
  refine st_aload c35_4 rfl ?_
  refine st_iconst c35_5 ?_
  refine tl_put (k := 0) (T' := [.inr (4, [.int 0, .null, .null, .int 0, .int 0, .int 0, vI (-1), .int 0, .int 0, .null, .null, .int 0, .int 0, .null, .null, .int 0])]) c35_6 rfl rfl rfl rfl rfl ?_
  refine st_aload c35_9 rfl ?_
  refine st_iconst c35_10 ?_
  refine tl_put (k := 0) (T' := [.inr (4, [.int 0, .null, .null, .int 0, .int 0, .int 0, vI (-1), .int 0, .int 0, .null, .null, vI (-1), .int 0, .null, .null, .int 0])]) c35_11 rfl rfl rfl rfl rfl ?_
  refine st_aload c35_14 rfl ?_
  refine st_iconst c35_15 ?_
  refine tl_put (k := 0) (T' := [.inr (4, [.int 0, .null, .null, .int 0, .int 0, .int 0, vI (-1), .int 0, .int 0, .null, .null, vI (-1), vI (-1), .null, .null, .int 0])]) c35_16 rfl rfl rfl rfl rfl ?_
  refine st_aload c35_19 rfl ?_
  refine st_iconst c35_20 ?_
  refine tl_na (z := 5) (T' := [.inr (4, [.int 0, .null, .null, .int 0, .int 0, .int 0, vI (-1), .int 0, .int 0, .null, .null, vI (-1), vI (-1), .null, .null, .int 0]), .inl (0, (5, .inl (fun _ => 0)))]) c35_21 (by decide) rfl rfl rfl ?_
  refine tl_put (k := 0) (T' := [.inr (4, [.int 0, .null, .null, .int 0, .int 0, .int 0, vI (-1), .int 0, .int 0, .null, .null, vI (-1), vI (-1), .ref (h.length + 4 + 1), .null, .int 0]), .inl (0, (5, .inl (fun _ => 0)))]) c35_23 rfl rfl rfl rfl rfl ?_
  refine st_aload c35_26 rfl ?_
  refine st_iconst c35_27 ?_
  refine tl_na (z := 5) (T' := [.inr (4, [.int 0, .null, .null, .int 0, .int 0, .int 0, vI (-1), .int 0, .int 0, .null, .null, vI (-1), vI (-1), .ref (h.length + 4 + 1), .null, .int 0]), .inl (0, (5, .inl (fun _ => 0))), .inl (0, (5, .inl (fun _ => 0)))]) c35_28 (by decide) rfl rfl rfl ?_
  refine tl_put (k := 0) (T' := [.inr (4, [.int 0, .null, .null, .int 0, .int 0, .int 0, vI (-1), .int 0, .int 0, .null, .null, vI (-1), vI (-1), .ref (h.length + 4 + 1), .ref (h.length + 4 + 2), .int 0]), .inl (0, (5, .inl (fun _ => 0))), .inl (0, (5, .inl (fun _ => 0)))]) c35_30 rfl rfl rfl rfl rfl ?_
  refine st_aload c35_33 rfl ?_
  refine st_iload c35_34 rfl ?_
  refine tl_put (k := 0) (T' := [.inr (4, [vI p1, .null, .null, .int 0, .int 0, .int 0, vI (-1), .int 0, .int 0, .null, .null, vI (-1), vI (-1), .ref (h.length + 4 + 1), .ref (h.length + 4 + 2), .int 0]), .inl (0, (5, .inl (fun _ => 0))), .inl (0, (5, .inl (fun _ => 0)))]) c35_35 rfl rfl rfl rfl rfl ?_
  refine st_aload c35_38 rfl ?_
  refine st_aload c35_39 rfl ?_
  refine tl_put (k := 0) (T' := [.inr (4, [vI p1, .ref q2, .null, .int 0, .int 0, .int 0, vI (-1), .int 0, .int 0, .null, .null, vI (-1), vI (-1), .ref (h.length + 4 + 1), .ref (h.length + 4 + 2), .int 0]), .inl (0, (5, .inl (fun _ => 0))), .inl (0, (5, .inl (fun _ => 0)))]) c35_40 rfl rfl rfl rfl rfl ?_
  refine st_aload c35_43 rfl ?_
  refine st_iload c35_44 rfl ?_
  refine tl_put (k := 0) (T' := [.inr (4, [vI p1, .ref q2, .null, .int 0, vI p3, .int 0, vI (-1), .int 0, .int 0, .null, .null, vI (-1), vI (-1), .ref (h.length + 4 + 1), .ref (h.length + 4 + 2), .int 0]), .inl (0, (5, .inl (fun _ => 0))), .inl (0, (5, .inl (fun _ => 0)))]) c35_45 rfl rfl rfl rfl rfl ?_
  refine st_aload c35_48 rfl ?_
  refine st_iload c35_49 rfl ?_
  refine tl_put (k := 0) (T' := [.inr (4, [vI p1, .ref q2, .null, .int 0, vI p3, .int 0, vI (-1), vI p4, .int 0, .null, .null, vI (-1), vI (-1), .ref (h.length + 4 + 1), .ref (h.length + 4 + 2), .int 0]), .inl (0, (5, .inl (fun _ => 0))), .inl (0, (5, .inl (fun _ => 0)))]) c35_51 rfl rfl rfl rfl rfl ?_
  refine st_aload c35_54 rfl ?_
  refine tl_newT (T' := [.inr (4, [vI p1, .ref q2, .null, .int 0, vI p3, .int 0, vI (-1), vI p4, .int 0, .null, .null, vI (-1), vI (-1), .ref (h.length + 4 + 1), .ref (h.length + 4 + 2), .int 0]), .inl (0, (5, .inl (fun _ => 0))), .inl (0, (5, .inl (fun _ => 0))), .inr (6, [.null, .null, .int 0, .int 0])]) c35_55 rfl rfl rfl rfl ?_
  refine st_dup c35_58 rfl ?_
  refine st_iload c35_59 rfl ?_
  refine st_iload c35_61 rfl ?_
  refine st_callp (as := [vI p4, vI p5]) c35_63 cm_56 rfl rfl rfl rfl (by omega) (KI56m (p4) (p5) (d - 1) (by omega)) (fun v1 h1 H => ?_)
  obtain ⟨rfl, rfl⟩ := H
  refine tl_put (k := 0) (T' := [.inr (4, [vI p1, .ref q2, .ref (h.length + 4 + 3), .int 0, vI p3, .int 0, vI (-1), vI p4, .int 0, .null, .null, vI (-1), vI (-1), .ref (h.length + 4 + 1), .ref (h.length + 4 + 2), .int 0]), .inl (0, (5, .inl (fun _ => 0))), .inl (0, (5, .inl (fun _ => 0))), .inr (6, [.ref (h.length + 4 + 4), .ref (h.length + 4 + 5), vI 1, vI 1]), .inl (0, (4, .inl (upd (fun _ => 0) 0 (Int32.ofInt p4)))), .inl (0, (4, .inl (upd (fun _ => 0) 0 (Int32.ofInt p5))))]) c35_66 rfl rfl rfl rfl rfl ?_
  refine st_return c35_69 ?_
  exact ⟨rfl, rfl⟩
theorem KI66 {X : List mE} {h : List mE} (p1 : Int) (q2 : Nat) (p3 : Int) (p4 : Int) (p5 : Int) (p6 : Int) (d : Nat) (hd : 0 ≤ d) : MR X d 66 0 [some (.ref (h.length + 4 + 0)), some (vI p1), some (.ref q2), some (vI p3), some (vI p4), some (vI p5), some (vI p6)] [] (h ++ [.inr (7, [.int 0, .int 0, .int 0, .int 0, .int 0, .null, .int 0, .int 0, .int 0, .int 0, .null, .int 0, .int 0, .null, .null, .null])]) (fun v h' => v = none ∧ h' = h ++ [.inr (7, [vI p1, vI p3, vI p4, vI p5, vI p6, .ref q2, .int 0, .int 0, .int 0, .int 0, .null, vI (-1), vI (-1), .ref (h.length + 4 + 1), .ref (h.length + 4 + 2), .ref (h.length + 4 + 3)]), .inl (1, (60, .inl (fun _ => 0))), .inl (0, (2, .inl (upd (upd (fun _ => 0) 0 (Int32.ofInt (-1))) 1 (Int32.ofInt (-1))))), .inl (0, (2, .inl (upd (upd (fun _ => 0) 0 (Int32.ofInt (-1))) 1 (Int32.ofInt (-1)))))]) := by
  refine st_aload c66_0 rfl ?_
  refine st_oinit c66_1 (mc4 rfl) ?_
  refine st_aload c66_4 rfl ?_
  refine st_iconst c66_5 ?_
  refine tl_put (k := 0) (T' := [.inr (7, [.int 0, .int 0, .int 0, .int 0, .int 0, .null, .int 0, .int 0, .int 0, .int 0, .null, vI (-1), .int 0, .null, .null, .null])]) c66_6 rfl rfl rfl rfl rfl ?_
  refine st_aload c66_9 rfl ?_
  refine st_iconst c66_10 ?_
  refine tl_put (k := 0) (T' := [.inr (7, [.int 0, .int 0, .int 0, .int 0, .int 0, .null, .int 0, .int 0, .int 0, .int 0, .null, vI (-1), vI (-1), .null, .null, .null])]) c66_11 rfl rfl rfl rfl rfl ?_
  refine st_aload c66_14 rfl ?_
  refine st_iconst c66_15 ?_
  refine tl_nz (z := 60) (T' := [.inr (7, [.int 0, .int 0, .int 0, .int 0, .int 0, .null, .int 0, .int 0, .int 0, .int 0, .null, vI (-1), vI (-1), .null, .null, .null]), .inl (1, (60, .inl (fun _ => 0)))]) c66_17 (by decide) rfl rfl rfl ?_
  refine tl_put (k := 0) (T' := [.inr (7, [.int 0, .int 0, .int 0, .int 0, .int 0, .null, .int 0, .int 0, .int 0, .int 0, .null, vI (-1), vI (-1), .ref (h.length + 4 + 1), .null, .null]), .inl (1, (60, .inl (fun _ => 0)))]) c66_19 rfl rfl rfl rfl rfl ?_
  refine st_aload c66_22 rfl ?_
  refine st_iconst c66_23 ?_
  refine tl_na (z := 2) (T' := [.inr (7, [.int 0, .int 0, .int 0, .int 0, .int 0, .null, .int 0, .int 0, .int 0, .int 0, .null, vI (-1), vI (-1), .ref (h.length + 4 + 1), .null, .null]), .inl (1, (60, .inl (fun _ => 0))), .inl (0, (2, .inl (fun _ => 0)))]) c66_24 (by decide) rfl rfl rfl ?_
  refine st_dup c66_26 rfl ?_
  refine st_iconst c66_27 ?_
  refine st_iconst c66_28 ?_
  refine tl_ist (k := 2) (T' := [.inr (7, [.int 0, .int 0, .int 0, .int 0, .int 0, .null, .int 0, .int 0, .int 0, .int 0, .null, vI (-1), vI (-1), .ref (h.length + 4 + 1), .null, .null]), .inl (1, (60, .inl (fun _ => 0))), .inl (0, (2, .inl (upd (fun _ => 0) 0 (Int32.ofInt (-1)))))]) c66_29 rfl (by omega) rfl ?_
  refine st_dup c66_30 rfl ?_
  refine st_iconst c66_31 ?_
  refine st_iconst c66_32 ?_
  refine tl_ist (k := 2) (T' := [.inr (7, [.int 0, .int 0, .int 0, .int 0, .int 0, .null, .int 0, .int 0, .int 0, .int 0, .null, vI (-1), vI (-1), .ref (h.length + 4 + 1), .null, .null]), .inl (1, (60, .inl (fun _ => 0))), .inl (0, (2, .inl (upd (upd (fun _ => 0) 0 (Int32.ofInt (-1))) 1 (Int32.ofInt (-1)))))]) c66_33 rfl (by omega) rfl ?_
  refine tl_put (k := 0) (T' := [.inr (7, [.int 0, .int 0, .int 0, .int 0, .int 0, .null, .int 0, .int 0, .int 0, .int 0, .null, vI (-1), vI (-1), .ref (h.length + 4 + 1), .ref (h.length + 4 + 2), .null]), .inl (1, (60, .inl (fun _ => 0))), .inl (0, (2, .inl (upd (upd (fun _ => 0) 0 (Int32.ofInt (-1))) 1 (Int32.ofInt (-1)))))]) c66_34 rfl rfl rfl rfl rfl ?_
  refine st_aload c66_37 rfl ?_
  refine st_iconst c66_38 ?_
  refine tl_na (z := 2) (T' := [.inr (7, [.int 0, .int 0, .int 0, .int 0, .int 0, .null, .int 0, .int 0, .int 0, .int 0, .null, vI (-1), vI (-1), .ref (h.length + 4 + 1), .ref (h.length + 4 + 2), .null]), .inl (1, (60, .inl (fun _ => 0))), .inl (0, (2, .inl (upd (upd (fun _ => 0) 0 (Int32.ofInt (-1))) 1 (Int32.ofInt (-1))))), .inl (0, (2, .inl (fun _ => 0)))]) c66_39 (by decide) rfl rfl rfl ?_
  refine st_dup c66_41 rfl ?_
  refine st_iconst c66_42 ?_
  refine st_iconst c66_43 ?_
  refine tl_ist (k := 3) (T' := [.inr (7, [.int 0, .int 0, .int 0, .int 0, .int 0, .null, .int 0, .int 0, .int 0, .int 0, .null, vI (-1), vI (-1), .ref (h.length + 4 + 1), .ref (h.length + 4 + 2), .null]), .inl (1, (60, .inl (fun _ => 0))), .inl (0, (2, .inl (upd (upd (fun _ => 0) 0 (Int32.ofInt (-1))) 1 (Int32.ofInt (-1))))), .inl (0, (2, .inl (upd (fun _ => 0) 0 (Int32.ofInt (-1)))))]) c66_44 rfl (by omega) rfl ?_
  refine st_dup c66_45 rfl ?_
  refine st_iconst c66_46 ?_
  refine st_iconst c66_47 ?_
  refine tl_ist (k := 3) (T' := [.inr (7, [.int 0, .int 0, .int 0, .int 0, .int 0, .null, .int 0, .int 0, .int 0, .int 0, .null, vI (-1), vI (-1), .ref (h.length + 4 + 1), .ref (h.length + 4 + 2), .null]), .inl (1, (60, .inl (fun _ => 0))), .inl (0, (2, .inl (upd (upd (fun _ => 0) 0 (Int32.ofInt (-1))) 1 (Int32.ofInt (-1))))), .inl (0, (2, .inl (upd (upd (fun _ => 0) 0 (Int32.ofInt (-1))) 1 (Int32.ofInt (-1)))))]) c66_48 rfl (by omega) rfl ?_
  refine tl_put (k := 0) (T' := [.inr (7, [.int 0, .int 0, .int 0, .int 0, .int 0, .null, .int 0, .int 0, .int 0, .int 0, .null, vI (-1), vI (-1), .ref (h.length + 4 + 1), .ref (h.length + 4 + 2), .ref (h.length + 4 + 3)]), .inl (1, (60, .inl (fun _ => 0))), .inl (0, (2, .inl (upd (upd (fun _ => 0) 0 (Int32.ofInt (-1))) 1 (Int32.ofInt (-1))))), .inl (0, (2, .inl (upd (upd (fun _ => 0) 0 (Int32.ofInt (-1))) 1 (Int32.ofInt (-1)))))]) c66_49 rfl rfl rfl rfl rfl ?_
  refine st_aload c66_52 rfl ?_
  refine st_iload c66_53 rfl ?_
  refine tl_put (k := 0) (T' := [.inr (7, [vI p1, .int 0, .int 0, .int 0, .int 0, .null, .int 0, .int 0, .int 0, .int 0, .null, vI (-1), vI (-1), .ref (h.length + 4 + 1), .ref (h.length + 4 + 2), .ref (h.length + 4 + 3)]), .inl (1, (60, .inl (fun _ => 0))), .inl (0, (2, .inl (upd (upd (fun _ => 0) 0 (Int32.ofInt (-1))) 1 (Int32.ofInt (-1))))), .inl (0, (2, .inl (upd (upd (fun _ => 0) 0 (Int32.ofInt (-1))) 1 (Int32.ofInt (-1)))))]) c66_54 rfl rfl rfl rfl rfl ?_
  refine st_aload c66_57 rfl ?_
  refine st_aload c66_58 rfl ?_
  refine tl_put (k := 0) (T' := [.inr (7, [vI p1, .int 0, .int 0, .int 0, .int 0, .ref q2, .int 0, .int 0, .int 0, .int 0, .null, vI (-1), vI (-1), .ref (h.length + 4 + 1), .ref (h.length + 4 + 2), .ref (h.length + 4 + 3)]), .inl (1, (60, .inl (fun _ => 0))), .inl (0, (2, .inl (upd (upd (fun _ => 0) 0 (Int32.ofInt (-1))) 1 (Int32.ofInt (-1))))), .inl (0, (2, .inl (upd (upd (fun _ => 0) 0 (Int32.ofInt (-1))) 1 (Int32.ofInt (-1)))))]) c66_59 rfl rfl rfl rfl rfl ?_
  refine st_aload c66_62 rfl ?_
  refine st_iload c66_63 rfl ?_
  refine tl_put (k := 0) (T' := [.inr (7, [vI p1, vI p3, .int 0, .int 0, .int 0, .ref q2, .int 0, .int 0, .int 0, .int 0, .null, vI (-1), vI (-1), .ref (h.length + 4 + 1), .ref (h.length + 4 + 2), .ref (h.length + 4 + 3)]), .inl (1, (60, .inl (fun _ => 0))), .inl (0, (2, .inl (upd (upd (fun _ => 0) 0 (Int32.ofInt (-1))) 1 (Int32.ofInt (-1))))), .inl (0, (2, .inl (upd (upd (fun _ => 0) 0 (Int32.ofInt (-1))) 1 (Int32.ofInt (-1)))))]) c66_64 rfl rfl rfl rfl rfl ?_
  refine st_aload c66_67 rfl ?_
  refine st_iload c66_68 rfl ?_
  refine tl_put (k := 0) (T' := [.inr (7, [vI p1, vI p3, vI p4, .int 0, .int 0, .ref q2, .int 0, .int 0, .int 0, .int 0, .null, vI (-1), vI (-1), .ref (h.length + 4 + 1), .ref (h.length + 4 + 2), .ref (h.length + 4 + 3)]), .inl (1, (60, .inl (fun _ => 0))), .inl (0, (2, .inl (upd (upd (fun _ => 0) 0 (Int32.ofInt (-1))) 1 (Int32.ofInt (-1))))), .inl (0, (2, .inl (upd (upd (fun _ => 0) 0 (Int32.ofInt (-1))) 1 (Int32.ofInt (-1)))))]) c66_70 rfl rfl rfl rfl rfl ?_
  refine st_aload c66_73 rfl ?_
  refine st_iload c66_74 rfl ?_
  refine tl_put (k := 0) (T' := [.inr (7, [vI p1, vI p3, vI p4, vI p5, .int 0, .ref q2, .int 0, .int 0, .int 0, .int 0, .null, vI (-1), vI (-1), .ref (h.length + 4 + 1), .ref (h.length + 4 + 2), .ref (h.length + 4 + 3)]), .inl (1, (60, .inl (fun _ => 0))), .inl (0, (2, .inl (upd (upd (fun _ => 0) 0 (Int32.ofInt (-1))) 1 (Int32.ofInt (-1))))), .inl (0, (2, .inl (upd (upd (fun _ => 0) 0 (Int32.ofInt (-1))) 1 (Int32.ofInt (-1)))))]) c66_76 rfl rfl rfl rfl rfl ?_
  refine st_aload c66_79 rfl ?_
  refine st_iload c66_80 rfl ?_
  refine tl_put (k := 0) (T' := [.inr (7, [vI p1, vI p3, vI p4, vI p5, vI p6, .ref q2, .int 0, .int 0, .int 0, .int 0, .null, vI (-1), vI (-1), .ref (h.length + 4 + 1), .ref (h.length + 4 + 2), .ref (h.length + 4 + 3)]), .inl (1, (60, .inl (fun _ => 0))), .inl (0, (2, .inl (upd (upd (fun _ => 0) 0 (Int32.ofInt (-1))) 1 (Int32.ofInt (-1))))), .inl (0, (2, .inl (upd (upd (fun _ => 0) 0 (Int32.ofInt (-1))) 1 (Int32.ofInt (-1)))))]) c66_82 rfl rfl rfl rfl rfl ?_
  refine st_return c66_85 ?_
  exact ⟨rfl, rfl⟩
theorem KI112 {X : List mE} {h : List mE} {e0 : mE} (p1 : Int) (p2 : Int) (p3 : Int) (q4 : Nat) (d : Nat) (hd : 0 ≤ d) : MR X d 112 0 [some (.ref (h.length + 4 + 0)), some (vI p1), some (vI p2), some (vI p3), some (.ref q4)] [] (h ++ [.inr (10, [.int 0, .int 0, .int 0, .null]), e0]) (fun v h' => v = none ∧ h' = h ++ [.inr (10, [vI p1, vI p2, vI p3, .ref q4]), e0]) := by
  refine st_aload c112_0 rfl ?_
  refine st_oinit c112_1 (mc4 rfl) ?_
  refine st_aload c112_4 rfl ?_
  refine st_iload c112_5 rfl ?_
  refine tl_put (k := 0) (T' := [.inr (10, [vI p1, .int 0, .int 0, .null]), e0]) c112_6 rfl rfl rfl rfl rfl ?_
  refine st_aload c112_9 rfl ?_
  refine st_iload c112_10 rfl ?_
  refine tl_put (k := 0) (T' := [.inr (10, [vI p1, vI p2, .int 0, .null]), e0]) c112_11 rfl rfl rfl rfl rfl ?_
  refine st_aload c112_14 rfl ?_
  refine st_iload c112_15 rfl ?_
  refine tl_put (k := 0) (T' := [.inr (10, [vI p1, vI p2, vI p3, .null]), e0]) c112_16 rfl rfl rfl rfl rfl ?_
  refine st_aload c112_19 rfl ?_
  refine st_aload c112_20 rfl ?_
  refine tl_put (k := 0) (T' := [.inr (10, [vI p1, vI p2, vI p3, .ref q4]), e0]) c112_22 rfl rfl rfl rfl rfl ?_
  refine st_return c112_25 ?_
  exact ⟨rfl, rfl⟩
