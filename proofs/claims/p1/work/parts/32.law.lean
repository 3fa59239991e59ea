/-! THE LAW, FOR EVERY SCRIPT OF AT MOST SIX INTS -/
theorem and63 (x : Int32) : ∃ k : Nat, k < 64 ∧ (x &&& 63).toInt = k := by
  have h : (x &&& 63).toBitVec.toNat ≤ 63 := by
    rw [Int32.toBitVec_and, BitVec.toNat_and]
    exact Nat.le_trans Nat.and_le_right (by decide)
  exact ⟨(x &&& 63).toBitVec.toNat, by omega, BitVec.toInt_eq_toNat_of_lt (by omega)⟩
theorem rF_nil {val : Nat → Int32} : rF val ([], []) := ⟨fun _ h => absurd h List.not_mem_nil, fun _ h => absurd h List.not_mem_nil⟩
theorem rF_k {val : Nat → Int32} {k : Nat} {a z : Int} (h : (val 0 &&& 63).toInt = k) (h1 : a ≤ k) (h2 : (k : Int) ≤ z) : rF val ([((0, [(6, 63)]), (a, z))], []) := by
  refine ⟨fun q hq => ?_, fun _ h => absurd h List.not_mem_nil⟩
  have e : q = ((0, [(6, 63)]), (a, z)) := List.mem_singleton.mp hq
  subst e
  show a ≤ (val 0 &&& 63).toInt ∧ (val 0 &&& 63).toInt ≤ z
  rw [h]
  exact ⟨h1, h2⟩
theorem run_6 (val : Nat → Int32) : ∃ f h1, mrun (mex 6 val) f 300 mLaw 0 (lent [.ref 0] 4) [] [] = some (some (.int 1), h1) ∧ h1.length ≤ 600000 ∧ mhs h1 ≤ 7302250 := by
  obtain ⟨k, hk, h⟩ := and63 (val 0)
  match k, hk, h with
  | 0, _, h => exact sx_run sx_k0 (rF_k h (by decide) (by decide))
  | 1, _, h => exact sx_run sx_k1 (rF_k h (by decide) (by decide))
  | 2, _, h => exact sx_run sx_k2 (rF_k h (by decide) (by decide))
  | 3, _, h => exact sx_run sx_k3 (rF_k h (by decide) (by decide))
  | 4, _, h => exact sx_run sx_k4 (rF_k h (by decide) (by decide))
  | 5, _, h => exact sx_run sx_k5 (rF_k h (by decide) (by decide))
  | 6, _, h => exact sx_run sx_k6 (rF_k h (by decide) (by decide))
  | 7, _, h => exact sx_run sx_k7 (rF_k h (by decide) (by decide))
  | 8, _, h => exact sx_run sx_k8 (rF_k h (by decide) (by decide))
  | 9, _, h => exact sx_run sx_k9 (rF_k h (by decide) (by decide))
  | 10, _, h => exact sx_run sx_k10 (rF_k h (by decide) (by decide))
  | 11, _, h => exact sx_run sx_k11 (rF_k h (by decide) (by decide))
  | 12, _, h => exact sx_run sx_k12 (rF_k h (by decide) (by decide))
  | 13, _, h => exact sx_run sx_k13 (rF_k h (by decide) (by decide))
  | 14, _, h => exact sx_run sx_k14 (rF_k h (by decide) (by decide))
  | 15, _, h => exact sx_run sx_k15 (rF_k h (by decide) (by decide))
  | 16, _, h => exact sx_run sx_k16 (rF_k h (by decide) (by decide))
  | 17, _, h => exact sx_run sx_k17 (rF_k h (by decide) (by decide))
  | 18, _, h => exact sx_run sx_k18 (rF_k h (by decide) (by decide))
  | 19, _, h => exact sx_run sx_k19 (rF_k h (by decide) (by decide))
  | 20, _, h => exact sx_run sx_k20 (rF_k h (by decide) (by decide))
  | 21, _, h => exact sx_run sx_k21 (rF_k h (by decide) (by decide))
  | 22, _, h => exact sx_run sx_k22 (rF_k h (by decide) (by decide))
  | 23, _, h => exact sx_run sx_k23 (rF_k h (by decide) (by decide))
  | 24, _, h => exact sx_run sx_k24 (rF_k h (by decide) (by decide))
  | 25, _, h => exact sx_run sx_k25 (rF_k h (by decide) (by decide))
  | 26, _, h => exact sx_run sx_k26 (rF_k h (by decide) (by decide))
  | 27, _, h => exact sx_run sx_k27 (rF_k h (by decide) (by decide))
  | 28, _, h => exact sx_run sx_k28 (rF_k h (by decide) (by decide))
  | 29, _, h => exact sx_run sx_k29 (rF_k h (by decide) (by decide))
  | 30, _, h => exact sx_run sx_k30 (rF_k h (by decide) (by decide))
  | 31, _, h => exact sx_run sx_k31 (rF_k h (by decide) (by decide))
  | 32, _, h => exact sx_run sx_k32 (rF_k h (by decide) (by decide))
  | 33, _, h => exact sx_run sx_k33 (rF_k h (by decide) (by decide))
  | 34, _, h => exact sx_run sx_k34 (rF_k h (by decide) (by decide))
  | 35, _, h => exact sx_run sx_k35 (rF_k h (by decide) (by decide))
  | 36, _, h => exact sx_run sx_k36 (rF_k h (by decide) (by decide))
  | 37, _, h => exact sx_run sx_k37 (rF_k h (by decide) (by decide))
  | 38, _, h => exact sx_run sx_k38 (rF_k h (by decide) (by decide))
  | 39, _, h => exact sx_run sx_k39 (rF_k h (by decide) (by decide))
  | 40, _, h => exact sx_run sx_k40 (rF_k h (by decide) (by decide))
  | 41, _, h => exact sx_run sx_k41 (rF_k h (by decide) (by decide))
  | 42, _, h => exact sx_run sx_k42 (rF_k h (by decide) (by decide))
  | 43, _, h => exact sx_run sx_k43 (rF_k h (by decide) (by decide))
  | 44, _, h => exact sx_run sx_k44 (rF_k h (by decide) (by decide))
  | 45, _, h => exact sx_run sx_k45 (rF_k h (by decide) (by decide))
  | 46, _, h => exact sx_run sx_k46 (rF_k h (by decide) (by decide))
  | 47, _, h => exact sx_run sx_k47 (rF_k h (by decide) (by decide))
  | n + 48, hk, h => exact sx_run sx_k48 (rF_k h (by omega) (by omega))
theorem run_any (L : Nat) (hL : L ≤ 6) (val : Nat → Int32) : ∃ f h1, mrun (mex L val) f 300 mLaw 0 (lent [.ref 0] 4) [] [] = some (some (.int 1), h1) ∧ h1.length ≤ 600000 ∧ mhs h1 ≤ 7302250 := by
  match L, hL with
  | 0, _ => exact sx_run sx_L0 rF_nil
  | 1, _ => exact sx_run sx_L1 rF_nil
  | 2, _ => exact sx_run sx_L2 rF_nil
  | 3, _ => exact sx_run sx_L3 rF_nil
  | 4, _ => exact sx_run sx_L4 rF_nil
  | 5, _ => exact sx_run sx_L5 rF_nil
  | 6, _ => exact run_6 val
  | n + 7, hL => omega
theorem whole_start {p : Program} {e : Env} {s : State} {m : MethodId} {below : List Frame} {meth : Method} {c : Code} (l : Launch) (hflags : l.flags = flags0) {b L : Nat} {xs : Nat → Int32} (hL : L ≤ 6) (C0 : lw_At p s m meth c b L xs) : W p l e room_1 s m #[Value.ref b] below meth c s.heap [] 0 0 (lw_Z below #[Value.ref b] s) (entryFrame m ([Value.ref b] : List Value).toArray 4) := by
  obtain ⟨f, h1, hr, hc, hs⟩ := run_any L hL xs
  exact whole_of_run mchk hlaw l C0 (by decide) (by decide) hr hc hs
