set_option maxHeartbeats 0 in
theorem K262 {k : Int} {S F P : Int → Int} {a : Int} {Ln : Nat} {xs : Nat → Int32} {τ : List Nat} {h : List mE} {E : EP} (hT : TH E τ h) (hS : Stb E Wp12) (pre0 : fI h 64 86≤fI h 64 87) (pre1 : fI h 64 87≤fI h 64 77) (pre2 : fI h 64 88 = 0 ∨ fI h 64 86 + 1 ≤ fI h 64 87) (pre3 : fI h 64 93≤fI h 64 86+1) (pre4 : fI h 64 91 = k ∧ 0 ≤ k ∧ k ≤ 8) (pre5 : k < 8 → C262 (k + 1)) (pre6 : fI h 64 90<0) (pre7 : CU S F P h a) (d : Nat) (hd : 84 - 7 * k ≤ (d : Int)) (Q : Option Value → List mE → Prop) (hQ : ∀ v h', (v = none ∧ (fI h 64 86≤fI h' 64 86) ∧ (fI h' 64 86≤fI h' 64 87) ∧ (fI h' 64 87≤fI h 64 77) ∧ (fI h' 64 88 = 0 ∨ fI h' 64 86 + 1 ≤ fI h' 64 87) ∧ (fI h 64 90 < 0 ∨ 0 ≤ fI h' 64 90) ∧ (fI h' 64 93 - fI h' 64 86 ≤ fI h 64 93 - fI h 64 86) ∧ (fI h 64 93≤fI h' 64 93) ∧ (0 ≤ fI h' 64 90 ∨ fI h' 64 91 = fI h 64 91) ∧ (∀ i : Int, 0 ≤ i → i < 220 * fI h 64 92 + fI h 64 93 → aI h' 129 i = aI h 129 i) ∧ (∀ i : Int, 0 ≤ i → i < 220 * fI h 64 92 + fI h 64 93 → aI h' 130 i = aI h 130 i) ∧ (0 ≤ fI h' 64 90 ∨ Sg h' (220 * fI h 64 92 + fI h 64 93) (fI h' 64 93 - fI h 64 93)) ∧ (RMx S F P 0 k h h' a) ∧ TH E τ h' ∧ Fr τ Wp12 h h') → Q v h') : MR (mex Ln xs) d 262 0 [some (.ref 64), none] [] h Q := by
  have hF := Fr_rf τ Wp12 h
  have e1 := fI_bd (q := 64) hT (tf hT rfl rfl) fd_8_86
  have e2 := fI_bd (q := 64) hT (tf hT rfl rfl) fd_8_87
  have e3 := fI_bd (q := 64) hT (tf hT rfl rfl) fd_8_77
  have e4 := fI_bd (q := 64) hT (tf hT rfl rfl) fd_8_93
  have e5 := fI_bd (q := 64) hT (tf hT rfl rfl) fd_8_90
  refine st_aload c262_0 rfl ?_
  have e6 := fI_bd (q := 64) hT (tf hT rfl rfl) fd_8_86
  have e7 := fI_bd (q := 64) hT (tf hT rfl rfl) fd_8_77
  have e8 := fI_bd (q := 64) hT (tf hT rfl rfl) fd_8_90
  have e9 := fI_bd (q := 64) hT (tf hT rfl rfl) fd_8_93
  have e10 := fI_bd (q := 64) hT (tf hT rfl rfl) fd_8_91
  have e11 := fI_bd (q := 64) hT (tf hT rfl rfl) fd_8_92
  have e12 := fI_bd (q := 64) hT (tf hT rfl rfl) fd_8_87
  have e13 := fI_bd (q := 64) hT (tf hT rfl rfl) fd_8_88
  refine st_callt (as := []) c262_1 cm_261 hT (tf hT rfl rfl) fd_8_0 rfl rfl rfl rfl (by omega) (K261 (k := k) hT (Stb_mono hS (by decide +kernel)) (by omega) (by omega) (by omega) (by omega) (by omega) pre5 (by omega) pre7 (d - 1) (by omega) _ (fun v h0 H => H)) (fun v1 h14 H => ?_)
  obtain ⟨rfl, pf17, pf18, pf19, pf20, pf21, pf22, pf23, pf24, pf25, pf26, pf27, pf28, hT15, hF16⟩ := H
  have hF29 := Fr_cp hF hF16 (by decide +kernel : Wsub Wp12 Wp12 = true)
  have e30 := fI_bd (q := 64) hT15 (tf hT15 rfl rfl) fd_8_86
  have e31 := fI_bd (q := 64) hT15 (tf hT15 rfl rfl) fd_8_87
  have e32 := fI_bd (q := 64) hT15 (tf hT15 rfl rfl) fd_8_88
  have e33 := fI_bd (q := 64) hT15 (tf hT15 rfl rfl) fd_8_90
  have e34 := fI_bd (q := 64) hT15 (tf hT15 rfl rfl) fd_8_93
  have e35 := fI_bd (q := 64) hT15 (tf hT15 rfl rfl) fd_8_91
  have lp187 : ∀ (n188 : Nat) (h183 : List mE), fI h183 64 77 - fI h183 64 86 < (n188 : Int) → fI h 64 86 ≤ fI h183 64 86 → fI h183 64 86 ≤ fI h183 64 87 → fI h183 64 87 ≤ fI h183 64 77 → fI h183 64 88 = 0 ∨ fI h183 64 86 + 1 ≤ fI h183 64 87 → fI h 64 90 < 0 ∨ 0 ≤ fI h183 64 90 → fI h183 64 93 - fI h183 64 86 ≤ fI h 64 93 - fI h 64 86 → fI h 64 93 ≤ fI h183 64 93 → 0 ≤ fI h183 64 90 ∨ fI h183 64 91 = fI h 64 91 → (∀ i : Int, 0 ≤ i → i < 220 * fI h 64 92 + fI h 64 93 → aI h183 129 i = aI h 129 i) → (∀ i : Int, 0 ≤ i → i < 220 * fI h 64 92 + fI h 64 93 → aI h183 130 i = aI h 130 i) → 0 ≤ fI h183 64 90 ∨ Sg h183 (220 * fI h 64 92 + fI h 64 93) (fI h183 64 93 - fI h 64 93) → fI h183 64 77 = fI h 64 77 → fI h183 64 92 = fI h 64 92 → RLx S F P 0 3 k h h183 a → TH E τ h183 → Fr τ Wp12 h h183 → Fr τ [(8, 86), (8, 87), (8, 88), (8, 89), (8, 90), (8, 91), (8, 93), (107, 0), (108, 0), (109, 0)] h14 h183 → MR (mex Ln xs) d 262 4 [some (.ref 64), none] [] h183 Q := by
    intro n188
    induction n188 with
    | zero =>
      intro h183 hm190 x191 x192 x193 x194 x195 x196 x197 x198 x199 x200 x201 x202 x203 x204 hT184 hF185 hL186
      exfalso; omega
    | succ n188 ih189 =>
      intro h183 hm190 x191 x192 x193 x194 x195 x196 x197 x198 x199 x200 x201 x202 x203 x204 hT184 hF185 hL186
      have e205 := fI_bd (q := 64) hT184 (tf hT184 rfl rfl) fd_8_86
      have e206 := fI_bd (q := 64) hT184 (tf hT184 rfl rfl) fd_8_87
      have e207 := fI_bd (q := 64) hT184 (tf hT184 rfl rfl) fd_8_77
      have q208 : fI h183 64 77 = fI h 64 77 := (Fr_fI hL186 (tf hT15 rfl rfl) (by decide +kernel)).trans (Fr_fI hF16 (tf hT rfl rfl) (by decide +kernel))
      have e209 := fI_bd (q := 64) hT184 (tf hT184 rfl rfl) fd_8_88
      have e210 := fI_bd (q := 64) hT184 (tf hT184 rfl rfl) fd_8_90
      have e211 := fI_bd (q := 64) hT184 (tf hT184 rfl rfl) fd_8_93
      have e212 := fI_bd (q := 64) hT184 (tf hT184 rfl rfl) fd_8_91
      have e213 := fI_bd (q := 64) hT184 (tf hT184 rfl rfl) fd_8_92
      have q214 : fI h183 64 92 = fI h 64 92 := (Fr_fI hL186 (tf hT15 rfl rfl) (by decide +kernel)).trans (Fr_fI hF16 (tf hT rfl rfl) (by decide +kernel))
      refine st_aload c262_4 rfl ?_
      refine st_getI c262_5 hT184 (tf hT184 rfl rfl) fd_8_90 (fun e215 e216 => ?_)
      refine st_if_ge c262_8 (by omega) (fun k217 => ?_) (fun k218 => ?_)
      refine st_return c262_52 ?_
      have fr219 : ∀ i : Int, 0 ≤ i → i < 220 * fI h 64 92 + fI h 64 93 → aI h183 129 i = aI h 129 i := fun i a b => (x199 i a b)
      have fr220 : ∀ i : Int, 0 ≤ i → i < 220 * fI h 64 92 + fI h 64 93 → aI h183 130 i = aI h 130 i := fun i a b => (x200 i a b)
      exact hQ _ _ ⟨rfl, by omega, by omega, by omega, by omega, by omega, by omega, by omega, by omega, fr219, fr220, x201, RL_f x204 (by omega) (by omega), hT184, hF185⟩
      obtain ⟨e221, b222, cu223, ct224⟩ := RL_g x204 (by omega)
      have cf225 := CU_F cu223
      have ct226 := CU_t cu223 (c := 43) (by decide) (by decide) (by decide)
      have ct227 := CU_t cu223 (c := 45) (by decide) (by decide) (by decide)
      refine st_aload c262_11 rfl ?_
      refine st_getI c262_12 hT184 (tf hT184 rfl rfl) fd_8_88 (fun e228 e229 => ?_)
      refine st_iconst c262_15 ?_
      refine st_icmp_eq c262_17 (by omega) (by omega) (fun k230 => ?_) (fun k231 => ?_)
      refine st_aload c262_29 rfl ?_
      refine st_getI c262_30 hT184 (tf hT184 rfl rfl) fd_8_88 (fun e232 e233 => ?_)
      refine st_istore (L' := [some (.ref 64), some (vI (fI h183 64 88))]) c262_33 rfl rfl ?_
      refine st_aload c262_34 rfl ?_
      refine st_callt (as := []) c262_35 cm_252 hT184 (tf hT184 rfl rfl) fd_8_0 rfl rfl rfl rfl (by omega) (K252 hT184 (Stb_mono hS (by decide +kernel)) (by omega) (CU_nx cu223) (d - 1) (by omega) _ (fun v h0 H => H)) (fun v1 h234 H => ?_)
      obtain ⟨rfl, pf237, pf238, pf239, pf240, pf241, hT235, hF236⟩ := H
      have hF242 := Fr_cp hF185 hF236 (by decide +kernel : Wsub W252 Wp12 = true)
      have e243 := fI_bd (q := 64) hT235 (tf hT235 rfl rfl) fd_8_86
      have e244 := fI_bd (q := 64) hT235 (tf hT235 rfl rfl) fd_8_87
      have e245 := fI_bd (q := 64) hT235 (tf hT235 rfl rfl) fd_8_88
      refine st_aload c262_38 rfl ?_
      have e246 := fI_bd (q := 64) hT235 (tf hT235 rfl rfl) fd_8_77
      have q247 : fI h234 64 77 = fI h183 64 77 := Fr_fI hF236 (tf hT184 rfl rfl) (by decide +kernel)
      have e248 := fI_bd (q := 64) hT235 (tf hT235 rfl rfl) fd_8_90
      have q249 : fI h234 64 90 = fI h183 64 90 := Fr_fI hF236 (tf hT184 rfl rfl) (by decide +kernel)
      have e250 := fI_bd (q := 64) hT235 (tf hT235 rfl rfl) fd_8_93
      have q251 : fI h234 64 93 = fI h183 64 93 := Fr_fI hF236 (tf hT184 rfl rfl) (by decide +kernel)
      have e252 := fI_bd (q := 64) hT235 (tf hT235 rfl rfl) fd_8_91
      have q253 : fI h234 64 91 = fI h183 64 91 := Fr_fI hF236 (tf hT184 rfl rfl) (by decide +kernel)
      have e254 := fI_bd (q := 64) hT235 (tf hT235 rfl rfl) fd_8_92
      have q255 : fI h234 64 92 = fI h183 64 92 := Fr_fI hF236 (tf hT184 rfl rfl) (by decide +kernel)
      refine st_callt (as := []) c262_39 cm_261 hT235 (tf hT235 rfl rfl) fd_8_0 rfl rfl rfl rfl (by omega) (K261 (k := k) hT235 (Stb_mono hS (by decide +kernel)) (by omega) (by omega) (by omega) (by omega) (by omega) pre5 (by omega) pf241 (d - 1) (by omega) _ (fun v h0 H => H)) (fun v1 h256 H => ?_)
      obtain ⟨rfl, pf259, pf260, pf261, pf262, pf263, pf264, pf265, pf266, pf267, pf268, pf269, pf270, hT257, hF258⟩ := H
      have hF271 := Fr_cp hF242 hF258 (by decide +kernel : Wsub Wp12 Wp12 = true)
      have e272 := fI_bd (q := 64) hT257 (tf hT257 rfl rfl) fd_8_86
      have e273 := fI_bd (q := 64) hT257 (tf hT257 rfl rfl) fd_8_87
      have e274 := fI_bd (q := 64) hT257 (tf hT257 rfl rfl) fd_8_88
      have e275 := fI_bd (q := 64) hT257 (tf hT257 rfl rfl) fd_8_90
      have e276 := fI_bd (q := 64) hT257 (tf hT257 rfl rfl) fd_8_93
      have e277 := fI_bd (q := 64) hT257 (tf hT257 rfl rfl) fd_8_91
      refine st_aload c262_42 rfl ?_
      refine st_iload c262_43 rfl ?_
      refine st_iconst c262_44 ?_
      refine st_iconst c262_45 ?_
      have e278 := fI_bd (q := 64) hT257 (tf hT257 rfl rfl) fd_8_92
      have q279 : fI h256 64 92 = fI h234 64 92 := Fr_fI hF258 (tf hT235 rfl rfl) (by decide +kernel)
      refine st_callt (as := [vI (fI h183 64 88), vI 0, vI 0]) c262_46 cm_255 hT257 (tf hT257 rfl rfl) fd_8_0 rfl rfl rfl rfl (by omega) (K255 hT257 (Stb_mono hS (by decide +kernel)) (fI h183 64 88) (by omega) 0 (by omega) 0 (by omega) (by omega) (d - 1) (by omega) _ (fun v h0 H => H)) (fun v1 h280 H => ?_)
      obtain ⟨rfl, pf283, pf284, pf285, pf286, pf287, hT281, hF282⟩ := H
      have hF288 := Fr_cp hF271 hF282 (by decide +kernel : Wsub W255 Wp12 = true)
      have e289 := fI_bd (q := 64) hT281 (tf hT281 rfl rfl) fd_8_93
      refine st_goto c262_49 ?_
      refine MR_weak (A := [some (.ref 64), none]) (Lle_s (Lle_n (Lle_0))) ?_
      have e290 := fI_bd (q := 64) hT281 (tf hT281 rfl rfl) fd_8_92
      have q291 : fI h280 64 92 = fI h256 64 92 := Fr_fI hF282 (tf hT257 rfl rfl) (by decide +kernel)
      have e292 := fI_bd (q := 64) hT281 (tf hT281 rfl rfl) fd_8_90
      have q293 : fI h280 64 90 = fI h256 64 90 := Fr_fI hF282 (tf hT257 rfl rfl) (by decide +kernel)
      have sg294 : 0 ≤ fI h280 64 90 ∨ Sg h280 (220 * fI h 64 92 + fI h 64 93) (fI h280 64 93 - fI h 64 93) := by
        rcases pf269 with q | q
        · exact Or.inl (by omega)
        · have gx := x201.resolve_left (by omega)
          have fr295 : ∀ i : Int, 0 ≤ i → i < 220 * fI h 64 92 + fI h 64 93 + (fI h183 64 93 - fI h 64 93) → aI h280 129 i = aI h183 129 i := fun i a b => ((pf286 i a (by omega))).trans (((pf267 i a (by omega))).trans ((Fr_aI hF236 (tf hT184 rfl rfl) (by decide +kernel) i)))
          have fr296 : ∀ i : Int, 0 ≤ i → i < 220 * fI h 64 92 + fI h 64 93 + (fI h183 64 93 - fI h 64 93) → aI h280 130 i = aI h183 130 i := fun i a b => ((pf287 i a (by omega))).trans (((pf268 i a (by omega))).trans ((Fr_aI hF236 (tf hT184 rfl rfl) (by decide +kernel) i)))
          have k1 : Sg h280 (220 * fI h 64 92 + fI h 64 93) (fI h183 64 93 - fI h 64 93) := Sg_mv gx (fun i a b => ⟨fr295 i (by omega) (by omega), fr296 i (by omega) (by omega)⟩)
          have fr297 : ∀ i : Int, 0 ≤ i → i < 220 * fI h234 64 92 + fI h234 64 93 + (fI h256 64 93 - fI h234 64 93) → aI h280 129 i = aI h256 129 i := fun i a b => (pf286 i a (by omega))
          have fr298 : ∀ i : Int, 0 ≤ i → i < 220 * fI h234 64 92 + fI h234 64 93 + (fI h256 64 93 - fI h234 64 93) → aI h280 130 i = aI h256 130 i := fun i a b => (pf287 i a (by omega))
          have g299 : Sg h280 (220 * fI h234 64 92 + fI h234 64 93) (fI h256 64 93 - fI h234 64 93) := Sg_mv q (fun i a b => ⟨fr297 i (by omega) (by omega), fr298 i (by omega) (by omega)⟩)
          have k2 : Sg h280 (220 * fI h 64 92 + fI h 64 93 + (fI h183 64 93 - fI h 64 93)) (fI h256 64 93 - fI h234 64 93) := by rw [show 220 * fI h 64 92 + fI h 64 93 + (fI h183 64 93 - fI h 64 93) = 220 * fI h234 64 92 + fI h234 64 93 by omega]; exact g299
          have a1 : aI h280 129 (220 * fI h256 64 92 + fI h256 64 93) = fI h183 64 88 := (rfl).trans pf284
          refine Or.inr ?_
          rw [show fI h280 64 93 - fI h 64 93 = (fI h183 64 93 - fI h 64 93) + (fI h256 64 93 - fI h234 64 93) + 1 by omega]
          exact Sg_op k1 k2 (by rw [show 220 * fI h 64 92 + fI h 64 93 + (fI h183 64 93 - fI h 64 93) + (fI h256 64 93 - fI h234 64 93) = 220 * fI h256 64 92 + fI h256 64 93 by omega, a1]; omega)
      have e300 := fI_bd (q := 64) hT281 (tf hT281 rfl rfl) fd_8_86
      have q301 : fI h280 64 86 = fI h256 64 86 := Fr_fI hF282 (tf hT257 rfl rfl) (by decide +kernel)
      have e302 := fI_bd (q := 64) hT281 (tf hT281 rfl rfl) fd_8_87
      have q303 : fI h280 64 87 = fI h256 64 87 := Fr_fI hF282 (tf hT257 rfl rfl) (by decide +kernel)
      have e304 := fI_bd (q := 64) hT281 (tf hT281 rfl rfl) fd_8_77
      have q305 : fI h280 64 77 = fI h234 64 77 := (Fr_fI hF282 (tf hT257 rfl rfl) (by decide +kernel)).trans (Fr_fI hF258 (tf hT235 rfl rfl) (by decide +kernel))
      have e306 := fI_bd (q := 64) hT281 (tf hT281 rfl rfl) fd_8_88
      have q307 : fI h280 64 88 = fI h256 64 88 := Fr_fI hF282 (tf hT257 rfl rfl) (by decide +kernel)
      have e308 := fI_bd (q := 64) hT281 (tf hT281 rfl rfl) fd_8_91
      have q309 : fI h280 64 91 = fI h256 64 91 := Fr_fI hF282 (tf hT257 rfl rfl) (by decide +kernel)
      have fr310 : ∀ i : Int, 0 ≤ i → i < 220 * fI h 64 92 + fI h 64 93 → aI h280 129 i = aI h 129 i := fun i a b => ((pf286 i a (by omega))).trans (((pf267 i a (by omega))).trans (((Fr_aI hF236 (tf hT184 rfl rfl) (by decide +kernel) i)).trans ((x199 i a b))))
      have fr311 : ∀ i : Int, 0 ≤ i → i < 220 * fI h 64 92 + fI h 64 93 → aI h280 130 i = aI h 130 i := fun i a b => ((pf287 i a (by omega))).trans (((pf268 i a (by omega))).trans (((Fr_aI hF236 (tf hT184 rfl rfl) (by decide +kernel) i)).trans ((x200 i a b))))
      exact ih189 h280 (by omega) (by omega) (by omega) (by omega) (by omega) (by omega) (by omega) (by omega) (by omega) fr310 fr311 sg294 (by omega) (by omega) (RL_s0 e221 ct224 (by omega) (by omega) pf270 (by omega) (fun b c => CU_fr c hT257 hF282 (by decide +kernel))) hT281 hF288 (Fr_cp (Fr_cp (Fr_cp hL186 hF236 (by decide +kernel)) hF258 (by decide +kernel)) hF282 (by decide +kernel))
      refine st_aload c262_20 rfl ?_
      refine st_getI c262_21 hT184 (tf hT184 rfl rfl) fd_8_88 (fun e312 e313 => ?_)
      refine st_iconst c262_24 ?_
      refine st_icmp_ne c262_26 (by omega) (by omega) (fun k314 => ?_) (fun k315 => ?_)
      refine st_return c262_52 ?_
      have fr316 : ∀ i : Int, 0 ≤ i → i < 220 * fI h 64 92 + fI h 64 93 → aI h183 129 i = aI h 129 i := fun i a b => (x199 i a b)
      have fr317 : ∀ i : Int, 0 ≤ i → i < 220 * fI h 64 92 + fI h 64 93 → aI h183 130 i = aI h 130 i := fun i a b => (x200 i a b)
      exact hQ _ _ ⟨rfl, by omega, by omega, by omega, by omega, by omega, by omega, by omega, by omega, fr316, fr317, x201, RM_ok (ct224 _ (P3_stop (by omega))) e221 cu223, hT184, hF185⟩
      refine st_aload c262_29 rfl ?_
      refine st_getI c262_30 hT184 (tf hT184 rfl rfl) fd_8_88 (fun e318 e319 => ?_)
      refine st_istore (L' := [some (.ref 64), some (vI (fI h183 64 88))]) c262_33 rfl rfl ?_
      refine st_aload c262_34 rfl ?_
      refine st_callt (as := []) c262_35 cm_252 hT184 (tf hT184 rfl rfl) fd_8_0 rfl rfl rfl rfl (by omega) (K252 hT184 (Stb_mono hS (by decide +kernel)) (by omega) (CU_nx cu223) (d - 1) (by omega) _ (fun v h0 H => H)) (fun v1 h320 H => ?_)
      obtain ⟨rfl, pf323, pf324, pf325, pf326, pf327, hT321, hF322⟩ := H
      have hF328 := Fr_cp hF185 hF322 (by decide +kernel : Wsub W252 Wp12 = true)
      have e329 := fI_bd (q := 64) hT321 (tf hT321 rfl rfl) fd_8_86
      have e330 := fI_bd (q := 64) hT321 (tf hT321 rfl rfl) fd_8_87
      have e331 := fI_bd (q := 64) hT321 (tf hT321 rfl rfl) fd_8_88
      refine st_aload c262_38 rfl ?_
      have e332 := fI_bd (q := 64) hT321 (tf hT321 rfl rfl) fd_8_77
      have q333 : fI h320 64 77 = fI h183 64 77 := Fr_fI hF322 (tf hT184 rfl rfl) (by decide +kernel)
      have e334 := fI_bd (q := 64) hT321 (tf hT321 rfl rfl) fd_8_90
      have q335 : fI h320 64 90 = fI h183 64 90 := Fr_fI hF322 (tf hT184 rfl rfl) (by decide +kernel)
      have e336 := fI_bd (q := 64) hT321 (tf hT321 rfl rfl) fd_8_93
      have q337 : fI h320 64 93 = fI h183 64 93 := Fr_fI hF322 (tf hT184 rfl rfl) (by decide +kernel)
      have e338 := fI_bd (q := 64) hT321 (tf hT321 rfl rfl) fd_8_91
      have q339 : fI h320 64 91 = fI h183 64 91 := Fr_fI hF322 (tf hT184 rfl rfl) (by decide +kernel)
      have e340 := fI_bd (q := 64) hT321 (tf hT321 rfl rfl) fd_8_92
      have q341 : fI h320 64 92 = fI h183 64 92 := Fr_fI hF322 (tf hT184 rfl rfl) (by decide +kernel)
      refine st_callt (as := []) c262_39 cm_261 hT321 (tf hT321 rfl rfl) fd_8_0 rfl rfl rfl rfl (by omega) (K261 (k := k) hT321 (Stb_mono hS (by decide +kernel)) (by omega) (by omega) (by omega) (by omega) (by omega) pre5 (by omega) pf327 (d - 1) (by omega) _ (fun v h0 H => H)) (fun v1 h342 H => ?_)
      obtain ⟨rfl, pf345, pf346, pf347, pf348, pf349, pf350, pf351, pf352, pf353, pf354, pf355, pf356, hT343, hF344⟩ := H
      have hF357 := Fr_cp hF328 hF344 (by decide +kernel : Wsub Wp12 Wp12 = true)
      have e358 := fI_bd (q := 64) hT343 (tf hT343 rfl rfl) fd_8_86
      have e359 := fI_bd (q := 64) hT343 (tf hT343 rfl rfl) fd_8_87
      have e360 := fI_bd (q := 64) hT343 (tf hT343 rfl rfl) fd_8_88
      have e361 := fI_bd (q := 64) hT343 (tf hT343 rfl rfl) fd_8_90
      have e362 := fI_bd (q := 64) hT343 (tf hT343 rfl rfl) fd_8_93
      have e363 := fI_bd (q := 64) hT343 (tf hT343 rfl rfl) fd_8_91
      refine st_aload c262_42 rfl ?_
      refine st_iload c262_43 rfl ?_
      refine st_iconst c262_44 ?_
      refine st_iconst c262_45 ?_
      have e364 := fI_bd (q := 64) hT343 (tf hT343 rfl rfl) fd_8_92
      have q365 : fI h342 64 92 = fI h320 64 92 := Fr_fI hF344 (tf hT321 rfl rfl) (by decide +kernel)
      refine st_callt (as := [vI (fI h183 64 88), vI 0, vI 0]) c262_46 cm_255 hT343 (tf hT343 rfl rfl) fd_8_0 rfl rfl rfl rfl (by omega) (K255 hT343 (Stb_mono hS (by decide +kernel)) (fI h183 64 88) (by omega) 0 (by omega) 0 (by omega) (by omega) (d - 1) (by omega) _ (fun v h0 H => H)) (fun v1 h366 H => ?_)
      obtain ⟨rfl, pf369, pf370, pf371, pf372, pf373, hT367, hF368⟩ := H
      have hF374 := Fr_cp hF357 hF368 (by decide +kernel : Wsub W255 Wp12 = true)
      have e375 := fI_bd (q := 64) hT367 (tf hT367 rfl rfl) fd_8_93
      refine st_goto c262_49 ?_
      refine MR_weak (A := [some (.ref 64), none]) (Lle_s (Lle_n (Lle_0))) ?_
      have e376 := fI_bd (q := 64) hT367 (tf hT367 rfl rfl) fd_8_92
      have q377 : fI h366 64 92 = fI h342 64 92 := Fr_fI hF368 (tf hT343 rfl rfl) (by decide +kernel)
      have e378 := fI_bd (q := 64) hT367 (tf hT367 rfl rfl) fd_8_90
      have q379 : fI h366 64 90 = fI h342 64 90 := Fr_fI hF368 (tf hT343 rfl rfl) (by decide +kernel)
      have sg380 : 0 ≤ fI h366 64 90 ∨ Sg h366 (220 * fI h 64 92 + fI h 64 93) (fI h366 64 93 - fI h 64 93) := by
        rcases pf355 with q | q
        · exact Or.inl (by omega)
        · have gx := x201.resolve_left (by omega)
          have fr381 : ∀ i : Int, 0 ≤ i → i < 220 * fI h 64 92 + fI h 64 93 + (fI h183 64 93 - fI h 64 93) → aI h366 129 i = aI h183 129 i := fun i a b => ((pf372 i a (by omega))).trans (((pf353 i a (by omega))).trans ((Fr_aI hF322 (tf hT184 rfl rfl) (by decide +kernel) i)))
          have fr382 : ∀ i : Int, 0 ≤ i → i < 220 * fI h 64 92 + fI h 64 93 + (fI h183 64 93 - fI h 64 93) → aI h366 130 i = aI h183 130 i := fun i a b => ((pf373 i a (by omega))).trans (((pf354 i a (by omega))).trans ((Fr_aI hF322 (tf hT184 rfl rfl) (by decide +kernel) i)))
          have k1 : Sg h366 (220 * fI h 64 92 + fI h 64 93) (fI h183 64 93 - fI h 64 93) := Sg_mv gx (fun i a b => ⟨fr381 i (by omega) (by omega), fr382 i (by omega) (by omega)⟩)
          have fr383 : ∀ i : Int, 0 ≤ i → i < 220 * fI h320 64 92 + fI h320 64 93 + (fI h342 64 93 - fI h320 64 93) → aI h366 129 i = aI h342 129 i := fun i a b => (pf372 i a (by omega))
          have fr384 : ∀ i : Int, 0 ≤ i → i < 220 * fI h320 64 92 + fI h320 64 93 + (fI h342 64 93 - fI h320 64 93) → aI h366 130 i = aI h342 130 i := fun i a b => (pf373 i a (by omega))
          have g385 : Sg h366 (220 * fI h320 64 92 + fI h320 64 93) (fI h342 64 93 - fI h320 64 93) := Sg_mv q (fun i a b => ⟨fr383 i (by omega) (by omega), fr384 i (by omega) (by omega)⟩)
          have k2 : Sg h366 (220 * fI h 64 92 + fI h 64 93 + (fI h183 64 93 - fI h 64 93)) (fI h342 64 93 - fI h320 64 93) := by rw [show 220 * fI h 64 92 + fI h 64 93 + (fI h183 64 93 - fI h 64 93) = 220 * fI h320 64 92 + fI h320 64 93 by omega]; exact g385
          have a1 : aI h366 129 (220 * fI h342 64 92 + fI h342 64 93) = fI h183 64 88 := (rfl).trans pf370
          refine Or.inr ?_
          rw [show fI h366 64 93 - fI h 64 93 = (fI h183 64 93 - fI h 64 93) + (fI h342 64 93 - fI h320 64 93) + 1 by omega]
          exact Sg_op k1 k2 (by rw [show 220 * fI h 64 92 + fI h 64 93 + (fI h183 64 93 - fI h 64 93) + (fI h342 64 93 - fI h320 64 93) = 220 * fI h342 64 92 + fI h342 64 93 by omega, a1]; omega)
      have e386 := fI_bd (q := 64) hT367 (tf hT367 rfl rfl) fd_8_86
      have q387 : fI h366 64 86 = fI h342 64 86 := Fr_fI hF368 (tf hT343 rfl rfl) (by decide +kernel)
      have e388 := fI_bd (q := 64) hT367 (tf hT367 rfl rfl) fd_8_87
      have q389 : fI h366 64 87 = fI h342 64 87 := Fr_fI hF368 (tf hT343 rfl rfl) (by decide +kernel)
      have e390 := fI_bd (q := 64) hT367 (tf hT367 rfl rfl) fd_8_77
      have q391 : fI h366 64 77 = fI h320 64 77 := (Fr_fI hF368 (tf hT343 rfl rfl) (by decide +kernel)).trans (Fr_fI hF344 (tf hT321 rfl rfl) (by decide +kernel))
      have e392 := fI_bd (q := 64) hT367 (tf hT367 rfl rfl) fd_8_88
      have q393 : fI h366 64 88 = fI h342 64 88 := Fr_fI hF368 (tf hT343 rfl rfl) (by decide +kernel)
      have e394 := fI_bd (q := 64) hT367 (tf hT367 rfl rfl) fd_8_91
      have q395 : fI h366 64 91 = fI h342 64 91 := Fr_fI hF368 (tf hT343 rfl rfl) (by decide +kernel)
      have fr396 : ∀ i : Int, 0 ≤ i → i < 220 * fI h 64 92 + fI h 64 93 → aI h366 129 i = aI h 129 i := fun i a b => ((pf372 i a (by omega))).trans (((pf353 i a (by omega))).trans (((Fr_aI hF322 (tf hT184 rfl rfl) (by decide +kernel) i)).trans ((x199 i a b))))
      have fr397 : ∀ i : Int, 0 ≤ i → i < 220 * fI h 64 92 + fI h 64 93 → aI h366 130 i = aI h 130 i := fun i a b => ((pf373 i a (by omega))).trans (((pf354 i a (by omega))).trans (((Fr_aI hF322 (tf hT184 rfl rfl) (by decide +kernel) i)).trans ((x200 i a b))))
      exact ih189 h366 (by omega) (by omega) (by omega) (by omega) (by omega) (by omega) (by omega) (by omega) (by omega) fr396 fr397 sg380 (by omega) (by omega) (RL_s0 e221 ct224 (by omega) (by omega) pf356 (by omega) (fun b c => CU_fr c hT343 hF368 (by decide +kernel))) hT367 hF374 (Fr_cp (Fr_cp (Fr_cp hL186 hF322 (by decide +kernel)) hF344 (by decide +kernel)) hF368 (by decide +kernel))
  have e398 := fI_bd (q := 64) hT15 (tf hT15 rfl rfl) fd_8_92
  have q399 : fI h14 64 92 = fI h 64 92 := Fr_fI hF16 (tf hT rfl rfl) (by decide +kernel)
  have e400 := fI_bd (q := 64) hT15 (tf hT15 rfl rfl) fd_8_77
  have q401 : fI h14 64 77 = fI h 64 77 := Fr_fI hF16 (tf hT rfl rfl) (by decide +kernel)
  have fr402 : ∀ i : Int, 0 ≤ i → i < 220 * fI h 64 92 + fI h 64 93 → aI h14 129 i = aI h 129 i := fun i a b => (pf25 i a (by omega))
  have fr403 : ∀ i : Int, 0 ≤ i → i < 220 * fI h 64 92 + fI h 64 93 → aI h14 130 i = aI h 130 i := fun i a b => (pf26 i a (by omega))
  exact lp187 (((fI h14 64 77 - fI h14 64 86 : Int) + 1).toNat) h14 (by omega) (by omega) (by omega) (by omega) (by omega) (by omega) (by omega) (by omega) (by omega) fr402 fr403 pf27 (by omega) (by omega) (RL_0 pf28) hT15 hF29 (Fr_rf _ _ _)
theorem C262_all : ∀ (n : Nat) (k : Int), 8 - k ≤ (n : Int) → C262 k := by
  intro n
  induction n with
  | zero =>
    intro k hn S F P a Ln xs τ h E hT hS q0 q1 q2 q3 q4 q5 q6 d hd Q hQ
    exact K262 hT hS q0 q1 q2 q3 q4 (fun hl => by omega) q5 q6 d hd Q hQ
  | succ n ih =>
    intro k hn S F P a Ln xs τ h E hT hS q0 q1 q2 q3 q4 q5 q6 d hd Q hQ
    exact K262 hT hS q0 q1 q2 q3 q4 (fun hl => ih (k + 1) (by omega)) q5 q6 d hd Q hQ
theorem K262z : C262 0 := C262_all 8 0 (by decide)
