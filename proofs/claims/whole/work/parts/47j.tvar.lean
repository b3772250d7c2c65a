set_option maxHeartbeats 8000000 in
set_option maxRecDepth 100000 in
theorem lw_case12 {X : go_X} {G : go_G} {me mo b L k : Nat} {ad bd : Nat → Nat} {xs : Nat → Int32} (C : go_Cx X cL_law RL ret 4 9 332 600000 7302250 G) (S : lw_X X b L xs) (hL : L ≤ 1536) (hk : k + 3 ≤ L) (kk : lw_K X G me ad mo bd [(0, .ref b), (1, .ref me), (2, .ref mo), (3, .int (nI k))]) (f0 f1 Bf : Nat → Int32) (nr : Nat) (ln : Nat → Nat) (Rf : Nat → Int32) (il : Nat) (If : Nat → Int32) (sl : Bool) (z : pc_Z) (ex : Nat) (t : lw_T) (u : lw_Sc) (y : pc_Y) (ey : Nat) (fu : Bool) (s : lw_Sm) (h : lw_I f0 Bf nr ln Rf il If sl z ex y ey fu t) : go_Go X (63, 10767) (lw_C G me ad f0 f1 Bf nr ln (pc_rr Rf) il If sl z ex t u ++ lw_M G mo bd f0 f1 Bf nr ln Rf il If sl y ey fu s) [(0, .ref b), (1, .ref me), (2, .ref mo), (3, .int (nI k))] [] 346 := by
  rcases Bool.eq_false_or_eq_true z.2.2.2.2.2.1 with hv | hv
  · obtain ⟨bs, qs, h3, htl, hvc, hT, hD, hP, hb, hyc⟩ := lw_viT h hv
    obtain ⟨hRK, hmk, hCL, hX, -⟩ := lw_viJ h hv
    refine go_aload_n C dL_law_346 1 rfl rfl ?_
    refine go_aload_n C dL_law_347 0 rfl rfl ?_
    refine go_iload_n C dL_law_348 3 rfl rfl ?_
    refine go_iconst C (nI 1) dL_law_349 (by decide) ?_
    refine go_iadd C (z := nI (k + 1)) dL_law_350 (nI_add k 1) ?_
    refine go_sld C S dL_law_351 (k + 1) rfl (by omega) (by omega) ?_
    refine go_aload_n C dL_law_352 0 rfl rfl ?_
    refine go_iload_n C dL_law_353 3 rfl rfl ?_
    refine go_iconst C (nI 2) dL_law_354 (by decide) ?_
    refine go_iadd C (z := nI (k + 2)) dL_law_355 (nI_add k 2) ?_
    refine go_sld C S dL_law_356 (k + 2) rfl (by omega) (by omega) ?_
    refine go_callVe C (c_X8_traceVar G [(me, .inr (7, [.ref (ad 0), .ref (ad 1), .ref (ad 8), .ref (ad 3), .ref (ad 36), .ref (ad 38), .ref (ad 5), .ref (ad 7), .ref (ad 46), .ref (ad 47), .ref (ad 48), .int (go_b (sl)), .int (go_b (z.2.2.2.2.2.1)), .int (go_b (z.2.2.2.2.2.2)), .int (nI ex)])), ((ad 7), .inr (5, [.ref (ad 43), .ref (ad 44), .ref (ad 45), .int (nI (t.1))])), ((ad 45), .inl (G.2.1, 2400, .inl t.2.2.2))] 0 1 2 me (ad 0) (ad 1) (ad 8) (ad 3) (ad 36) (ad 38) (ad 5) (ad 7) (ad 46) (ad 47) (ad 48) sl z.2.2.2.2.2.1 z.2.2.2.2.2.2 ex (ad 43) (ad 44) (ad 45) t.1 t.2.2.2 u.2.2.1 (xs (k + 1)) (xs (k + 2)) rfl rfl rfl h.2.1.2) ml_L_64 mc_X8_traceVar dL_law_357 [] rfl [47, 0, 8, 46] rfl rfl (fun _ => rfl) 0 rfl rfl rfl ⟨Nat.le_of_ble_eq_true rfl, Nat.le_of_ble_eq_true rfl, Nat.le_of_ble_eq_true rfl, Nat.le_of_ble_eq_true rfl, Nat.le_of_ble_eq_true rfl⟩ (fun u2 => (lw_C G me ad f0 f1 Bf nr ln (pc_rr Rf) il If sl z ex t (u.1, u.2.1, u2, u.2.2.2.1, u.2.2.2.2) ++ lw_M G mo bd f0 f1 Bf nr ln Rf il If sl y ey fu s)) (fun _ => rfl) (fun u2 _ => ?_)
    refine go_se [.int (if z.2.2.2.2.2.1 = true ∧ pc_hst t.1 (xs (k + 1)) = true ∧ pc_isV (xs (k + 2)) = true then t.2.2.2 (6 * (xs (k + 1)).toNatClampNeg + (xs (k + 2)).toNatClampNeg) else 0)] rfl ?_
    refine go_aload_n C dL_law_360 2 rfl rfl ?_
    refine go_aload_n C dL_law_361 0 rfl rfl ?_
    refine go_iload_n C dL_law_362 3 rfl rfl ?_
    refine go_iconst C (nI 1) dL_law_363 (by decide) ?_
    refine go_iadd C (z := nI (k + 1)) dL_law_364 (nI_add k 1) ?_
    refine go_sld C S dL_law_365 (k + 1) rfl (by omega) (by omega) ?_
    refine go_aload_n C dL_law_366 0 rfl rfl ?_
    refine go_iload_n C dL_law_367 3 rfl rfl ?_
    refine go_iconst C (nI 2) dL_law_368 (by decide) ?_
    refine go_iadd C (z := nI (k + 2)) dL_law_369 (nI_add k 2) ?_
    refine go_sld C S dL_law_370 (k + 2) rfl (by omega) (by omega) ?_
    refine go_callVe C (c_X9_traceVar G [(mo, .inr (8, [.ref (bd 0), .ref (bd 1), .ref (bd 2), .ref (bd 3), .ref (bd 4), .ref (bd 5), .ref (bd 6), .ref (bd 7), .ref (bd 8), .ref (bd 9), .ref (bd 10), .ref (bd 11), .int (nI nr), .int (nI il), .int (nI (y.1)), .int (nI ey), .int y.2.2.2, .int (go_b (sl)), .int (go_b (fu))])), ((bd 7), .inl (G.2.1, 400, .inl y.2.2.1)), ((bd 3), .inl (G.2.1, 384, .inl Rf)), ((bd 4), .inl (G.2.1, 12, .inl (pc_lf ln))), ((bd 1), .inl (G.2.1, 6, .inl Bf)), ((bd 6), .inl (G.2.1, 2400, .inl y.2.1)), ((bd 0), .inl (G.2.1, 6, .inl f0))] 0 1 2 3 4 5 6 mo (bd 0) (bd 1) (bd 2) (bd 3) (bd 4) (bd 5) (bd 6) (bd 7) (bd 8) (bd 9) (bd 10) (bd 11) nr il y.1 ey y.2.2.2 sl fu y.2.2.1 y.2.1 Rf ln Bf f0 s.1 s.2.1 s.2.2.1 s.2.2.2 t.1 bs qs (xs (k + 1)) (xs (k + 2)) rfl rfl rfl rfl rfl rfl rfl hyc hP hb htl hvc h.2.1.2 h.1.1 h.1.2.1 hRK h3) ml_L_67 mc_X9_traceVar dL_law_371 [.int (if z.2.2.2.2.2.1 = true ∧ pc_hst t.1 (xs (k + 1)) = true ∧ pc_isV (xs (k + 2)) = true then t.2.2.2 (6 * (xs (k + 1)).toNatClampNeg + (xs (k + 2)).toNatClampNeg) else 0)] rfl [59, 60, 61, 62, 50, 58, 54, 55, 52, 57, 51] rfl rfl (fun _ => rfl) 50 rfl rfl rfl ⟨Nat.le_of_ble_eq_true rfl, Nat.le_of_ble_eq_true rfl, Nat.le_of_ble_eq_true rfl, Nat.le_of_ble_eq_true rfl, Nat.le_of_ble_eq_true rfl⟩ (fun s2 => (lw_C G me ad f0 f1 Bf nr ln (pc_rr Rf) il If sl z ex t (u.1, u.2.1, u2, u.2.2.2.1, u.2.2.2.2) ++ lw_M G mo bd f0 f1 Bf nr ln Rf il If sl y ey fu s2)) (fun _ => rfl) (fun s2 _ => ?_)
    refine go_se [.int (if (xs (k + 1)) < 0 then 0 else if nI t.1 < (xs (k + 1)) then 0 else if pc_isV (xs (k + 2)) = true then bs (xs (k + 1)).toNatClampNeg (xs (k + 2)).toNatClampNeg else 0), .int (if z.2.2.2.2.2.1 = true ∧ pc_hst t.1 (xs (k + 1)) = true ∧ pc_isV (xs (k + 2)) = true then t.2.2.2 (6 * (xs (k + 1)).toNatClampNeg + (xs (k + 2)).toNatClampNeg) else 0)] rfl ?_
    refine go_icmp_eq C 438 dL_law_374 (by decide) (fun _ => ?_) (fun hne => absurd (by rw [← lw_ans_var h.2.1.2 hT]; simp only [hv, true_and]) hne)
    exact kk f0 f1 Bf nr ln Rf il If sl z ex t (u.1, u.2.1, u2, u.2.2.2.1, u.2.2.2.2) y ey fu s2 h
  · have hbr : y.2.2.2 = -1 := lw_br0 h.2.1.1 hv
    have hyc : y.1 ≤ 400 := by rw [h.2.1.1.1]; exact lw_ct h
    refine go_aload_n C dL_law_346 1 rfl rfl ?_
    refine go_aload_n C dL_law_347 0 rfl rfl ?_
    refine go_iload_n C dL_law_348 3 rfl rfl ?_
    refine go_iconst C (nI 1) dL_law_349 (by decide) ?_
    refine go_iadd C (z := nI (k + 1)) dL_law_350 (nI_add k 1) ?_
    refine go_sld C S dL_law_351 (k + 1) rfl (by omega) (by omega) ?_
    refine go_aload_n C dL_law_352 0 rfl rfl ?_
    refine go_iload_n C dL_law_353 3 rfl rfl ?_
    refine go_iconst C (nI 2) dL_law_354 (by decide) ?_
    refine go_iadd C (z := nI (k + 2)) dL_law_355 (nI_add k 2) ?_
    refine go_sld C S dL_law_356 (k + 2) rfl (by omega) (by omega) ?_
    refine go_callVe C (c_X8_traceVar G [(me, .inr (7, [.ref (ad 0), .ref (ad 1), .ref (ad 8), .ref (ad 3), .ref (ad 36), .ref (ad 38), .ref (ad 5), .ref (ad 7), .ref (ad 46), .ref (ad 47), .ref (ad 48), .int (go_b (sl)), .int (go_b (z.2.2.2.2.2.1)), .int (go_b (z.2.2.2.2.2.2)), .int (nI ex)])), ((ad 7), .inr (5, [.ref (ad 43), .ref (ad 44), .ref (ad 45), .int (nI (t.1))])), ((ad 45), .inl (G.2.1, 2400, .inl t.2.2.2))] 0 1 2 me (ad 0) (ad 1) (ad 8) (ad 3) (ad 36) (ad 38) (ad 5) (ad 7) (ad 46) (ad 47) (ad 48) sl z.2.2.2.2.2.1 z.2.2.2.2.2.2 ex (ad 43) (ad 44) (ad 45) t.1 t.2.2.2 u.2.2.1 (xs (k + 1)) (xs (k + 2)) rfl rfl rfl h.2.1.2) ml_L_64 mc_X8_traceVar dL_law_357 [] rfl [47, 0, 8, 46] rfl rfl (fun _ => rfl) 0 rfl rfl rfl ⟨Nat.le_of_ble_eq_true rfl, Nat.le_of_ble_eq_true rfl, Nat.le_of_ble_eq_true rfl, Nat.le_of_ble_eq_true rfl, Nat.le_of_ble_eq_true rfl⟩ (fun u2 => (lw_C G me ad f0 f1 Bf nr ln (pc_rr Rf) il If sl z ex t (u.1, u.2.1, u2, u.2.2.2.1, u.2.2.2.2) ++ lw_M G mo bd f0 f1 Bf nr ln Rf il If sl y ey fu s)) (fun _ => rfl) (fun u2 _ => ?_)
    refine go_se [.int (if z.2.2.2.2.2.1 = true ∧ pc_hst t.1 (xs (k + 1)) = true ∧ pc_isV (xs (k + 2)) = true then t.2.2.2 (6 * (xs (k + 1)).toNatClampNeg + (xs (k + 2)).toNatClampNeg) else 0)] rfl ?_
    refine go_aload_n C dL_law_360 2 rfl rfl ?_
    refine go_aload_n C dL_law_361 0 rfl rfl ?_
    refine go_iload_n C dL_law_362 3 rfl rfl ?_
    refine go_iconst C (nI 1) dL_law_363 (by decide) ?_
    refine go_iadd C (z := nI (k + 1)) dL_law_364 (nI_add k 1) ?_
    refine go_sld C S dL_law_365 (k + 1) rfl (by omega) (by omega) ?_
    refine go_aload_n C dL_law_366 0 rfl rfl ?_
    refine go_iload_n C dL_law_367 3 rfl rfl ?_
    refine go_iconst C (nI 2) dL_law_368 (by decide) ?_
    refine go_iadd C (z := nI (k + 2)) dL_law_369 (nI_add k 2) ?_
    refine go_sld C S dL_law_370 (k + 2) rfl (by omega) (by omega) ?_
    refine go_callV C (c_X9_traceVar0 G [(mo, .inr (8, [.ref (bd 0), .ref (bd 1), .ref (bd 2), .ref (bd 3), .ref (bd 4), .ref (bd 5), .ref (bd 6), .ref (bd 7), .ref (bd 8), .ref (bd 9), .ref (bd 10), .ref (bd 11), .int (nI nr), .int (nI il), .int (nI (y.1)), .int (nI ey), .int y.2.2.2, .int (go_b (sl)), .int (go_b (fu))])), ((bd 7), .inl (G.2.1, 400, .inl y.2.2.1))] 0 1 mo (bd 0) (bd 1) (bd 2) (bd 3) (bd 4) (bd 5) (bd 6) (bd 7) (bd 8) (bd 9) (bd 10) (bd 11) nr il y.1 ey y.2.2.2 sl fu y.2.2.1 (xs (k + 1)) (xs (k + 2)) rfl rfl hbr hyc) ml_L_67 mc_X9_traceVar dL_law_371 [.int (if z.2.2.2.2.2.1 = true ∧ pc_hst t.1 (xs (k + 1)) = true ∧ pc_isV (xs (k + 2)) = true then t.2.2.2 (6 * (xs (k + 1)).toNatClampNeg + (xs (k + 2)).toNatClampNeg) else 0)] rfl [50, 58] rfl rfl rfl 50 rfl rfl rfl ⟨Nat.le_of_ble_eq_true rfl, Nat.le_of_ble_eq_true rfl, Nat.le_of_ble_eq_true rfl, Nat.le_of_ble_eq_true rfl, Nat.le_of_ble_eq_true rfl⟩ (lw_C G me ad f0 f1 Bf nr ln (pc_rr Rf) il If sl z ex t (u.1, u.2.1, u2, u.2.2.2.1, u.2.2.2.2) ++ lw_M G mo bd f0 f1 Bf nr ln Rf il If sl y ey fu s) rfl ?_
    refine go_se [.int 0, .int (if z.2.2.2.2.2.1 = true ∧ pc_hst t.1 (xs (k + 1)) = true ∧ pc_isV (xs (k + 2)) = true then t.2.2.2 (6 * (xs (k + 1)).toNatClampNeg + (xs (k + 2)).toNatClampNeg) else 0)] rfl ?_
    refine go_icmp_eq C 438 dL_law_374 (by decide) (fun _ => ?_) (fun hne => absurd (if_neg (fun e => by rw [hv] at e; cases e.1)) hne)
    exact kk f0 f1 Bf nr ln Rf il If sl z ex t (u.1, u.2.1, u2, u.2.2.2.1, u.2.2.2.2) y ey fu s h
