set_option maxHeartbeats 8000000 in
set_option maxRecDepth 100000 in
theorem lw_loop {X : go_X} {G : go_G} {me mo b L : Nat} {ad bd : Nat → Nat} {xs : Nat → Int32} (C : go_Cx X cL_law RL ret 4 9 332 600000 7302250 G) (S : lw_X X b L xs) (hL : L ≤ 1536) : ∀ (n k : Nat) (f0 f1 Bf : Nat → Int32) (nr : Nat) (ln : Nat → Nat) (Rf : Nat → Int32) (il : Nat) (If : Nat → Int32) (sl : Bool) (z : pc_Z) (ex : Nat) (t : lw_T) (u : lw_Sc) (y : pc_Y) (ey : Nat) (fu : Bool) (s : lw_Sm), k ≤ L → L < k + n → lw_I f0 Bf nr ln Rf il If sl z ex y ey fu t → go_Go X (63, 10767) (lw_C G me ad f0 f1 Bf nr ln (pc_rr Rf) il If sl z ex t u ++ lw_M G mo bd f0 f1 Bf nr ln Rf il If sl y ey fu s) [(0, .ref b), (1, .ref me), (2, .ref mo), (3, .int (nI k))] [] 18 := by
  intro n
  induction n with
  | zero => intro k f0 f1 Bf nr ln Rf il If sl z ex t u y ey fu s h1 h2; omega
  | succ n ih =>
    intro k f0 f1 Bf nr ln Rf il If sl z ex t u y ey fu s hk hn h
    refine go_iload_n C dL_law_18 3 rfl rfl ?_
    refine go_aload_n C dL_law_19 0 rfl rfl ?_
    refine go_slen C S dL_law_20 ?_
    refine go_iconst C (3) dL_law_21 (by decide) ?_
    refine go_isub C (z := nI L - 3) dL_law_22 rfl ?_
    refine go_icmp_gt C 444 dL_law_23 (by decide) (fun _ => ?_) (fun hc => ?_)
    · refine go_iconst C 1 dL_law_444 (by decide) ?_
      exact go_lret C S dL_law_445 ⟨Nat.le_of_ble_eq_true rfl, Nat.le_of_ble_eq_true rfl⟩
    · have hk3 := lw_left hL hk hc
      refine go_aload_n C dL_law_26 0 rfl rfl ?_
      refine go_iload_n C dL_law_27 3 rfl rfl ?_
      refine go_sld C S dL_law_28 k rfl (by omega) (by omega) ?_
      refine go_bipush C 15 dL_law_29 (by decide) ?_
      obtain ⟨j, hj, ej⟩ := lw_and15 (xs k)
      refine go_iand C (z := nI j) dL_law_31 ej ?_
      have kk : lw_K X G me ad mo bd [(0, .ref b), (1, .ref me), (2, .ref mo), (3, .int (nI k))] := by
        intro f0 f1 Bf nr ln Rf il If sl z ex t u y ey fu s h
        refine go_iinc C (nI (k + 3)) [(0, .ref b), (1, .ref me), (2, .ref mo), (3, .int (nI (k + 3)))] dL_law_438 3 [1, 2, 3, 0] rfl (nI_add k 3) (by decide) rfl ?_
        refine go_goto C 18 dL_law_441 (by decide) ?_
        exact ih (k + 3) f0 f1 Bf nr ln Rf il If sl z ex t u y ey fu s (by omega) (by omega) h
      rcases (by omega : j = 0 ∨ j = 1 ∨ j = 2 ∨ j = 3 ∨ j = 4 ∨ j = 5 ∨ j = 6 ∨ j = 7 ∨ j = 8 ∨ j = 9 ∨ j = 10 ∨ j = 11 ∨ j = 12 ∨ j = 13 ∨ j = 14 ∨ j = 15) with rfl | rfl | rfl | rfl | rfl | rfl | rfl | rfl | rfl | rfl | rfl | rfl | rfl | rfl | rfl | rfl
      · refine go_table (off := 80) C 112 dL_law_32 (by decide) (by decide) (by decide) (by decide) ?_
        exact lw_case0 C S hL hk3 kk f0 f1 Bf nr ln Rf il If sl z ex t u y ey fu s h
      · refine go_table (off := 91) C 123 dL_law_32 (by decide) (by decide) (by decide) (by decide) ?_
        exact lw_case1 C S hL hk3 kk f0 f1 Bf nr ln Rf il If sl z ex t u y ey fu s h
      · refine go_table (off := 124) C 156 dL_law_32 (by decide) (by decide) (by decide) (by decide) ?_
        exact lw_case2 C S hL hk3 kk f0 f1 Bf nr ln Rf il If sl z ex t u y ey fu s h
      · refine go_table (off := 157) C 189 dL_law_32 (by decide) (by decide) (by decide) (by decide) ?_
        exact lw_case3 C S hL hk3 kk f0 f1 Bf nr ln Rf il If sl z ex t u y ey fu s h
      · refine go_table (off := 170) C 202 dL_law_32 (by decide) (by decide) (by decide) (by decide) ?_
        exact lw_case4 C S hL hk3 kk f0 f1 Bf nr ln Rf il If sl z ex t u y ey fu s h
      · refine go_table (off := 193) C 225 dL_law_32 (by decide) (by decide) (by decide) (by decide) ?_
        exact lw_case5 C S hL hk3 kk f0 f1 Bf nr ln Rf il If sl z ex t u y ey fu s h
      · refine go_table (off := 216) C 248 dL_law_32 (by decide) (by decide) (by decide) (by decide) ?_
        exact lw_case6 C S hL hk3 kk f0 f1 Bf nr ln Rf il If sl z ex t u y ey fu s h
      · refine go_table (off := 229) C 261 dL_law_32 (by decide) (by decide) (by decide) (by decide) ?_
        exact lw_case7 C S hL hk3 kk f0 f1 Bf nr ln Rf il If sl z ex t u y ey fu s h
      · refine go_table (off := 252) C 284 dL_law_32 (by decide) (by decide) (by decide) (by decide) ?_
        exact lw_case8 C S hL hk3 kk f0 f1 Bf nr ln Rf il If sl z ex t u y ey fu s h
      · refine go_table (off := 265) C 297 dL_law_32 (by decide) (by decide) (by decide) (by decide) ?_
        exact lw_case9 C S hL hk3 kk f0 f1 Bf nr ln Rf il If sl z ex t u y ey fu s h
      · refine go_table (off := 278) C 310 dL_law_32 (by decide) (by decide) (by decide) (by decide) ?_
        exact lw_case10 C S hL hk3 kk f0 f1 Bf nr ln Rf il If sl z ex t u y ey fu s h
      · refine go_table (off := 291) C 323 dL_law_32 (by decide) (by decide) (by decide) (by decide) ?_
        exact lw_case11 C S hL hk3 kk f0 f1 Bf nr ln Rf il If sl z ex t u y ey fu s h
      · refine go_table (off := 314) C 346 dL_law_32 (by decide) (by decide) (by decide) (by decide) ?_
        exact lw_case12 C S hL hk3 kk f0 f1 Bf nr ln Rf il If sl z ex t u y ey fu s h
      · refine go_table (off := 347) C 379 dL_law_32 (by decide) (by decide) (by decide) (by decide) ?_
        exact lw_case13 C S hL hk3 kk f0 f1 Bf nr ln Rf il If sl z ex t u y ey fu s h
      · refine go_table (off := 360) C 392 dL_law_32 (by decide) (by decide) (by decide) (by decide) ?_
        exact lw_case14 C S hL hk3 kk f0 f1 Bf nr ln Rf il If sl z ex t u y ey fu s h
      · refine go_table (off := 393) C 425 dL_law_32 (by decide) (by decide) (by decide) (by decide) ?_
        exact lw_case15 C S hL hk3 kk f0 f1 Bf nr ln Rf il If sl z ex t u y ey fu s h
