set_option maxHeartbeats 8000000 in
set_option maxRecDepth 100000 in
theorem lw_case0 {X : go_X} {G : go_G} {me mo b L k : Nat} {ad bd : Nat → Nat} {xs : Nat → Int32} (C : go_Cx X cL_law RL ret 4 9 332 600000 7302250 G) (S : lw_X X b L xs) (hL : L ≤ 1536) (hk : k + 3 ≤ L) (kk : lw_K X G me ad mo bd [(0, .ref b), (1, .ref me), (2, .ref mo), (3, .int (nI k))]) (f0 f1 Bf : Nat → Int32) (nr : Nat) (ln : Nat → Nat) (Rf : Nat → Int32) (il : Nat) (If : Nat → Int32) (sl : Bool) (z : pc_Z) (ex : Nat) (t : lw_T) (u : lw_Sc) (y : pc_Y) (ey : Nat) (fu : Bool) (s : lw_Sm) (h : lw_I f0 Bf nr ln Rf il If sl z ex y ey fu t) : go_Go X (63, 10767) (lw_C G me ad f0 f1 Bf nr ln (pc_rr Rf) il If sl z ex t u ++ lw_M G mo bd f0 f1 Bf nr ln Rf il If sl y ey fu s) [(0, .ref b), (1, .ref me), (2, .ref mo), (3, .int (nI k))] [] 112 := by
  refine go_aload_n C dL_law_112 1 rfl rfl ?_
  refine go_callV C (c_X8_init_ G [((ad 8), .inr (0, [.ref (ad 2)])), ((ad 36), .inr (1, [.ref (ad 4)]))] 0 1 me (ad 0) (ad 1) (ad 8) (ad 3) (ad 36) (ad 38) (ad 5) (ad 7) (ad 46) (ad 47) (ad 48) sl z.2.2.2.2.2.1 z.2.2.2.2.2.2 ex f0 f1 (ad 2) Bf (ad 9) (ad 10) nr (ad 4) (ad 37) il (ad 40) (ad 41) (ad 6) (ad 42) z.1 z.2.2.2.1 (ad 43) (ad 44) (ad 45) t.1 rfl rfl ) ml_L_13 mc_X8_init_ dL_law_113 [] rfl [0, 1, 2, 3, 4, 5, 6, 7, 8, 9, 37] rfl rfl rfl 0 rfl rfl rfl ⟨Nat.le_of_ble_eq_true rfl, Nat.le_of_ble_eq_true rfl, Nat.le_of_ble_eq_true rfl, Nat.le_of_ble_eq_true rfl, Nat.le_of_ble_eq_true rfl⟩ (lw_C G me ad (pc_fill 6 0 f0) (pc_fill 6 0 f1) (pc_fill 6 0 Bf) 0 ln (pc_rr Rf) 0 If false (0, z.2.1, z.2.2.1, pc_fill 512 (-1) z.2.2.2.1, z.2.2.2.2.1, false, false) 0 (0, t.2.1, t.2.2.1, t.2.2.2) u ++ lw_M G mo bd f0 f1 Bf nr ln Rf il If sl y ey fu s) rfl ?_
  refine go_se [] rfl ?_
  refine go_aload_n C dL_law_116 2 rfl rfl ?_
  refine go_callV C (c_X9_init_ G []  mo (bd 0) (bd 1) (bd 2) (bd 3) (bd 4) (bd 5) (bd 6) (bd 7) (bd 8) (bd 9) (bd 10) (bd 11) nr il y.1 ey y.2.2.2 sl fu f0 Bf f1  ) ml_L_16 mc_X9_init_ dL_law_117 [] rfl [50, 51, 52, 53] rfl rfl rfl 50 rfl rfl rfl ⟨Nat.le_of_ble_eq_true rfl, Nat.le_of_ble_eq_true rfl, Nat.le_of_ble_eq_true rfl, Nat.le_of_ble_eq_true rfl, Nat.le_of_ble_eq_true rfl⟩ (lw_C G me ad (pc_fill 6 0 f0) (pc_fill 6 0 f1) (pc_fill 6 0 Bf) 0 ln (pc_rr Rf) 0 If false (0, z.2.1, z.2.2.1, pc_fill 512 (-1) z.2.2.2.1, z.2.2.2.2.1, false, false) 0 (0, t.2.1, t.2.2.1, t.2.2.2) u ++ lw_M G mo bd (pc_fill 6 0 f0) (pc_fill 6 0 f1) (pc_fill 6 0 Bf) 0 ln Rf 0 If false (0, y.2.1, y.2.2.1, -1) 0 false s) rfl ?_
  refine go_se [] rfl ?_
  refine go_goto C 438 dL_law_120 (by decide) ?_
  exact kk (pc_fill 6 0 f0) (pc_fill 6 0 f1) (pc_fill 6 0 Bf) 0 ln Rf 0 If false (0, z.2.1, z.2.2.1, pc_fill 512 (-1) z.2.2.2.1, z.2.2.2.2.1, false, false) 0 (0, t.2.1, t.2.2.1, t.2.2.2) u (0, y.2.1, y.2.2.1, -1) 0 false s (lw_I_init h _ _ _ (show 0 < 400 by decide))
set_option maxHeartbeats 8000000 in
set_option maxRecDepth 100000 in
theorem lw_case1 {X : go_X} {G : go_G} {me mo b L k : Nat} {ad bd : Nat → Nat} {xs : Nat → Int32} (C : go_Cx X cL_law RL ret 4 9 332 600000 7302250 G) (S : lw_X X b L xs) (hL : L ≤ 1536) (hk : k + 3 ≤ L) (kk : lw_K X G me ad mo bd [(0, .ref b), (1, .ref me), (2, .ref mo), (3, .int (nI k))]) (f0 f1 Bf : Nat → Int32) (nr : Nat) (ln : Nat → Nat) (Rf : Nat → Int32) (il : Nat) (If : Nat → Int32) (sl : Bool) (z : pc_Z) (ex : Nat) (t : lw_T) (u : lw_Sc) (y : pc_Y) (ey : Nat) (fu : Bool) (s : lw_Sm) (h : lw_I f0 Bf nr ln Rf il If sl z ex y ey fu t) : go_Go X (63, 10767) (lw_C G me ad f0 f1 Bf nr ln (pc_rr Rf) il If sl z ex t u ++ lw_M G mo bd f0 f1 Bf nr ln Rf il If sl y ey fu s) [(0, .ref b), (1, .ref me), (2, .ref mo), (3, .int (nI k))] [] 123 := by
  refine go_aload_n C dL_law_123 1 rfl rfl ?_
  refine go_aload_n C dL_law_124 0 rfl rfl ?_
  refine go_iload_n C dL_law_125 3 rfl rfl ?_
  refine go_iconst C (nI 1) dL_law_126 (by decide) ?_
  refine go_iadd C (z := nI (k + 1)) dL_law_127 (nI_add k 1) ?_
  refine go_sld C S dL_law_128 (k + 1) rfl (by omega) (by omega) ?_
  refine go_aload_n C dL_law_129 0 rfl rfl ?_
  refine go_iload_n C dL_law_130 3 rfl rfl ?_
  refine go_iconst C (nI 2) dL_law_131 (by decide) ?_
  refine go_iadd C (z := nI (k + 2)) dL_law_132 (nI_add k 2) ?_
  refine go_sld C S dL_law_133 (k + 2) rfl (by omega) (by omega) ?_
  refine go_callV C (c_X8_setInit G [(me, .inr (7, [.ref (ad 0), .ref (ad 1), .ref (ad 8), .ref (ad 3), .ref (ad 36), .ref (ad 38), .ref (ad 5), .ref (ad 7), .ref (ad 46), .ref (ad 47), .ref (ad 48), .int (go_b (sl)), .int (go_b (z.2.2.2.2.2.1)), .int (go_b (z.2.2.2.2.2.2)), .int (nI ex)]))] 0 me (ad 0) (ad 1) (ad 8) (ad 3) (ad 36) (ad 38) (ad 5) (ad 7) (ad 46) (ad 47) (ad 48) sl z.2.2.2.2.2.1 z.2.2.2.2.2.2 ex f0 (xs (k + 1)) (xs (k + 2)) rfl ) ml_L_17 mc_X8_setInit dL_law_134 [] rfl [1, 0] rfl rfl rfl 0 rfl rfl rfl ⟨Nat.le_of_ble_eq_true rfl, Nat.le_of_ble_eq_true rfl, Nat.le_of_ble_eq_true rfl, Nat.le_of_ble_eq_true rfl, Nat.le_of_ble_eq_true rfl⟩ (lw_C G me ad (if pc_isV (xs (k + 1)) = true ∧ sl = false then upd f0 ((xs (k + 1))).toNatClampNeg (xs (k + 2)) else f0) f1 Bf nr ln (pc_rr Rf) il If sl z ex t u ++ lw_M G mo bd f0 f1 Bf nr ln Rf il If sl y ey fu s) rfl ?_
  refine go_se [.int (if pc_isV (xs (k + 1)) = true then (if sl = true then -2 else 0) else -1)] rfl ?_
  refine go_aload_n C dL_law_137 2 rfl rfl ?_
  refine go_aload_n C dL_law_138 0 rfl rfl ?_
  refine go_iload_n C dL_law_139 3 rfl rfl ?_
  refine go_iconst C (nI 1) dL_law_140 (by decide) ?_
  refine go_iadd C (z := nI (k + 1)) dL_law_141 (nI_add k 1) ?_
  refine go_sld C S dL_law_142 (k + 1) rfl (by omega) (by omega) ?_
  refine go_aload_n C dL_law_143 0 rfl rfl ?_
  refine go_iload_n C dL_law_144 3 rfl rfl ?_
  refine go_iconst C (nI 2) dL_law_145 (by decide) ?_
  refine go_iadd C (z := nI (k + 2)) dL_law_146 (nI_add k 2) ?_
  refine go_sld C S dL_law_147 (k + 2) rfl (by omega) (by omega) ?_
  refine go_callV C (c_X9_setInit G [(mo, .inr (8, [.ref (bd 0), .ref (bd 1), .ref (bd 2), .ref (bd 3), .ref (bd 4), .ref (bd 5), .ref (bd 6), .ref (bd 7), .ref (bd 8), .ref (bd 9), .ref (bd 10), .ref (bd 11), .int (nI nr), .int (nI il), .int (nI (y.1)), .int (nI ey), .int y.2.2.2, .int (go_b (sl)), .int (go_b (fu))]))] 0 mo (bd 0) (bd 1) (bd 2) (bd 3) (bd 4) (bd 5) (bd 6) (bd 7) (bd 8) (bd 9) (bd 10) (bd 11) nr il y.1 ey y.2.2.2 sl fu f0 (xs (k + 1)) (xs (k + 2)) rfl ) ml_L_21 mc_X9_setInit dL_law_148 [.int (if pc_isV (xs (k + 1)) = true then (if sl = true then -2 else 0) else -1)] rfl [51, 50] rfl rfl rfl 50 rfl rfl rfl ⟨Nat.le_of_ble_eq_true rfl, Nat.le_of_ble_eq_true rfl, Nat.le_of_ble_eq_true rfl, Nat.le_of_ble_eq_true rfl, Nat.le_of_ble_eq_true rfl⟩ (lw_C G me ad (if pc_isV (xs (k + 1)) = true ∧ sl = false then upd f0 ((xs (k + 1))).toNatClampNeg (xs (k + 2)) else f0) f1 Bf nr ln (pc_rr Rf) il If sl z ex t u ++ lw_M G mo bd (if pc_isV (xs (k + 1)) = true ∧ sl = false then upd f0 ((xs (k + 1))).toNatClampNeg (xs (k + 2)) else f0) f1 Bf nr ln Rf il If sl y ey fu s) rfl ?_
  refine go_se [.int (if pc_isV (xs (k + 1)) = true then (if sl = true then -2 else 0) else -1), .int (if pc_isV (xs (k + 1)) = true then (if sl = true then -2 else 0) else -1)] rfl ?_
  refine go_icmp_eq C 438 dL_law_151 (by decide) (fun _ => ?_) (fun hne => absurd rfl hne)
  exact kk (if pc_isV (xs (k + 1)) = true ∧ sl = false then upd f0 ((xs (k + 1))).toNatClampNeg (xs (k + 2)) else f0) f1 Bf nr ln Rf il If sl z ex t u y ey fu s (lw_I_f0 h _ (fun e => if_neg (fun q => by rw [e] at q; cases q.2)))
set_option maxHeartbeats 8000000 in
set_option maxRecDepth 100000 in
theorem lw_case2 {X : go_X} {G : go_G} {me mo b L k : Nat} {ad bd : Nat → Nat} {xs : Nat → Int32} (C : go_Cx X cL_law RL ret 4 9 332 600000 7302250 G) (S : lw_X X b L xs) (hL : L ≤ 1536) (hk : k + 3 ≤ L) (kk : lw_K X G me ad mo bd [(0, .ref b), (1, .ref me), (2, .ref mo), (3, .int (nI k))]) (f0 f1 Bf : Nat → Int32) (nr : Nat) (ln : Nat → Nat) (Rf : Nat → Int32) (il : Nat) (If : Nat → Int32) (sl : Bool) (z : pc_Z) (ex : Nat) (t : lw_T) (u : lw_Sc) (y : pc_Y) (ey : Nat) (fu : Bool) (s : lw_Sm) (h : lw_I f0 Bf nr ln Rf il If sl z ex y ey fu t) : go_Go X (63, 10767) (lw_C G me ad f0 f1 Bf nr ln (pc_rr Rf) il If sl z ex t u ++ lw_M G mo bd f0 f1 Bf nr ln Rf il If sl y ey fu s) [(0, .ref b), (1, .ref me), (2, .ref mo), (3, .int (nI k))] [] 156 := by
  refine go_aload_n C dL_law_156 1 rfl rfl ?_
  refine go_aload_n C dL_law_157 0 rfl rfl ?_
  refine go_iload_n C dL_law_158 3 rfl rfl ?_
  refine go_iconst C (nI 1) dL_law_159 (by decide) ?_
  refine go_iadd C (z := nI (k + 1)) dL_law_160 (nI_add k 1) ?_
  refine go_sld C S dL_law_161 (k + 1) rfl (by omega) (by omega) ?_
  refine go_aload_n C dL_law_162 0 rfl rfl ?_
  refine go_iload_n C dL_law_163 3 rfl rfl ?_
  refine go_iconst C (nI 2) dL_law_164 (by decide) ?_
  refine go_iadd C (z := nI (k + 2)) dL_law_165 (nI_add k 2) ?_
  refine go_sld C S dL_law_166 (k + 2) rfl (by omega) (by omega) ?_
  refine go_callV C (c_X8_setSymGroup G [(me, .inr (7, [.ref (ad 0), .ref (ad 1), .ref (ad 8), .ref (ad 3), .ref (ad 36), .ref (ad 38), .ref (ad 5), .ref (ad 7), .ref (ad 46), .ref (ad 47), .ref (ad 48), .int (go_b (sl)), .int (go_b (z.2.2.2.2.2.1)), .int (go_b (z.2.2.2.2.2.2)), .int (nI ex)])), ((ad 8), .inr (0, [.ref (ad 2)]))] 0 1 me (ad 0) (ad 1) (ad 8) (ad 3) (ad 36) (ad 38) (ad 5) (ad 7) (ad 46) (ad 47) (ad 48) sl z.2.2.2.2.2.1 z.2.2.2.2.2.2 ex (ad 2) Bf (xs (k + 1)) (xs (k + 2)) rfl rfl ) ml_L_22 mc_X8_setSymGroup dL_law_167 [] rfl [3, 0, 9] rfl rfl rfl 0 rfl rfl rfl ⟨Nat.le_of_ble_eq_true rfl, Nat.le_of_ble_eq_true rfl, Nat.le_of_ble_eq_true rfl, Nat.le_of_ble_eq_true rfl, Nat.le_of_ble_eq_true rfl⟩ (lw_C G me ad f0 f1 (if pc_isV (xs (k + 1)) = true ∧ ¬ (xs (k + 2)) < 0 ∧ (xs (k + 2)) ≤ 3 ∧ sl = false then upd Bf ((xs (k + 1))).toNatClampNeg (xs (k + 2)) else Bf) nr ln (pc_rr Rf) il If sl z ex t u ++ lw_M G mo bd f0 f1 Bf nr ln Rf il If sl y ey fu s) rfl ?_
  refine go_se [.int (if pc_isV (xs (k + 1)) = true ∧ ¬ (xs (k + 2)) < 0 ∧ (xs (k + 2)) ≤ 3 then (if sl = true then -2 else 0) else -1)] rfl ?_
  refine go_aload_n C dL_law_170 2 rfl rfl ?_
  refine go_aload_n C dL_law_171 0 rfl rfl ?_
  refine go_iload_n C dL_law_172 3 rfl rfl ?_
  refine go_iconst C (nI 1) dL_law_173 (by decide) ?_
  refine go_iadd C (z := nI (k + 1)) dL_law_174 (nI_add k 1) ?_
  refine go_sld C S dL_law_175 (k + 1) rfl (by omega) (by omega) ?_
  refine go_aload_n C dL_law_176 0 rfl rfl ?_
  refine go_iload_n C dL_law_177 3 rfl rfl ?_
  refine go_iconst C (nI 2) dL_law_178 (by decide) ?_
  refine go_iadd C (z := nI (k + 2)) dL_law_179 (nI_add k 2) ?_
  refine go_sld C S dL_law_180 (k + 2) rfl (by omega) (by omega) ?_
  refine go_callV C (c_X9_setSymGroup G [(mo, .inr (8, [.ref (bd 0), .ref (bd 1), .ref (bd 2), .ref (bd 3), .ref (bd 4), .ref (bd 5), .ref (bd 6), .ref (bd 7), .ref (bd 8), .ref (bd 9), .ref (bd 10), .ref (bd 11), .int (nI nr), .int (nI il), .int (nI (y.1)), .int (nI ey), .int y.2.2.2, .int (go_b (sl)), .int (go_b (fu))]))] 0 mo (bd 0) (bd 1) (bd 2) (bd 3) (bd 4) (bd 5) (bd 6) (bd 7) (bd 8) (bd 9) (bd 10) (bd 11) nr il y.1 ey y.2.2.2 sl fu Bf (xs (k + 1)) (xs (k + 2)) rfl ) ml_L_25 mc_X9_setSymGroup dL_law_181 [.int (if pc_isV (xs (k + 1)) = true ∧ ¬ (xs (k + 2)) < 0 ∧ (xs (k + 2)) ≤ 3 then (if sl = true then -2 else 0) else -1)] rfl [52, 50] rfl rfl rfl 50 rfl rfl rfl ⟨Nat.le_of_ble_eq_true rfl, Nat.le_of_ble_eq_true rfl, Nat.le_of_ble_eq_true rfl, Nat.le_of_ble_eq_true rfl, Nat.le_of_ble_eq_true rfl⟩ (lw_C G me ad f0 f1 (if pc_isV (xs (k + 1)) = true ∧ ¬ (xs (k + 2)) < 0 ∧ (xs (k + 2)) ≤ 3 ∧ sl = false then upd Bf ((xs (k + 1))).toNatClampNeg (xs (k + 2)) else Bf) nr ln (pc_rr Rf) il If sl z ex t u ++ lw_M G mo bd f0 f1 (if pc_isV (xs (k + 1)) = true ∧ ¬ (xs (k + 2)) < 0 ∧ (xs (k + 2)) ≤ 3 ∧ sl = false then upd Bf ((xs (k + 1))).toNatClampNeg (xs (k + 2)) else Bf) nr ln Rf il If sl y ey fu s) rfl ?_
  refine go_se [.int (if pc_isV (xs (k + 1)) = true ∧ ¬ (xs (k + 2)) < 0 ∧ (xs (k + 2)) ≤ 3 then (if sl = true then -2 else 0) else -1), .int (if pc_isV (xs (k + 1)) = true ∧ ¬ (xs (k + 2)) < 0 ∧ (xs (k + 2)) ≤ 3 then (if sl = true then -2 else 0) else -1)] rfl ?_
  refine go_icmp_eq C 438 dL_law_184 (by decide) (fun _ => ?_) (fun hne => absurd rfl hne)
  exact kk f0 f1 (if pc_isV (xs (k + 1)) = true ∧ ¬ (xs (k + 2)) < 0 ∧ (xs (k + 2)) ≤ 3 ∧ sl = false then upd Bf ((xs (k + 1))).toNatClampNeg (xs (k + 2)) else Bf) nr ln Rf il If sl z ex t u y ey fu s (lw_I_Bf h _ (fun e => if_neg (fun q => by rw [e] at q; cases q.2.2.2)))
set_option maxHeartbeats 8000000 in
set_option maxRecDepth 100000 in
theorem lw_case5 {X : go_X} {G : go_G} {me mo b L k : Nat} {ad bd : Nat → Nat} {xs : Nat → Int32} (C : go_Cx X cL_law RL ret 4 9 332 600000 7302250 G) (S : lw_X X b L xs) (hL : L ≤ 1536) (hk : k + 3 ≤ L) (kk : lw_K X G me ad mo bd [(0, .ref b), (1, .ref me), (2, .ref mo), (3, .int (nI k))]) (f0 f1 Bf : Nat → Int32) (nr : Nat) (ln : Nat → Nat) (Rf : Nat → Int32) (il : Nat) (If : Nat → Int32) (sl : Bool) (z : pc_Z) (ex : Nat) (t : lw_T) (u : lw_Sc) (y : pc_Y) (ey : Nat) (fu : Bool) (s : lw_Sm) (h : lw_I f0 Bf nr ln Rf il If sl z ex y ey fu t) : go_Go X (63, 10767) (lw_C G me ad f0 f1 Bf nr ln (pc_rr Rf) il If sl z ex t u ++ lw_M G mo bd f0 f1 Bf nr ln Rf il If sl y ey fu s) [(0, .ref b), (1, .ref me), (2, .ref mo), (3, .int (nI k))] [] 225 := by
  refine go_aload_n C dL_law_225 1 rfl rfl ?_
  refine go_aload_n C dL_law_226 0 rfl rfl ?_
  refine go_iload_n C dL_law_227 3 rfl rfl ?_
  refine go_iconst C (nI 1) dL_law_228 (by decide) ?_
  refine go_iadd C (z := nI (k + 1)) dL_law_229 (nI_add k 1) ?_
  refine go_sld C S dL_law_230 (k + 1) rfl (by omega) (by omega) ?_
  refine go_callV C (c_X8_feedInvariant G [(me, .inr (7, [.ref (ad 0), .ref (ad 1), .ref (ad 8), .ref (ad 3), .ref (ad 36), .ref (ad 38), .ref (ad 5), .ref (ad 7), .ref (ad 46), .ref (ad 47), .ref (ad 48), .int (go_b (sl)), .int (go_b (z.2.2.2.2.2.1)), .int (go_b (z.2.2.2.2.2.2)), .int (nI ex)])), ((ad 36), .inr (1, [.ref (ad 4)]))] 0 1 me (ad 0) (ad 1) (ad 8) (ad 3) (ad 36) (ad 38) (ad 5) (ad 7) (ad 46) (ad 47) (ad 48) sl z.2.2.2.2.2.1 z.2.2.2.2.2.2 ex (ad 4) (ad 37) il If (xs (k + 1)) rfl rfl h.1.2.2.1) ml_L_36 mc_X8_feedInvariant dL_law_231 [] rfl [5, 38, 0, 37] rfl rfl rfl 0 rfl rfl rfl ⟨Nat.le_of_ble_eq_true rfl, Nat.le_of_ble_eq_true rfl, Nat.le_of_ble_eq_true rfl, Nat.le_of_ble_eq_true rfl, Nat.le_of_ble_eq_true rfl⟩ (lw_C G me ad f0 f1 Bf nr ln (pc_rr Rf) (if sl = true then il else pc_fl il (xs (k + 1))) (if sl = true then If else pc_fw il If (xs (k + 1))) sl z ex t u ++ lw_M G mo bd f0 f1 Bf nr ln Rf il If sl y ey fu s) rfl ?_
  refine go_se [.int (if sl = true then -2 else pc_fr il (xs (k + 1)))] rfl ?_
  refine go_aload_n C dL_law_234 2 rfl rfl ?_
  refine go_aload_n C dL_law_235 0 rfl rfl ?_
  refine go_iload_n C dL_law_236 3 rfl rfl ?_
  refine go_iconst C (nI 1) dL_law_237 (by decide) ?_
  refine go_iadd C (z := nI (k + 1)) dL_law_238 (nI_add k 1) ?_
  refine go_sld C S dL_law_239 (k + 1) rfl (by omega) (by omega) ?_
  refine go_callV C (c_X9_feedInvariant G []  mo (bd 0) (bd 1) (bd 2) (bd 3) (bd 4) (bd 5) (bd 6) (bd 7) (bd 8) (bd 9) (bd 10) (bd 11) nr il y.1 ey y.2.2.2 sl fu If (xs (k + 1))  h.1.2.2.1) ml_L_39 mc_X9_feedInvariant dL_law_240 [.int (if sl = true then -2 else pc_fr il (xs (k + 1)))] rfl [50, 56] rfl rfl rfl 50 rfl rfl rfl ⟨Nat.le_of_ble_eq_true rfl, Nat.le_of_ble_eq_true rfl, Nat.le_of_ble_eq_true rfl, Nat.le_of_ble_eq_true rfl, Nat.le_of_ble_eq_true rfl⟩ (lw_C G me ad f0 f1 Bf nr ln (pc_rr Rf) (if sl = true then il else pc_fl il (xs (k + 1))) (if sl = true then If else pc_fw il If (xs (k + 1))) sl z ex t u ++ lw_M G mo bd f0 f1 Bf nr ln Rf (if sl = true then il else pc_fl il (xs (k + 1))) (if sl = true then If else pc_fw il If (xs (k + 1))) sl y ey fu s) rfl ?_
  refine go_se [.int (if sl = true then -2 else pc_fr il (xs (k + 1))), .int (if sl = true then -2 else pc_fr il (xs (k + 1)))] rfl ?_
  refine go_icmp_eq C 438 dL_law_243 (by decide) (fun _ => ?_) (fun hne => absurd rfl hne)
  exact kk f0 f1 Bf nr ln Rf (if sl = true then il else pc_fl il (xs (k + 1))) (if sl = true then If else pc_fw il If (xs (k + 1))) sl z ex t u y ey fu s (lw_I_inv h)
set_option maxHeartbeats 8000000 in
set_option maxRecDepth 100000 in
theorem lw_case8 {X : go_X} {G : go_G} {me mo b L k : Nat} {ad bd : Nat → Nat} {xs : Nat → Int32} (C : go_Cx X cL_law RL ret 4 9 332 600000 7302250 G) (S : lw_X X b L xs) (hL : L ≤ 1536) (hk : k + 3 ≤ L) (kk : lw_K X G me ad mo bd [(0, .ref b), (1, .ref me), (2, .ref mo), (3, .int (nI k))]) (f0 f1 Bf : Nat → Int32) (nr : Nat) (ln : Nat → Nat) (Rf : Nat → Int32) (il : Nat) (If : Nat → Int32) (sl : Bool) (z : pc_Z) (ex : Nat) (t : lw_T) (u : lw_Sc) (y : pc_Y) (ey : Nat) (fu : Bool) (s : lw_Sm) (h : lw_I f0 Bf nr ln Rf il If sl z ex y ey fu t) : go_Go X (63, 10767) (lw_C G me ad f0 f1 Bf nr ln (pc_rr Rf) il If sl z ex t u ++ lw_M G mo bd f0 f1 Bf nr ln Rf il If sl y ey fu s) [(0, .ref b), (1, .ref me), (2, .ref mo), (3, .int (nI k))] [] 284 := by
  have hct := lw_ct h
  have hex := lw_ex h
  have hey := lw_ey h
  have hyc : y.1 ≤ 400 := by rw [h.2.1.1.1]; exact hct
  refine go_aload_n C dL_law_284 1 rfl rfl ?_
  refine go_callV C (c_X8_verdict G [(me, .inr (7, [.ref (ad 0), .ref (ad 1), .ref (ad 8), .ref (ad 3), .ref (ad 36), .ref (ad 38), .ref (ad 5), .ref (ad 7), .ref (ad 46), .ref (ad 47), .ref (ad 48), .int (go_b (sl)), .int (go_b (z.2.2.2.2.2.1)), .int (go_b (z.2.2.2.2.2.2)), .int (nI ex)])), ((ad 5), .inr (4, [.ref (ad 40), .ref (ad 41), .ref (ad 6), .ref (ad 42), .int (nI (z.1))]))] 0 1 me (ad 0) (ad 1) (ad 8) (ad 3) (ad 36) (ad 38) (ad 5) (ad 7) (ad 46) (ad 47) (ad 48) sl z.2.2.2.2.2.1 z.2.2.2.2.2.2 ex (ad 40) (ad 41) (ad 6) (ad 42) z.1 rfl rfl (by omega) (by omega)) ml_L_48 mc_X8_verdict dL_law_285 [] rfl [0, 6] rfl rfl rfl 0 rfl rfl rfl ⟨Nat.le_of_ble_eq_true rfl, Nat.le_of_ble_eq_true rfl, Nat.le_of_ble_eq_true rfl, Nat.le_of_ble_eq_true rfl, Nat.le_of_ble_eq_true rfl⟩ (lw_C G me ad f0 f1 Bf nr ln (pc_rr Rf) il If sl z ex t u ++ lw_M G mo bd f0 f1 Bf nr ln Rf il If sl y ey fu s) rfl ?_
  refine go_se [.int (if z.2.2.2.2.2.1 = true then 2 else if sl = true ∧ z.1 ≤ ex then 1 else 0)] rfl ?_
  refine go_aload_n C dL_law_288 2 rfl rfl ?_
  refine go_callV C (c_X9_verdict G [(mo, .inr (8, [.ref (bd 0), .ref (bd 1), .ref (bd 2), .ref (bd 3), .ref (bd 4), .ref (bd 5), .ref (bd 6), .ref (bd 7), .ref (bd 8), .ref (bd 9), .ref (bd 10), .ref (bd 11), .int (nI nr), .int (nI il), .int (nI (y.1)), .int (nI ey), .int y.2.2.2, .int (go_b (sl)), .int (go_b (fu))]))] 0 mo (bd 0) (bd 1) (bd 2) (bd 3) (bd 4) (bd 5) (bd 6) (bd 7) (bd 8) (bd 9) (bd 10) (bd 11) nr il y.1 ey y.2.2.2 sl fu rfl (by omega) (by omega)) ml_L_51 mc_X9_verdict dL_law_289 [.int (if z.2.2.2.2.2.1 = true then 2 else if sl = true ∧ z.1 ≤ ex then 1 else 0)] rfl [50] rfl rfl rfl 50 rfl rfl rfl ⟨Nat.le_of_ble_eq_true rfl, Nat.le_of_ble_eq_true rfl, Nat.le_of_ble_eq_true rfl, Nat.le_of_ble_eq_true rfl, Nat.le_of_ble_eq_true rfl⟩ (lw_C G me ad f0 f1 Bf nr ln (pc_rr Rf) il If sl z ex t u ++ lw_M G mo bd f0 f1 Bf nr ln Rf il If sl y ey fu s) rfl ?_
  refine go_se [.int (if 0 ≤ y.2.2.2 then 2 else if sl = true ∧ fu = false ∧ ey = y.1 then 1 else 0), .int (if z.2.2.2.2.2.1 = true then 2 else if sl = true ∧ z.1 ≤ ex then 1 else 0)] rfl ?_
  refine go_icmp_eq C 438 dL_law_292 (by decide) (fun _ => ?_) (fun hne => absurd (lw_verdict h) hne)
  exact kk f0 f1 Bf nr ln Rf il If sl z ex t u y ey fu s h
set_option maxHeartbeats 8000000 in
set_option maxRecDepth 100000 in
theorem lw_case9 {X : go_X} {G : go_G} {me mo b L k : Nat} {ad bd : Nat → Nat} {xs : Nat → Int32} (C : go_Cx X cL_law RL ret 4 9 332 600000 7302250 G) (S : lw_X X b L xs) (hL : L ≤ 1536) (hk : k + 3 ≤ L) (kk : lw_K X G me ad mo bd [(0, .ref b), (1, .ref me), (2, .ref mo), (3, .int (nI k))]) (f0 f1 Bf : Nat → Int32) (nr : Nat) (ln : Nat → Nat) (Rf : Nat → Int32) (il : Nat) (If : Nat → Int32) (sl : Bool) (z : pc_Z) (ex : Nat) (t : lw_T) (u : lw_Sc) (y : pc_Y) (ey : Nat) (fu : Bool) (s : lw_Sm) (h : lw_I f0 Bf nr ln Rf il If sl z ex y ey fu t) : go_Go X (63, 10767) (lw_C G me ad f0 f1 Bf nr ln (pc_rr Rf) il If sl z ex t u ++ lw_M G mo bd f0 f1 Bf nr ln Rf il If sl y ey fu s) [(0, .ref b), (1, .ref me), (2, .ref mo), (3, .int (nI k))] [] 297 := by
  refine go_aload_n C dL_law_297 1 rfl rfl ?_
  refine go_callV C (c_X8_stateCount G [(me, .inr (7, [.ref (ad 0), .ref (ad 1), .ref (ad 8), .ref (ad 3), .ref (ad 36), .ref (ad 38), .ref (ad 5), .ref (ad 7), .ref (ad 46), .ref (ad 47), .ref (ad 48), .int (go_b (sl)), .int (go_b (z.2.2.2.2.2.1)), .int (go_b (z.2.2.2.2.2.2)), .int (nI ex)])), ((ad 5), .inr (4, [.ref (ad 40), .ref (ad 41), .ref (ad 6), .ref (ad 42), .int (nI (z.1))]))] 0 1 me (ad 0) (ad 1) (ad 8) (ad 3) (ad 36) (ad 38) (ad 5) (ad 7) (ad 46) (ad 47) (ad 48) sl z.2.2.2.2.2.1 z.2.2.2.2.2.2 ex (ad 40) (ad 41) (ad 6) (ad 42) z.1 rfl rfl ) ml_L_52 mc_X8_stateCount dL_law_298 [] rfl [0, 6] rfl rfl rfl 0 rfl rfl rfl ⟨Nat.le_of_ble_eq_true rfl, Nat.le_of_ble_eq_true rfl, Nat.le_of_ble_eq_true rfl, Nat.le_of_ble_eq_true rfl, Nat.le_of_ble_eq_true rfl⟩ (lw_C G me ad f0 f1 Bf nr ln (pc_rr Rf) il If sl z ex t u ++ lw_M G mo bd f0 f1 Bf nr ln Rf il If sl y ey fu s) rfl ?_
  refine go_se [.int (nI (z.1))] rfl ?_
  refine go_aload_n C dL_law_301 2 rfl rfl ?_
  refine go_callV C (c_X9_stateCount G [(mo, .inr (8, [.ref (bd 0), .ref (bd 1), .ref (bd 2), .ref (bd 3), .ref (bd 4), .ref (bd 5), .ref (bd 6), .ref (bd 7), .ref (bd 8), .ref (bd 9), .ref (bd 10), .ref (bd 11), .int (nI nr), .int (nI il), .int (nI (y.1)), .int (nI ey), .int y.2.2.2, .int (go_b (sl)), .int (go_b (fu))]))] 0 mo (bd 0) (bd 1) (bd 2) (bd 3) (bd 4) (bd 5) (bd 6) (bd 7) (bd 8) (bd 9) (bd 10) (bd 11) nr il y.1 ey y.2.2.2 sl fu rfl ) ml_L_55 mc_X9_stateCount dL_law_302 [.int (nI (z.1))] rfl [50] rfl rfl rfl 50 rfl rfl rfl ⟨Nat.le_of_ble_eq_true rfl, Nat.le_of_ble_eq_true rfl, Nat.le_of_ble_eq_true rfl, Nat.le_of_ble_eq_true rfl, Nat.le_of_ble_eq_true rfl⟩ (lw_C G me ad f0 f1 Bf nr ln (pc_rr Rf) il If sl z ex t u ++ lw_M G mo bd f0 f1 Bf nr ln Rf il If sl y ey fu s) rfl ?_
  refine go_se [.int (nI (y.1)), .int (nI (z.1))] rfl ?_
  refine go_icmp_eq C 438 dL_law_305 (by decide) (fun _ => ?_) (fun hne => absurd (by rw [h.2.1.1.1]) hne)
  exact kk f0 f1 Bf nr ln Rf il If sl z ex t u y ey fu s h
set_option maxHeartbeats 8000000 in
set_option maxRecDepth 100000 in
theorem lw_case14 {X : go_X} {G : go_G} {me mo b L k : Nat} {ad bd : Nat → Nat} {xs : Nat → Int32} (C : go_Cx X cL_law RL ret 4 9 332 600000 7302250 G) (S : lw_X X b L xs) (hL : L ≤ 1536) (hk : k + 3 ≤ L) (kk : lw_K X G me ad mo bd [(0, .ref b), (1, .ref me), (2, .ref mo), (3, .int (nI k))]) (f0 f1 Bf : Nat → Int32) (nr : Nat) (ln : Nat → Nat) (Rf : Nat → Int32) (il : Nat) (If : Nat → Int32) (sl : Bool) (z : pc_Z) (ex : Nat) (t : lw_T) (u : lw_Sc) (y : pc_Y) (ey : Nat) (fu : Bool) (s : lw_Sm) (h : lw_I f0 Bf nr ln Rf il If sl z ex y ey fu t) : go_Go X (63, 10767) (lw_C G me ad f0 f1 Bf nr ln (pc_rr Rf) il If sl z ex t u ++ lw_M G mo bd f0 f1 Bf nr ln Rf il If sl y ey fu s) [(0, .ref b), (1, .ref me), (2, .ref mo), (3, .int (nI k))] [] 392 := by
  refine go_aload_n C dL_law_392 1 rfl rfl ?_
  refine go_aload_n C dL_law_393 0 rfl rfl ?_
  refine go_iload_n C dL_law_394 3 rfl rfl ?_
  refine go_iconst C (nI 1) dL_law_395 (by decide) ?_
  refine go_iadd C (z := nI (k + 1)) dL_law_396 (nI_add k 1) ?_
  refine go_sld C S dL_law_397 (k + 1) rfl (by omega) (by omega) ?_
  refine go_aload_n C dL_law_398 0 rfl rfl ?_
  refine go_iload_n C dL_law_399 3 rfl rfl ?_
  refine go_iconst C (nI 2) dL_law_400 (by decide) ?_
  refine go_iadd C (z := nI (k + 2)) dL_law_401 (nI_add k 2) ?_
  refine go_sld C S dL_law_402 (k + 2) rfl (by omega) (by omega) ?_
  refine go_callV C (c_X8_probeVar G [(me, .inr (7, [.ref (ad 0), .ref (ad 1), .ref (ad 8), .ref (ad 3), .ref (ad 36), .ref (ad 38), .ref (ad 5), .ref (ad 7), .ref (ad 46), .ref (ad 47), .ref (ad 48), .int (go_b (sl)), .int (go_b (z.2.2.2.2.2.1)), .int (go_b (z.2.2.2.2.2.2)), .int (nI ex)]))] 0 me (ad 0) (ad 1) (ad 8) (ad 3) (ad 36) (ad 38) (ad 5) (ad 7) (ad 46) (ad 47) (ad 48) sl z.2.2.2.2.2.1 z.2.2.2.2.2.2 ex f1 (xs (k + 1)) (xs (k + 2)) rfl ) ml_L_72 mc_X8_probeVar dL_law_403 [] rfl [2, 0] rfl rfl rfl 0 rfl rfl rfl ⟨Nat.le_of_ble_eq_true rfl, Nat.le_of_ble_eq_true rfl, Nat.le_of_ble_eq_true rfl, Nat.le_of_ble_eq_true rfl, Nat.le_of_ble_eq_true rfl⟩ (lw_C G me ad f0 (if pc_isV (xs (k + 1)) = true then upd f1 ((xs (k + 1))).toNatClampNeg (xs (k + 2)) else f1) Bf nr ln (pc_rr Rf) il If sl z ex t u ++ lw_M G mo bd f0 f1 Bf nr ln Rf il If sl y ey fu s) rfl ?_
  refine go_se [.int (if pc_isV (xs (k + 1)) = true then 0 else -1)] rfl ?_
  refine go_aload_n C dL_law_406 2 rfl rfl ?_
  refine go_aload_n C dL_law_407 0 rfl rfl ?_
  refine go_iload_n C dL_law_408 3 rfl rfl ?_
  refine go_iconst C (nI 1) dL_law_409 (by decide) ?_
  refine go_iadd C (z := nI (k + 1)) dL_law_410 (nI_add k 1) ?_
  refine go_sld C S dL_law_411 (k + 1) rfl (by omega) (by omega) ?_
  refine go_aload_n C dL_law_412 0 rfl rfl ?_
  refine go_iload_n C dL_law_413 3 rfl rfl ?_
  refine go_iconst C (nI 2) dL_law_414 (by decide) ?_
  refine go_iadd C (z := nI (k + 2)) dL_law_415 (nI_add k 2) ?_
  refine go_sld C S dL_law_416 (k + 2) rfl (by omega) (by omega) ?_
  refine go_callV C (c_X9_probeVar G [(mo, .inr (8, [.ref (bd 0), .ref (bd 1), .ref (bd 2), .ref (bd 3), .ref (bd 4), .ref (bd 5), .ref (bd 6), .ref (bd 7), .ref (bd 8), .ref (bd 9), .ref (bd 10), .ref (bd 11), .int (nI nr), .int (nI il), .int (nI (y.1)), .int (nI ey), .int y.2.2.2, .int (go_b (sl)), .int (go_b (fu))]))] 0 mo (bd 0) (bd 1) (bd 2) (bd 3) (bd 4) (bd 5) (bd 6) (bd 7) (bd 8) (bd 9) (bd 10) (bd 11) nr il y.1 ey y.2.2.2 sl fu f1 (xs (k + 1)) (xs (k + 2)) rfl ) ml_L_75 mc_X9_probeVar dL_law_417 [.int (if pc_isV (xs (k + 1)) = true then 0 else -1)] rfl [53, 50] rfl rfl rfl 50 rfl rfl rfl ⟨Nat.le_of_ble_eq_true rfl, Nat.le_of_ble_eq_true rfl, Nat.le_of_ble_eq_true rfl, Nat.le_of_ble_eq_true rfl, Nat.le_of_ble_eq_true rfl⟩ (lw_C G me ad f0 (if pc_isV (xs (k + 1)) = true then upd f1 ((xs (k + 1))).toNatClampNeg (xs (k + 2)) else f1) Bf nr ln (pc_rr Rf) il If sl z ex t u ++ lw_M G mo bd f0 (if pc_isV (xs (k + 1)) = true then upd f1 ((xs (k + 1))).toNatClampNeg (xs (k + 2)) else f1) Bf nr ln Rf il If sl y ey fu s) rfl ?_
  refine go_se [.int (if pc_isV (xs (k + 1)) = true then 0 else -1), .int (if pc_isV (xs (k + 1)) = true then 0 else -1)] rfl ?_
  refine go_icmp_eq C 438 dL_law_420 (by decide) (fun _ => ?_) (fun hne => absurd rfl hne)
  exact kk f0 (if pc_isV (xs (k + 1)) = true then upd f1 ((xs (k + 1))).toNatClampNeg (xs (k + 2)) else f1) Bf nr ln Rf il If sl z ex t u y ey fu s h
set_option maxHeartbeats 8000000 in
set_option maxRecDepth 100000 in
theorem lw_case15 {X : go_X} {G : go_G} {me mo b L k : Nat} {ad bd : Nat → Nat} {xs : Nat → Int32} (C : go_Cx X cL_law RL ret 4 9 332 600000 7302250 G) (S : lw_X X b L xs) (hL : L ≤ 1536) (hk : k + 3 ≤ L) (kk : lw_K X G me ad mo bd [(0, .ref b), (1, .ref me), (2, .ref mo), (3, .int (nI k))]) (f0 f1 Bf : Nat → Int32) (nr : Nat) (ln : Nat → Nat) (Rf : Nat → Int32) (il : Nat) (If : Nat → Int32) (sl : Bool) (z : pc_Z) (ex : Nat) (t : lw_T) (u : lw_Sc) (y : pc_Y) (ey : Nat) (fu : Bool) (s : lw_Sm) (h : lw_I f0 Bf nr ln Rf il If sl z ex y ey fu t) : go_Go X (63, 10767) (lw_C G me ad f0 f1 Bf nr ln (pc_rr Rf) il If sl z ex t u ++ lw_M G mo bd f0 f1 Bf nr ln Rf il If sl y ey fu s) [(0, .ref b), (1, .ref me), (2, .ref mo), (3, .int (nI k))] [] 425 := by
  have hct := lw_ct h
  have hex := lw_ex h
  have hey := lw_ey h
  have hyc : y.1 ≤ 400 := by rw [h.2.1.1.1]; exact hct
  refine go_aload_n C dL_law_425 1 rfl rfl ?_
  refine go_callVe C (c_X8_isReachable G [(me, .inr (7, [.ref (ad 0), .ref (ad 1), .ref (ad 8), .ref (ad 3), .ref (ad 36), .ref (ad 38), .ref (ad 5), .ref (ad 7), .ref (ad 46), .ref (ad 47), .ref (ad 48), .int (go_b (sl)), .int (go_b (z.2.2.2.2.2.1)), .int (go_b (z.2.2.2.2.2.2)), .int (nI ex)])), ((ad 5), .inr (4, [.ref (ad 40), .ref (ad 41), .ref (ad 6), .ref (ad 42), .int (nI (z.1))])), ((ad 40), .inl (G.2.1, 2400, .inl z.2.1)), ((ad 6), .inl (G.2.1, 512, .inl z.2.2.2.1)), ((ad 42), .inl (G.2.1, 400, .inl z.2.2.2.2.1)), ((ad 8), .inr (0, [.ref (ad 2)])), ((ad 2), .inl (G.2.1, 6, .inl Bf)), ((ad 1), .inl (G.2.1, 6, .inl f1))] 0 1 2 3 4 5 6 7 me (ad 0) (ad 1) (ad 8) (ad 3) (ad 36) (ad 38) (ad 5) (ad 7) (ad 46) (ad 47) (ad 48) sl z.2.2.2.2.2.1 z.2.2.2.2.2.2 ex (ad 40) (ad 41) (ad 6) (ad 42) z.1 z.2.1 z.2.2.2.1 z.2.2.2.2.1 (ad 2) Bf f1 u.2.2.2.2 rfl rfl rfl rfl rfl rfl rfl rfl (by omega) (by omega)) ml_L_76 mc_X8_isReachable dL_law_426 [] rfl [49, 0, 6, 41, 7, 43, 9, 3, 2] rfl rfl (fun _ => rfl) 0 rfl rfl rfl ⟨Nat.le_of_ble_eq_true rfl, Nat.le_of_ble_eq_true rfl, Nat.le_of_ble_eq_true rfl, Nat.le_of_ble_eq_true rfl, Nat.le_of_ble_eq_true rfl⟩ (fun u2 => (lw_C G me ad f0 f1 Bf nr ln (pc_rr Rf) il If sl z ex t (u.1, u.2.1, u.2.2.1, u.2.2.2.1, u2) ++ lw_M G mo bd f0 f1 Bf nr ln Rf il If sl y ey fu s)) (fun _ => rfl) (fun u2 _ => ?_)
  refine go_se [.int (if (if z.2.2.2.2.2.1 = true then 2 else if sl = true ∧ z.1 ≤ ex then 1 else 0 : Int32) = 1 then (if pc_fd z.1 z.2.1 z.2.2.2.2.1 (pc_sf Bf f1) 401 0 (z.2.2.2.1 (pc_bk (pc_sf Bf f1))) = -1 then 0 else 1) else -6)] rfl ?_
  refine go_aload_n C dL_law_429 2 rfl rfl ?_
  refine go_callVe C (c_X9_isReachable G [(mo, .inr (8, [.ref (bd 0), .ref (bd 1), .ref (bd 2), .ref (bd 3), .ref (bd 4), .ref (bd 5), .ref (bd 6), .ref (bd 7), .ref (bd 8), .ref (bd 9), .ref (bd 10), .ref (bd 11), .int (nI nr), .int (nI il), .int (nI (y.1)), .int (nI ey), .int y.2.2.2, .int (go_b (sl)), .int (go_b (fu))])), ((bd 1), .inl (G.2.1, 6, .inl Bf)), ((bd 6), .inl (G.2.1, 2400, .inl y.2.1)), ((bd 2), .inl (G.2.1, 6, .inl f1))] 0 1 2 3 mo (bd 0) (bd 1) (bd 2) (bd 3) (bd 4) (bd 5) (bd 6) (bd 7) (bd 8) (bd 9) (bd 10) (bd 11) nr il y.1 ey y.2.2.2 sl fu Bf y.2.1 f1 s.2.1 s.2.2.1 rfl rfl rfl rfl (by omega) (by omega)) ml_L_79 mc_X9_isReachable dL_law_430 [.int (if (if z.2.2.2.2.2.1 = true then 2 else if sl = true ∧ z.1 ≤ ex then 1 else 0 : Int32) = 1 then (if pc_fd z.1 z.2.1 z.2.2.2.2.1 (pc_sf Bf f1) 401 0 (z.2.2.2.1 (pc_bk (pc_sf Bf f1))) = -1 then 0 else 1) else -6)] rfl [60, 61, 50, 52, 57, 53] rfl rfl (fun _ => rfl) 50 rfl rfl rfl ⟨Nat.le_of_ble_eq_true rfl, Nat.le_of_ble_eq_true rfl, Nat.le_of_ble_eq_true rfl, Nat.le_of_ble_eq_true rfl, Nat.le_of_ble_eq_true rfl⟩ (fun s2 => (lw_C G me ad f0 f1 Bf nr ln (pc_rr Rf) il If sl z ex t (u.1, u.2.1, u.2.2.1, u.2.2.2.1, u2) ++ lw_M G mo bd f0 f1 Bf nr ln Rf il If sl y ey fu (s.1, s2.1, s2.2, s.2.2.2))) (fun _ => rfl) (fun s2 _ => ?_)
  refine go_se [.int (if (if 0 ≤ y.2.2.2 then 2 else if sl = true ∧ fu = false ∧ ey = y.1 then 1 else 0 : Int32) = 1 then (if pc_is y.1 y.2.1 (pc_sf Bf f1) (y.1 + 1) 0 = true then 1 else 0) else -6), .int (if (if z.2.2.2.2.2.1 = true then 2 else if sl = true ∧ z.1 ≤ ex then 1 else 0 : Int32) = 1 then (if pc_fd z.1 z.2.1 z.2.2.2.2.1 (pc_sf Bf f1) 401 0 (z.2.2.2.1 (pc_bk (pc_sf Bf f1))) = -1 then 0 else 1) else -6)] rfl ?_
  refine go_icmp_eq C 438 dL_law_433 (by decide) (fun _ => ?_) (fun hne => absurd (lw_reach h f1) hne)
  exact kk f0 f1 Bf nr ln Rf il If sl z ex t (u.1, u.2.1, u.2.2.1, u.2.2.2.1, u2) y ey fu (s.1, s2.1, s2.2, s.2.2.2) h
