set_option maxHeartbeats 8000000 in
set_option maxRecDepth 100000 in
theorem lw_case4 {X : go_X} {G : go_G} {me mo b L k : Nat} {ad bd : Nat → Nat} {xs : Nat → Int32} (C : go_Cx X cL_law RL ret 4 9 332 600000 7302250 G) (S : lw_X X b L xs) (hL : L ≤ 1536) (hk : k + 3 ≤ L) (kk : lw_K X G me ad mo bd [(0, .ref b), (1, .ref me), (2, .ref mo), (3, .int (nI k))]) (f0 f1 Bf : Nat → Int32) (nr : Nat) (ln : Nat → Nat) (Rf : Nat → Int32) (il : Nat) (If : Nat → Int32) (sl : Bool) (z : pc_Z) (ex : Nat) (t : lw_T) (u : lw_Sc) (y : pc_Y) (ey : Nat) (fu : Bool) (s : lw_Sm) (h : lw_I f0 Bf nr ln Rf il If sl z ex y ey fu t) : go_Go X (63, 10767) (lw_C G me ad f0 f1 Bf nr ln (pc_rr Rf) il If sl z ex t u ++ lw_M G mo bd f0 f1 Bf nr ln Rf il If sl y ey fu s) [(0, .ref b), (1, .ref me), (2, .ref mo), (3, .int (nI k))] [] 202 := by
  by_cases hc : sl = true ∨ nr = 0
  · refine go_aload_n C dL_law_202 1 rfl rfl ?_
    refine go_aload_n C dL_law_203 0 rfl rfl ?_
    refine go_iload_n C dL_law_204 3 rfl rfl ?_
    refine go_iconst C (nI 1) dL_law_205 (by decide) ?_
    refine go_iadd C (z := nI (k + 1)) dL_law_206 (nI_add k 1) ?_
    refine go_sld C S dL_law_207 (k + 1) rfl (by omega) (by omega) ?_
    refine go_callV C (c_X8_feedRule0 G [(me, .inr (7, [.ref (ad 0), .ref (ad 1), .ref (ad 8), .ref (ad 3), .ref (ad 36), .ref (ad 38), .ref (ad 5), .ref (ad 7), .ref (ad 46), .ref (ad 47), .ref (ad 48), .int (go_b (sl)), .int (go_b (z.2.2.2.2.2.1)), .int (go_b (z.2.2.2.2.2.2)), .int (nI ex)])), ((ad 3), .inr (3, [.ref (ad 9), .ref (ad 10), .int (nI nr)]))] 0 1 me (ad 0) (ad 1) (ad 8) (ad 3) (ad 36) (ad 38) (ad 5) (ad 7) (ad 46) (ad 47) (ad 48) sl z.2.2.2.2.2.1 z.2.2.2.2.2.2 ex (ad 9) (ad 10) nr (xs (k + 1)) rfl rfl hc h.1.1) ml_L_31 mc_X8_feedRule dL_law_208 [] rfl [0, 4] rfl rfl rfl 0 rfl rfl rfl ⟨Nat.le_of_ble_eq_true rfl, Nat.le_of_ble_eq_true rfl, Nat.le_of_ble_eq_true rfl, Nat.le_of_ble_eq_true rfl, Nat.le_of_ble_eq_true rfl⟩ (lw_C G me ad f0 f1 Bf nr ln (pc_rr Rf) il If sl z ex t u ++ lw_M G mo bd f0 f1 Bf nr ln Rf il If sl y ey fu s) rfl ?_
    refine go_se [.int (if sl = true then -2 else -4)] rfl ?_
    refine go_aload_n C dL_law_211 2 rfl rfl ?_
    refine go_aload_n C dL_law_212 0 rfl rfl ?_
    refine go_iload_n C dL_law_213 3 rfl rfl ?_
    refine go_iconst C (nI 1) dL_law_214 (by decide) ?_
    refine go_iadd C (z := nI (k + 1)) dL_law_215 (nI_add k 1) ?_
    refine go_sld C S dL_law_216 (k + 1) rfl (by omega) (by omega) ?_
    have hc_217 := (c_X9_feedRule G [(mo, .inr (8, [.ref (bd 0), .ref (bd 1), .ref (bd 2), .ref (bd 3), .ref (bd 4), .ref (bd 5), .ref (bd 6), .ref (bd 7), .ref (bd 8), .ref (bd 9), .ref (bd 10), .ref (bd 11), .int (nI nr), .int (nI il), .int (nI (y.1)), .int (nI ey), .int y.2.2.2, .int (go_b (sl)), .int (go_b (fu))]))] 0 mo (bd 0) (bd 1) (bd 2) (bd 3) (bd 4) (bd 5) (bd 6) (bd 7) (bd 8) (bd 9) (bd 10) (bd 11) nr il y.1 ey y.2.2.2 sl fu Rf ln (xs (k + 1)) rfl h.1.1 h.1.2.1)
    have hn : ¬ (sl = false ∧ ¬ nr = 0 ∧ pc_isW (xs (k + 1)) = true ∧ ¬ 32 ≤ ln (nr - 1)) := fun e => hc.elim (fun q => by rw [q] at e; cases e.1) e.2.1
    rw [if_neg hn, if_neg hn] at hc_217
    refine go_callV C hc_217 ml_L_35 mc_X9_feedRule dL_law_217 [.int (if sl = true then -2 else -4)] rfl [54, 55, 50] rfl rfl rfl 50 rfl rfl rfl ⟨Nat.le_of_ble_eq_true rfl, Nat.le_of_ble_eq_true rfl, Nat.le_of_ble_eq_true rfl, Nat.le_of_ble_eq_true rfl, Nat.le_of_ble_eq_true rfl⟩ (lw_C G me ad f0 f1 Bf nr ln (pc_rr Rf) il If sl z ex t u ++ lw_M G mo bd f0 f1 Bf nr ln Rf il If sl y ey fu s) rfl ?_
    refine go_se [.int (if sl = true then -2 else if nr = 0 then -4 else pc_fr (ln (nr - 1)) (xs (k + 1))), .int (if sl = true then -2 else -4)] rfl ?_
    refine go_icmp_eq C 438 dL_law_220 (by decide) (fun _ => ?_) (fun hne => absurd (by rcases hc with e | e; (rw [if_pos e, if_pos e]); (rw [if_pos e])) hne)
    exact kk f0 f1 Bf nr ln Rf il If sl z ex t u y ey fu s h
  · have hs : sl = false := by cases sl; rfl; exact absurd (Or.inl rfl) hc
    have hn1 : 1 ≤ nr := by have : ¬ nr = 0 := fun e => hc (Or.inr e); omega
    have hn := h.1.1
    refine go_aload_n C dL_law_202 1 rfl rfl ?_
    refine go_aload_n C dL_law_203 0 rfl rfl ?_
    refine go_iload_n C dL_law_204 3 rfl rfl ?_
    refine go_iconst C (nI 1) dL_law_205 (by decide) ?_
    refine go_iadd C (z := nI (k + 1)) dL_law_206 (nI_add k 1) ?_
    refine go_sld C S dL_law_207 (k + 1) rfl (by omega) (by omega) ?_
    refine lw_feedC C f0 f1 Bf nr ln Rf il If sl z ex t u y ey fu s (xs (k + 1)) hs hn hn1 h.1.2.1 ?_
    by_cases hw : pc_isW (xs (k + 1)) = true ∧ ¬ 32 ≤ ln (nr - 1)
    · rw [show pc_fl (ln (nr - 1)) (xs (k + 1)) = ln (nr - 1) + 1 from if_pos hw]
      refine lw_cont (mo := mo) (bd := bd) (pc_rr (upd Rf (32 * (nr - 1) + ln (nr - 1)) (xs (k + 1)))) (lw_feedF hw) ?_
      refine go_aload_n C dL_law_211 2 rfl rfl ?_
      refine go_aload_n C dL_law_212 0 rfl rfl ?_
      refine go_iload_n C dL_law_213 3 rfl rfl ?_
      refine go_iconst C (nI 1) dL_law_214 (by decide) ?_
      refine go_iadd C (z := nI (k + 1)) dL_law_215 (nI_add k 1) ?_
      refine go_sld C S dL_law_216 (k + 1) rfl (by omega) (by omega) ?_
      have hc_217 := (c_X9_feedRule G [(mo, .inr (8, [.ref (bd 0), .ref (bd 1), .ref (bd 2), .ref (bd 3), .ref (bd 4), .ref (bd 5), .ref (bd 6), .ref (bd 7), .ref (bd 8), .ref (bd 9), .ref (bd 10), .ref (bd 11), .int (nI nr), .int (nI il), .int (nI (y.1)), .int (nI ey), .int y.2.2.2, .int (go_b (sl)), .int (go_b (fu))]))] 0 mo (bd 0) (bd 1) (bd 2) (bd 3) (bd 4) (bd 5) (bd 6) (bd 7) (bd 8) (bd 9) (bd 10) (bd 11) nr il y.1 ey y.2.2.2 sl fu Rf ln (xs (k + 1)) rfl h.1.1 h.1.2.1)
      have hp : sl = false ∧ ¬ nr = 0 ∧ pc_isW (xs (k + 1)) = true ∧ ¬ 32 ≤ ln (nr - 1) := ⟨hs, by omega, hw⟩
      rw [if_pos hp, if_pos hp] at hc_217
      refine go_callV C hc_217 ml_L_35 mc_X9_feedRule dL_law_217 [.int (pc_fr (ln (nr - 1)) (xs (k + 1)))] rfl [54, 55, 50] rfl rfl rfl 50 rfl rfl rfl ⟨Nat.le_of_ble_eq_true rfl, Nat.le_of_ble_eq_true rfl, Nat.le_of_ble_eq_true rfl, Nat.le_of_ble_eq_true rfl, Nat.le_of_ble_eq_true rfl⟩ (lw_C G me ad f0 f1 Bf nr (pc_ul ln (nr - 1) (ln (nr - 1) + 1)) (pc_rr (upd Rf (32 * (nr - 1) + ln (nr - 1)) (xs (k + 1)))) il If sl z ex t u ++ lw_M G mo bd f0 f1 Bf nr (pc_ul ln (nr - 1) (ln (nr - 1) + 1)) (upd Rf (32 * (nr - 1) + ln (nr - 1)) (xs (k + 1))) il If sl y ey fu s) rfl ?_
      refine go_se [.int (if sl = true then -2 else if nr = 0 then -4 else pc_fr (ln (nr - 1)) (xs (k + 1))), .int (pc_fr (ln (nr - 1)) (xs (k + 1)))] rfl ?_
      refine go_icmp_eq C 438 dL_law_220 (by decide) (fun _ => ?_) (fun hne => absurd (by rw [if_neg (by rw [hs]; exact Bool.false_ne_true), if_neg (by omega)]) hne)
      exact kk f0 f1 Bf nr (pc_ul ln (nr - 1) (ln (nr - 1) + 1)) (upd Rf (32 * (nr - 1) + ln (nr - 1)) (xs (k + 1))) il If sl z ex t u y ey fu s (lw_I_feed h hs hw.1 (by omega) hw.2)
    · rw [show pc_fl (ln (nr - 1)) (xs (k + 1)) = ln (nr - 1) from if_neg hw, lw_ul_id]
      refine lw_cont (mo := mo) (bd := bd) (pc_rr Rf) (lw_feedF0 hw) ?_
      refine go_aload_n C dL_law_211 2 rfl rfl ?_
      refine go_aload_n C dL_law_212 0 rfl rfl ?_
      refine go_iload_n C dL_law_213 3 rfl rfl ?_
      refine go_iconst C (nI 1) dL_law_214 (by decide) ?_
      refine go_iadd C (z := nI (k + 1)) dL_law_215 (nI_add k 1) ?_
      refine go_sld C S dL_law_216 (k + 1) rfl (by omega) (by omega) ?_
      have hc_217 := (c_X9_feedRule G [(mo, .inr (8, [.ref (bd 0), .ref (bd 1), .ref (bd 2), .ref (bd 3), .ref (bd 4), .ref (bd 5), .ref (bd 6), .ref (bd 7), .ref (bd 8), .ref (bd 9), .ref (bd 10), .ref (bd 11), .int (nI nr), .int (nI il), .int (nI (y.1)), .int (nI ey), .int y.2.2.2, .int (go_b (sl)), .int (go_b (fu))]))] 0 mo (bd 0) (bd 1) (bd 2) (bd 3) (bd 4) (bd 5) (bd 6) (bd 7) (bd 8) (bd 9) (bd 10) (bd 11) nr il y.1 ey y.2.2.2 sl fu Rf ln (xs (k + 1)) rfl h.1.1 h.1.2.1)
      have hp : ¬ (sl = false ∧ ¬ nr = 0 ∧ pc_isW (xs (k + 1)) = true ∧ ¬ 32 ≤ ln (nr - 1)) := fun e => hw e.2.2
      rw [if_neg hp, if_neg hp] at hc_217
      refine go_callV C hc_217 ml_L_35 mc_X9_feedRule dL_law_217 [.int (pc_fr (ln (nr - 1)) (xs (k + 1)))] rfl [54, 55, 50] rfl rfl rfl 50 rfl rfl rfl ⟨Nat.le_of_ble_eq_true rfl, Nat.le_of_ble_eq_true rfl, Nat.le_of_ble_eq_true rfl, Nat.le_of_ble_eq_true rfl, Nat.le_of_ble_eq_true rfl⟩ (lw_C G me ad f0 f1 Bf nr ln (pc_rr Rf) il If sl z ex t u ++ lw_M G mo bd f0 f1 Bf nr ln Rf il If sl y ey fu s) rfl ?_
      refine go_se [.int (if sl = true then -2 else if nr = 0 then -4 else pc_fr (ln (nr - 1)) (xs (k + 1))), .int (pc_fr (ln (nr - 1)) (xs (k + 1)))] rfl ?_
      refine go_icmp_eq C 438 dL_law_220 (by decide) (fun _ => ?_) (fun hne => absurd (by rw [if_neg (by rw [hs]; exact Bool.false_ne_true), if_neg (by omega)]) hne)
      exact kk f0 f1 Bf nr ln Rf il If sl z ex t u y ey fu s h
