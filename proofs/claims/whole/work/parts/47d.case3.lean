set_option maxHeartbeats 8000000 in
set_option maxRecDepth 100000 in
theorem lw_case3 {X : go_X} {G : go_G} {me mo b L k : Nat} {ad bd : Nat → Nat} {xs : Nat → Int32} (C : go_Cx X cL_law RL ret 4 9 332 600000 7302250 G) (S : lw_X X b L xs) (hL : L ≤ 1536) (hk : k + 3 ≤ L) (kk : lw_K X G me ad mo bd [(0, .ref b), (1, .ref me), (2, .ref mo), (3, .int (nI k))]) (f0 f1 Bf : Nat → Int32) (nr : Nat) (ln : Nat → Nat) (Rf : Nat → Int32) (il : Nat) (If : Nat → Int32) (sl : Bool) (z : pc_Z) (ex : Nat) (t : lw_T) (u : lw_Sc) (y : pc_Y) (ey : Nat) (fu : Bool) (s : lw_Sm) (h : lw_I f0 Bf nr ln Rf il If sl z ex y ey fu t) : go_Go X (63, 10767) (lw_C G me ad f0 f1 Bf nr ln (pc_rr Rf) il If sl z ex t u ++ lw_M G mo bd f0 f1 Bf nr ln Rf il If sl y ey fu s) [(0, .ref b), (1, .ref me), (2, .ref mo), (3, .int (nI k))] [] 189 := by
  by_cases hc : sl = true ∨ nr = 12
  · refine go_aload_n C dL_law_189 1 rfl rfl ?_
    refine go_callV C (c_X8_beginRule0 G [(me, .inr (7, [.ref (ad 0), .ref (ad 1), .ref (ad 8), .ref (ad 3), .ref (ad 36), .ref (ad 38), .ref (ad 5), .ref (ad 7), .ref (ad 46), .ref (ad 47), .ref (ad 48), .int (go_b (sl)), .int (go_b (z.2.2.2.2.2.1)), .int (go_b (z.2.2.2.2.2.2)), .int (nI ex)])), ((ad 3), .inr (3, [.ref (ad 9), .ref (ad 10), .int (nI nr)]))] 0 1 me (ad 0) (ad 1) (ad 8) (ad 3) (ad 36) (ad 38) (ad 5) (ad 7) (ad 46) (ad 47) (ad 48) sl z.2.2.2.2.2.1 z.2.2.2.2.2.2 ex (ad 9) (ad 10) nr rfl rfl hc h.1.1) ml_L_26 mc_X8_beginRule dL_law_190 [] rfl [0, 4] rfl rfl rfl 0 rfl rfl rfl ⟨Nat.le_of_ble_eq_true rfl, Nat.le_of_ble_eq_true rfl, Nat.le_of_ble_eq_true rfl, Nat.le_of_ble_eq_true rfl, Nat.le_of_ble_eq_true rfl⟩ (lw_C G me ad f0 f1 Bf nr ln (pc_rr Rf) il If sl z ex t u ++ lw_M G mo bd f0 f1 Bf nr ln Rf il If sl y ey fu s) rfl ?_
    refine go_se [.int (if sl = true then -2 else -3)] rfl ?_
    refine go_aload_n C dL_law_193 2 rfl rfl ?_
    have hc_194 := (c_X9_beginRule G []  mo (bd 0) (bd 1) (bd 2) (bd 3) (bd 4) (bd 5) (bd 6) (bd 7) (bd 8) (bd 9) (bd 10) (bd 11) nr il y.1 ey y.2.2.2 sl fu ln  h.1.1)
    have hn : ¬ (sl = false ∧ ¬ nr = 12) := fun e => hc.elim (fun q => by rw [q] at e; cases e.1) e.2
    rw [if_neg hn, if_neg hn] at hc_194
    refine go_callV C hc_194 ml_L_30 mc_X9_beginRule dL_law_194 [.int (if sl = true then -2 else -3)] rfl [50, 55] rfl rfl rfl 50 rfl rfl rfl ⟨Nat.le_of_ble_eq_true rfl, Nat.le_of_ble_eq_true rfl, Nat.le_of_ble_eq_true rfl, Nat.le_of_ble_eq_true rfl, Nat.le_of_ble_eq_true rfl⟩ (lw_C G me ad f0 f1 Bf nr ln (pc_rr Rf) il If sl z ex t u ++ lw_M G mo bd f0 f1 Bf nr ln Rf il If sl y ey fu s) rfl ?_
    refine go_se [.int (if sl = true then -2 else if nr = 12 then -3 else nI nr), .int (if sl = true then -2 else -3)] rfl ?_
    refine go_icmp_eq C 438 dL_law_197 (by decide) (fun _ => ?_) (fun hne => absurd (by rcases hc with e | e; (rw [if_pos e, if_pos e]); (rw [if_pos e])) hne)
    exact kk f0 f1 Bf nr ln Rf il If sl z ex t u y ey fu s h
  · have hs : sl = false := by cases sl; rfl; exact absurd (Or.inl rfl) hc
    have hn : nr < 12 := by have := h.1.1; have : ¬ nr = 12 := fun e => hc (Or.inr e); omega
    refine go_aload_n C dL_law_189 1 rfl rfl ?_
    refine lw_beginC C f0 f1 Bf nr ln Rf il If sl z ex t u y ey fu s hs hn ?_
    refine go_aload_n C dL_law_193 2 rfl rfl ?_
    have hc_194 := (c_X9_beginRule G []  mo (bd 0) (bd 1) (bd 2) (bd 3) (bd 4) (bd 5) (bd 6) (bd 7) (bd 8) (bd 9) (bd 10) (bd 11) nr il y.1 ey y.2.2.2 sl fu ln  h.1.1)
    have hp : sl = false ∧ ¬ nr = 12 := ⟨hs, by omega⟩
    rw [if_pos hp, if_pos hp] at hc_194
    refine go_callV C hc_194 ml_L_30 mc_X9_beginRule dL_law_194 [.int (nI nr)] rfl [50, 55] rfl rfl rfl 50 rfl rfl rfl ⟨Nat.le_of_ble_eq_true rfl, Nat.le_of_ble_eq_true rfl, Nat.le_of_ble_eq_true rfl, Nat.le_of_ble_eq_true rfl, Nat.le_of_ble_eq_true rfl⟩ (lw_C G me ad f0 f1 Bf (nr + 1) (pc_ul ln nr 0) (pc_rr Rf) il If sl z ex t u ++ lw_M G mo bd f0 f1 Bf (nr + 1) (pc_ul ln nr 0) Rf il If sl y ey fu s) rfl ?_
    refine go_se [.int (if sl = true then -2 else if nr = 12 then -3 else nI nr), .int (nI nr)] rfl ?_
    refine go_icmp_eq C 438 dL_law_197 (by decide) (fun _ => ?_) (fun hne => absurd (by rw [if_neg (by rw [hs]; exact Bool.false_ne_true), if_neg (by omega)]) hne)
    exact kk f0 f1 Bf (nr + 1) (pc_ul ln nr 0) Rf il If sl z ex t u y ey fu s (lw_I_begin h hs hn)
