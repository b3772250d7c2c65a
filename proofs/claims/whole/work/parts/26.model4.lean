set_option maxHeartbeats 4000000 in
set_option maxRecDepth 100000 in
theorem c_X9_stateCount (G : go_G) (rs : va_W) (p0 : Nat) (mo : Nat) (mfi : Nat) (mbl : Nat) (mpb : Nat) (mru : Nat) (mle : Nat) (miv : Nat) (mst : Nat) (mpa : Nat) (mhe : Nat) (maf : Nat) (mno : Nat) (msk : Nat) (nr : Nat) (il : Nat) (ct : Nat) (ex : Nat) (br : Int32) (sl : Bool) (fu : Bool) (hp0 : rs[p0]? = some (mo, .inr (8, [.ref mfi, .ref mbl, .ref mpb, .ref mru, .ref mle, .ref miv, .ref mst, .ref mpa, .ref mhe, .ref maf, .ref mno, .ref msk, .int (nI nr), .int (nI il), .int (nI ct), .int (nI ex), .int br, .int (go_b (sl)), .int (go_b (fu))])))  : go_Fn yX9_stateCount cX9_stateCount 1 (some .int) 0 0 G [.ref mo] rs (some (.int (nI ct))) rs := by
  refine go_Fn_of (by decide) (Nat.le_of_ble_eq_true rfl) (fun X C E => ?_)
  show go_Go X (0, 0) rs [(0, .ref mo)] [] 0
  refine go_aload_n C dX9_stateCount_0 0 rfl rfl ?_
  refine go_get C (v := .int (nI ct)) fl_X9_56 dX9_stateCount_1 p0 hp0 rfl ?_
  exact go_iret C E dX9_stateCount_4 rfl rfl
set_option maxHeartbeats 4000000 in
set_option maxRecDepth 100000 in
theorem c_X9_verdict (G : go_G) (rs : va_W) (p0 : Nat) (mo : Nat) (mfi : Nat) (mbl : Nat) (mpb : Nat) (mru : Nat) (mle : Nat) (miv : Nat) (mst : Nat) (mpa : Nat) (mhe : Nat) (maf : Nat) (mno : Nat) (msk : Nat) (nr : Nat) (il : Nat) (ct : Nat) (ex : Nat) (br : Int32) (sl : Bool) (fu : Bool) (hp0 : rs[p0]? = some (mo, .inr (8, [.ref mfi, .ref mbl, .ref mpb, .ref mru, .ref mle, .ref miv, .ref mst, .ref mpa, .ref mhe, .ref maf, .ref mno, .ref msk, .int (nI nr), .int (nI il), .int (nI ct), .int (nI ex), .int br, .int (go_b (sl)), .int (go_b (fu))]))) (hc : ct ≤ 400) (hex : ex ≤ 1000) : go_Fn yX9_verdict cX9_verdict 1 (some .int) 0 0 G [.ref mo] rs (some (.int (if 0 ≤ br then 2 else if sl = true ∧ fu = false ∧ ex = ct then 1 else 0))) rs := by
  refine go_Fn_of (by decide) (Nat.le_of_ble_eq_true rfl) (fun X C E => ?_)
  show go_Go X (0, 0) rs [(0, .ref mo)] [] 0
  refine go_aload_n C dX9_verdict_0 0 rfl rfl ?_
  refine go_get C (v := .int br) fl_X9_46 dX9_verdict_1 p0 hp0 rfl ?_
  refine go_if_lt C 11 dX9_verdict_4 (by decide) (fun c_4 => ?_) (fun c_4 => ?_)
  · refine go_aload_n C dX9_verdict_11 0 rfl rfl ?_
    refine go_get C (v := .int (go_b (sl))) fl_X9_62 dX9_verdict_12 p0 hp0 rfl ?_
    refine go_if_eqB C 40 dX9_verdict_15 (by decide) (fun c_15 => ?_) (fun c_15 => ?_)
    · refine go_iconst C (0) dX9_verdict_40 (by decide) ?_
      exact go_iret C E dX9_verdict_41 (by first | (rw [if_pos (Int32.not_lt.mp c_4)]; done) | (rw [if_neg (Int32.not_le.mpr c_4)]; first | (simp [c_15, c_22, c_33]; done) | (simp [c_15, c_22]; done) | (simp [c_15]; done))) rfl
    · refine go_aload_n C dX9_verdict_18 0 rfl rfl ?_
      refine go_get C (v := .int (go_b (fu))) fl_X9_66 dX9_verdict_19 p0 hp0 rfl ?_
      refine go_if_neB C 40 dX9_verdict_22 (by decide) (fun c_22 => ?_) (fun c_22 => ?_)
      · refine go_iconst C (0) dX9_verdict_40 (by decide) ?_
        exact go_iret C E dX9_verdict_41 (by first | (rw [if_pos (Int32.not_lt.mp c_4)]; done) | (rw [if_neg (Int32.not_le.mpr c_4)]; first | (simp [c_15, c_22, c_33]; done) | (simp [c_15, c_22]; done) | (simp [c_15]; done))) rfl
      · refine go_aload_n C dX9_verdict_25 0 rfl rfl ?_
        refine go_get C (v := .int (nI ex)) fl_X9_59 dX9_verdict_26 p0 hp0 rfl ?_
        refine go_aload_n C dX9_verdict_29 0 rfl rfl ?_
        refine go_get C (v := .int (nI ct)) fl_X9_56 dX9_verdict_30 p0 hp0 rfl ?_
        refine go_icmp_neN (a := ex) (b := ct) C 40 dX9_verdict_33 (by decide) (by omega) (by omega) (fun c_33 => ?_) (fun c_33 => ?_)
        · refine go_iconst C (0) dX9_verdict_40 (by decide) ?_
          exact go_iret C E dX9_verdict_41 (by first | (rw [if_pos (Int32.not_lt.mp c_4)]; done) | (rw [if_neg (Int32.not_le.mpr c_4)]; first | (simp [c_15, c_22, c_33]; done) | (simp [c_15, c_22]; done) | (simp [c_15]; done))) rfl
        · refine go_iconst C (1) dX9_verdict_36 (by decide) ?_
          refine go_goto C 41 dX9_verdict_37 (by decide) ?_
          exact go_iret C E dX9_verdict_41 (by first | (rw [if_pos (Int32.not_lt.mp c_4)]; done) | (rw [if_neg (Int32.not_le.mpr c_4)]; first | (simp [c_15, c_22, c_33]; done) | (simp [c_15, c_22]; done) | (simp [c_15]; done))) rfl
  · refine go_iconst C (2) dX9_verdict_7 (by decide) ?_
    refine go_goto C 41 dX9_verdict_8 (by decide) ?_
    exact go_iret C E dX9_verdict_41 (by first | (rw [if_pos (Int32.not_lt.mp c_4)]; done) | (rw [if_neg (Int32.not_le.mpr c_4)]; first | (simp [c_15, c_22, c_33]; done) | (simp [c_15, c_22]; done) | (simp [c_15]; done))) rfl
set_option maxHeartbeats 4000000 in
set_option maxRecDepth 100000 in
theorem l_X9_seal0_12 {X : go_X} (G : go_G) (rs : va_W) (p0 : Nat) (p1 : Nat) (p2 : Nat) (p3 : Nat) (p4 : Nat) (mo : Nat) (mfi : Nat) (mbl : Nat) (mpb : Nat) (mru : Nat) (mle : Nat) (miv : Nat) (mst : Nat) (mpa : Nat) (mhe : Nat) (maf : Nat) (mno : Nat) (msk : Nat) (nr : Nat) (il : Nat) (ct : Nat) (ex : Nat) (br : Int32) (sl : Bool) (fu : Bool) (Rf : Nat → Int32) (ln : Nat → Nat) (If : Nat → Int32) (Bf : Nat → Int32) (hp0 : rs[p0]? = some (mo, .inr (8, [.ref mfi, .ref mbl, .ref mpb, .ref mru, .ref mle, .ref miv, .ref mst, .ref mpa, .ref mhe, .ref maf, .ref mno, .ref msk, .int (nI nr), .int (nI il), .int (nI ct), .int (nI ex), .int br, .int (go_b (sl)), .int (go_b (fu))]))) (hp1 : rs[p1]? = some (mru, .inl (G.2.1, 384, .inl Rf))) (hp2 : rs[p2]? = some (mle, .inl (G.2.1, 12, .inl (pc_lf ln)))) (hp3 : rs[p3]? = some (miv, .inl (G.2.1, 32, .inl If))) (hp4 : rs[p4]? = some (mbl, .inl (G.2.1, 6, .inl Bf))) (hnr : nr ≤ 12) (hil : il ≤ 32) (hln : ∀ r, r < 12 → ln r ≤ 32) (hc : sl = true ∨ pc_sR nr ln Rf (nr + 1) 0 = false ∨ pc_mI il If (il + 1) 0 0 = false ∨ pc_nba nr ln Rf Bf il If 7 0 = false) {Rr : Option Value} (fb : Bool) (hF : fb = false → some (.int 1) = Rr) (C : go_Cx X cX9_seal RX9 (some .int) 2 5 119 0 0 G) (E : go_Ex X Rr rs) (K : fb = true → go_Go X (0, 0) rs [(0, .ref mo)] [] 36) : ∀ (n : Nat) (r : Nat) (hin : nr < r + n) (hi : r ≤ nr) (hB : pc_sR nr ln Rf n r = fb), go_Go X (0, 0) rs [(0, .ref mo), (1, .int (nI r))] [] 12 := by
  intro n
  induction n with
  | zero => intro r hin hi hB; omega
  | succ n ih =>
    intro r hin hi hB
    refine go_iload_n C dX9_seal_12 1 rfl rfl ?_
    refine go_aload_n C dX9_seal_13 0 rfl rfl ?_
    refine go_get C (v := .int (nI nr)) fl_X9_50 dX9_seal_14 p0 hp0 rfl ?_
    refine go_icmp_geN (a := r) (b := nr) C 36 dX9_seal_17 (by decide) (by omega) (by omega) (fun c_17 => ?_) (fun c_17 => ?_)
    · refine go_lv [(0, .ref mo)] [0] rfl ?_
      exact K (by rw [← hB]; simp [pc_sR, c_17])
    · refine go_aload_n C dX9_seal_20 0 rfl rfl ?_
      refine go_iload_n C dX9_seal_21 1 rfl rfl ?_
      refine go_cV C (c_X9_ruleIsRight G rs p0 p1 p2 mo mfi mbl mpb mru mle miv mst mpa mhe maf mno msk nr il ct ex br sl fu Rf ln r hp0 hp1 hp2 (by omega) hln) ml_X9_131 mc_X9_ruleIsRight dX9_seal_22 [] rfl rfl p0 hp0 rfl rfl ⟨Nat.le_of_ble_eq_true rfl, Nat.le_of_ble_eq_true rfl, Nat.zero_le _, Nat.zero_le _, Nat.le_of_ble_eq_true rfl⟩ [.int (go_b (pc_mR (ln r) (pc_rr Rf r) (ln r + 1) 0 0 0))] rfl ?_
      refine go_if_neB C 30 dX9_seal_25 (by decide) (fun c_25 => ?_) (fun c_25 => ?_)
      · refine go_iinc C (nI (r + 1)) [(0, .ref mo), (1, .int (nI (r + 1)))] dX9_seal_30 1 [1, 0] rfl (nI_add r 1) (by decide) rfl ?_
        refine go_goto C 12 dX9_seal_33 (by decide) ?_
        exact ih (r + 1) (by omega) (by omega) (by rw [← hB]; simp [pc_sR, c_17, c_25])
      · refine go_iconst C (1) dX9_seal_28 (by decide) ?_
        exact go_iret C E dX9_seal_29 (hF (by rw [← hB]; simp [pc_sR, c_17, c_25])) rfl
set_option maxHeartbeats 4000000 in
set_option maxRecDepth 100000 in
theorem c_X9_seal0 (G : go_G) (rs : va_W) (p0 : Nat) (p1 : Nat) (p2 : Nat) (p3 : Nat) (p4 : Nat) (mo : Nat) (mfi : Nat) (mbl : Nat) (mpb : Nat) (mru : Nat) (mle : Nat) (miv : Nat) (mst : Nat) (mpa : Nat) (mhe : Nat) (maf : Nat) (mno : Nat) (msk : Nat) (nr : Nat) (il : Nat) (ct : Nat) (ex : Nat) (br : Int32) (sl : Bool) (fu : Bool) (Rf : Nat → Int32) (ln : Nat → Nat) (If : Nat → Int32) (Bf : Nat → Int32) (hp0 : rs[p0]? = some (mo, .inr (8, [.ref mfi, .ref mbl, .ref mpb, .ref mru, .ref mle, .ref miv, .ref mst, .ref mpa, .ref mhe, .ref maf, .ref mno, .ref msk, .int (nI nr), .int (nI il), .int (nI ct), .int (nI ex), .int br, .int (go_b (sl)), .int (go_b (fu))]))) (hp1 : rs[p1]? = some (mru, .inl (G.2.1, 384, .inl Rf))) (hp2 : rs[p2]? = some (mle, .inl (G.2.1, 12, .inl (pc_lf ln)))) (hp3 : rs[p3]? = some (miv, .inl (G.2.1, 32, .inl If))) (hp4 : rs[p4]? = some (mbl, .inl (G.2.1, 6, .inl Bf))) (hnr : nr ≤ 12) (hil : il ≤ 32) (hln : ∀ r, r < 12 → ln r ≤ 32) (hc : sl = true ∨ pc_sR nr ln Rf (nr + 1) 0 = false ∨ pc_mI il If (il + 1) 0 0 = false ∨ pc_nba nr ln Rf Bf il If 7 0 = false) : go_Fn yX9_seal cX9_seal 2 (some .int) 5 119 G [.ref mo] rs (some (.int (if sl = true then -2 else if pc_sR nr ln Rf (nr + 1) 0 = false then 1 else if pc_mI il If (il + 1) 0 0 = false then 2 else 3))) rs := by
  refine go_Fn_of (by decide) (Nat.le_of_ble_eq_true rfl) (fun X C E => ?_)
  show go_Go X (0, 0) rs [(0, .ref mo)] [] 0
  refine go_aload_n C dX9_seal_0 0 rfl rfl ?_
  refine go_get C (v := .int (go_b (sl))) fl_X9_62 dX9_seal_1 p0 hp0 rfl ?_
  refine go_if_eqB C 10 dX9_seal_4 (by decide) (fun c_4 => ?_) (fun c_4 => ?_)
  · refine go_iconst C (0) dX9_seal_10 (by decide) ?_
    refine go_istore_n C [(0, .ref mo), (1, .int 0)] dX9_seal_11 [1, 0] rfl (by decide) rfl ?_
    refine l_X9_seal0_12 G rs p0 p1 p2 p3 p4 mo mfi mbl mpb mru mle miv mst mpa mhe maf mno msk nr il ct ex br sl fu Rf ln If Bf hp0 hp1 hp2 hp3 hp4 hnr hil hln hc (pc_sR nr ln Rf (nr + 1) 0) (fun h => by simp [c_4, h]) C E (fun hK_12 => ?_) (nr + 1) 0 (by omega) (by omega) rfl
    show go_Go X (0, 0) rs [(0, .ref mo)] [] 36
    refine go_aload_n C dX9_seal_36 0 rfl rfl ?_
    refine go_cV C (c_X9_invariantIsRight G rs p0 p3 mo mfi mbl mpb mru mle miv mst mpa mhe maf mno msk nr il ct ex br sl fu If hp0 hp3 (by omega)) ml_X9_134 mc_X9_invariantIsRight dX9_seal_37 [] rfl rfl p0 hp0 rfl rfl ⟨Nat.le_of_ble_eq_true rfl, Nat.le_of_ble_eq_true rfl, Nat.zero_le _, Nat.zero_le _, Nat.le_of_ble_eq_true rfl⟩ [.int (go_b (pc_mI il If (il + 1) 0 0))] rfl ?_
    refine go_if_neB C 45 dX9_seal_40 (by decide) (fun c_40 => ?_) (fun c_40 => ?_)
    · refine go_aload_n C dX9_seal_45 0 rfl rfl ?_
      refine go_cV C (c_X9_blocksAreRight G rs p0 p1 p2 p3 p4 mo mfi mbl mpb mru mle miv mst mpa mhe maf mno msk nr il ct ex br sl fu Rf ln If Bf hp0 hp1 hp2 hp3 hp4 (by omega) (by omega) hln) ml_X9_137 mc_X9_blocksAreRight dX9_seal_46 [] rfl rfl p0 hp0 rfl rfl ⟨Nat.le_of_ble_eq_true rfl, Nat.le_of_ble_eq_true rfl, Nat.zero_le _, Nat.zero_le _, Nat.le_of_ble_eq_true rfl⟩ [.int (go_b (pc_nba nr ln Rf Bf il If 7 0))] rfl ?_
      refine go_if_neB C 54 dX9_seal_49 (by decide) (fun c_49 => ?_) (fun c_49 => ?_)
      · simp [c_4, hK_12, c_40, c_49] at hc
      · refine go_iconst C (3) dX9_seal_52 (by decide) ?_
        exact go_iret C E dX9_seal_53 (by first | (simp [c_4, hK_12, c_40]; done) | (simp [c_4]; done)) rfl
    · refine go_iconst C (2) dX9_seal_43 (by decide) ?_
      exact go_iret C E dX9_seal_44 (by first | (simp [c_4, hK_12, c_40]; done) | (simp [c_4]; done)) rfl
  · refine go_bipush C ((-2)) dX9_seal_7 (by decide) ?_
    exact go_iret C E dX9_seal_9 (by first | (simp [c_4, hK_12, c_40]; done) | (simp [c_4]; done)) rfl
set_option maxHeartbeats 4000000 in
set_option maxRecDepth 100000 in
theorem l_X9_seal_61 {X : go_X} (G : go_G) (rs : va_W) (p0 : Nat) (p1 : Nat) (p2 : Nat) (p3 : Nat) (p4 : Nat) (mo : Nat) (mfi : Nat) (mbl : Nat) (mpb : Nat) (mru : Nat) (mle : Nat) (miv : Nat) (mst : Nat) (mpa : Nat) (mhe : Nat) (maf : Nat) (mno : Nat) (msk : Nat) (nr : Nat) (il : Nat) (ex : Nat) (sl : Bool) (fu : Bool) (y : pc_Y) (Rf : Nat → Int32) (ln : Nat → Nat) (If : Nat → Int32) (Bf : Nat → Int32) (f0 : Nat → Int32) (h0 : Nat → Int32) (a0 : Nat → Int32) (n0 : Nat → Int32) (s0 : Nat → Int32) (hp0 : rs[p0]? = some (mfi, .inl (G.2.1, 6, .inl f0))) (hp1 : rs[p1]? = some (mru, .inl (G.2.1, 384, .inl Rf))) (hp2 : rs[p2]? = some (mle, .inl (G.2.1, 12, .inl (pc_lf ln)))) (hp3 : rs[p3]? = some (miv, .inl (G.2.1, 32, .inl If))) (hp4 : rs[p4]? = some (mbl, .inl (G.2.1, 6, .inl Bf))) (hnr : nr ≤ 12) (hln : ∀ r, r < 12 → ln r ≤ 32) (hil : il ≤ 32) (hok : pc_mok If il 0 0) (hmh : ∀ b, pc_mho il If b = pc_ho il If b) (hsl : sl = false) (hA : pc_sR nr ln Rf (nr + 1) 0 = true) (hI : pc_mI il If (il + 1) 0 0 = true) (hBa : pc_nba nr ln Rf Bf il If 7 0 = true) (hc4 : y.1 < 400)   (C : go_Cx X cX9_seal RX9 (some .int) 2 5 119 0 0 G) (E : go_Ee X (S := (Nat → Int32) × (Nat → Int32) × (Nat → Int32) × (Nat → Int32)) (fun u => True) (fun u => some (.int 0)) (fun u => (mo, .inr (8, [.ref mfi, .ref mbl, .ref mpb, .ref mru, .ref mle, .ref miv, .ref mst, .ref mpa, .ref mhe, .ref maf, .ref mno, .ref msk, .int (nI nr), .int (nI il), .int (nI ((pc_msto il If y (pc_sf Bf f0) (-1)).1)), .int (nI ex), .int ((pc_msto il If y (pc_sf Bf f0) (-1)).2.2.2), .int (go_b (true)), .int (go_b (fu))])) :: (mst, .inl (G.2.1, 2400, .inl ((pc_msto il If y (pc_sf Bf f0) (-1)).2.1))) :: (mpa, .inl (G.2.1, 400, .inl ((pc_msto il If y (pc_sf Bf f0) (-1)).2.2.1))) :: (mhe, .inl (G.2.1, 6, .inl u.1)) :: (maf, .inl (G.2.1, 6, .inl u.2.1)) :: (mno, .inl (G.2.1, 6, .inl u.2.2.1)) :: (msk, .inl (G.2.1, 9, .inl u.2.2.2)) :: rs)) (K : go_Go X (0, 0) ((mo, .inr (8, [.ref mfi, .ref mbl, .ref mpb, .ref mru, .ref mle, .ref miv, .ref mst, .ref mpa, .ref mhe, .ref maf, .ref mno, .ref msk, .int (nI nr), .int (nI il), .int (nI (y.1)), .int (nI ex), .int y.2.2.2, .int (go_b (true)), .int (go_b (fu))])) :: (mst, .inl (G.2.1, 2400, .inl y.2.1)) :: (mpa, .inl (G.2.1, 400, .inl y.2.2.1)) :: (mhe, .inl (G.2.1, 6, .inl h0)) :: (maf, .inl (G.2.1, 6, .inl (pc_cp 6 f0 a0))) :: (mno, .inl (G.2.1, 6, .inl n0)) :: (msk, .inl (G.2.1, 9, .inl s0)) :: rs) [(0, .ref mo)] [] 85) : ∀ (n : Nat) (v : Nat) (hin : 6 < v + n) (hv : v ≤ 6), go_Go X (0, 0) ((mo, .inr (8, [.ref mfi, .ref mbl, .ref mpb, .ref mru, .ref mle, .ref miv, .ref mst, .ref mpa, .ref mhe, .ref maf, .ref mno, .ref msk, .int (nI nr), .int (nI il), .int (nI (y.1)), .int (nI ex), .int y.2.2.2, .int (go_b (true)), .int (go_b (fu))])) :: (mst, .inl (G.2.1, 2400, .inl y.2.1)) :: (mpa, .inl (G.2.1, 400, .inl y.2.2.1)) :: (mhe, .inl (G.2.1, 6, .inl h0)) :: (maf, .inl (G.2.1, 6, .inl (pc_cp v f0 a0))) :: (mno, .inl (G.2.1, 6, .inl n0)) :: (msk, .inl (G.2.1, 9, .inl s0)) :: rs) [(0, .ref mo), (1, .int (nI v))] [] 61 := by
  intro n
  induction n with
  | zero => intro v hin hv; omega
  | succ n ih =>
    intro v hin hv
    refine go_iload_n C dX9_seal_61 1 rfl rfl ?_
    refine go_bipush C (6) dX9_seal_62 (by decide) ?_
    refine go_icmp_geN (a := v) (b := 6) C 85 dX9_seal_64 (by decide) (by omega) (by omega) (fun c_64 => ?_) (fun c_64 => ?_)
    · refine go_lv [(0, .ref mo)] [0] rfl ?_
      refine go_we ((mo, .inr (8, [.ref mfi, .ref mbl, .ref mpb, .ref mru, .ref mle, .ref miv, .ref mst, .ref mpa, .ref mhe, .ref maf, .ref mno, .ref msk, .int (nI nr), .int (nI il), .int (nI (y.1)), .int (nI ex), .int y.2.2.2, .int (go_b (true)), .int (go_b (fu))])) :: (mst, .inl (G.2.1, 2400, .inl y.2.1)) :: (mpa, .inl (G.2.1, 400, .inl y.2.2.1)) :: (mhe, .inl (G.2.1, 6, .inl h0)) :: (maf, .inl (G.2.1, 6, .inl (pc_cp 6 f0 a0))) :: (mno, .inl (G.2.1, 6, .inl n0)) :: (msk, .inl (G.2.1, 9, .inl s0)) :: rs) (by rw [show v = 6 by omega]) ?_
      exact K
    · refine go_aload_n C dX9_seal_67 0 rfl rfl ?_
      refine go_get C (v := .ref maf) fl_X9_37 dX9_seal_68 0 rfl rfl ?_
      refine go_iload_n C dX9_seal_71 1 rfl rfl ?_
      refine go_aload_n C dX9_seal_72 0 rfl rfl ?_
      refine go_get C (v := .ref mfi) fl_X9_7 dX9_seal_73 0 rfl rfl ?_
      refine go_iload_n C dX9_seal_76 1 rfl rfl ?_
      refine go_iald C dX9_seal_77 (p0 + 7) hp0 (v) rfl (by omega) (by decide) ?_
      refine go_iast C dX9_seal_78 4 rfl (v) rfl (by omega) (by decide) ((mo, .inr (8, [.ref mfi, .ref mbl, .ref mpb, .ref mru, .ref mle, .ref miv, .ref mst, .ref mpa, .ref mhe, .ref maf, .ref mno, .ref msk, .int (nI nr), .int (nI il), .int (nI (y.1)), .int (nI ex), .int y.2.2.2, .int (go_b (true)), .int (go_b (fu))])) :: (mst, .inl (G.2.1, 2400, .inl y.2.1)) :: (mpa, .inl (G.2.1, 400, .inl y.2.2.1)) :: (mhe, .inl (G.2.1, 6, .inl h0)) :: (maf, .inl (G.2.1, 6, .inl (upd (pc_cp v f0 a0) v (f0 v)))) :: (mno, .inl (G.2.1, 6, .inl n0)) :: (msk, .inl (G.2.1, 9, .inl s0)) :: rs) rfl ?_
      refine go_we ((mo, .inr (8, [.ref mfi, .ref mbl, .ref mpb, .ref mru, .ref mle, .ref miv, .ref mst, .ref mpa, .ref mhe, .ref maf, .ref mno, .ref msk, .int (nI nr), .int (nI il), .int (nI (y.1)), .int (nI ex), .int y.2.2.2, .int (go_b (true)), .int (go_b (fu))])) :: (mst, .inl (G.2.1, 2400, .inl y.2.1)) :: (mpa, .inl (G.2.1, 400, .inl y.2.2.1)) :: (mhe, .inl (G.2.1, 6, .inl h0)) :: (maf, .inl (G.2.1, 6, .inl (pc_cp (v + 1) f0 a0))) :: (mno, .inl (G.2.1, 6, .inl n0)) :: (msk, .inl (G.2.1, 9, .inl s0)) :: rs) (by rw [pc_cp_s]) ?_
      refine go_iinc C (nI (v + 1)) [(0, .ref mo), (1, .int (nI (v + 1)))] dX9_seal_79 1 [1, 0] rfl (nI_add v 1) (by decide) rfl ?_
      refine go_goto C 61 dX9_seal_82 (by decide) ?_
      exact ih (v + 1) (by omega) (by omega)
set_option maxHeartbeats 4000000 in
set_option maxRecDepth 100000 in
theorem l_X9_seal_12 {X : go_X} (G : go_G) (rs : va_W) (p0 : Nat) (p1 : Nat) (p2 : Nat) (p3 : Nat) (p4 : Nat) (mo : Nat) (mfi : Nat) (mbl : Nat) (mpb : Nat) (mru : Nat) (mle : Nat) (miv : Nat) (mst : Nat) (mpa : Nat) (mhe : Nat) (maf : Nat) (mno : Nat) (msk : Nat) (nr : Nat) (il : Nat) (ex : Nat) (sl : Bool) (fu : Bool) (y : pc_Y) (Rf : Nat → Int32) (ln : Nat → Nat) (If : Nat → Int32) (Bf : Nat → Int32) (f0 : Nat → Int32) (h0 : Nat → Int32) (a0 : Nat → Int32) (n0 : Nat → Int32) (s0 : Nat → Int32) (hp0 : rs[p0]? = some (mfi, .inl (G.2.1, 6, .inl f0))) (hp1 : rs[p1]? = some (mru, .inl (G.2.1, 384, .inl Rf))) (hp2 : rs[p2]? = some (mle, .inl (G.2.1, 12, .inl (pc_lf ln)))) (hp3 : rs[p3]? = some (miv, .inl (G.2.1, 32, .inl If))) (hp4 : rs[p4]? = some (mbl, .inl (G.2.1, 6, .inl Bf))) (hnr : nr ≤ 12) (hln : ∀ r, r < 12 → ln r ≤ 32) (hil : il ≤ 32) (hok : pc_mok If il 0 0) (hmh : ∀ b, pc_mho il If b = pc_ho il If b) (hsl : sl = false) (hA : pc_sR nr ln Rf (nr + 1) 0 = true) (hI : pc_mI il If (il + 1) 0 0 = true) (hBa : pc_nba nr ln Rf Bf il If 7 0 = true) (hc4 : y.1 < 400)   (C : go_Cx X cX9_seal RX9 (some .int) 2 5 119 0 0 G) (E : go_Ee X (S := (Nat → Int32) × (Nat → Int32) × (Nat → Int32) × (Nat → Int32)) (fun u => True) (fun u => some (.int 0)) (fun u => (mo, .inr (8, [.ref mfi, .ref mbl, .ref mpb, .ref mru, .ref mle, .ref miv, .ref mst, .ref mpa, .ref mhe, .ref maf, .ref mno, .ref msk, .int (nI nr), .int (nI il), .int (nI ((pc_msto il If y (pc_sf Bf f0) (-1)).1)), .int (nI ex), .int ((pc_msto il If y (pc_sf Bf f0) (-1)).2.2.2), .int (go_b (true)), .int (go_b (fu))])) :: (mst, .inl (G.2.1, 2400, .inl ((pc_msto il If y (pc_sf Bf f0) (-1)).2.1))) :: (mpa, .inl (G.2.1, 400, .inl ((pc_msto il If y (pc_sf Bf f0) (-1)).2.2.1))) :: (mhe, .inl (G.2.1, 6, .inl u.1)) :: (maf, .inl (G.2.1, 6, .inl u.2.1)) :: (mno, .inl (G.2.1, 6, .inl u.2.2.1)) :: (msk, .inl (G.2.1, 9, .inl u.2.2.2)) :: rs)) (K : go_Go X (0, 0) ((mo, .inr (8, [.ref mfi, .ref mbl, .ref mpb, .ref mru, .ref mle, .ref miv, .ref mst, .ref mpa, .ref mhe, .ref maf, .ref mno, .ref msk, .int (nI nr), .int (nI il), .int (nI (y.1)), .int (nI ex), .int y.2.2.2, .int (go_b (sl)), .int (go_b (fu))])) :: (mst, .inl (G.2.1, 2400, .inl y.2.1)) :: (mpa, .inl (G.2.1, 400, .inl y.2.2.1)) :: (mhe, .inl (G.2.1, 6, .inl h0)) :: (maf, .inl (G.2.1, 6, .inl a0)) :: (mno, .inl (G.2.1, 6, .inl n0)) :: (msk, .inl (G.2.1, 9, .inl s0)) :: rs) [(0, .ref mo)] [] 36) : ∀ (n : Nat) (r : Nat) (hin : nr < r + n) (hi : r ≤ nr) (hB : pc_sR nr ln Rf n r = true), go_Go X (0, 0) ((mo, .inr (8, [.ref mfi, .ref mbl, .ref mpb, .ref mru, .ref mle, .ref miv, .ref mst, .ref mpa, .ref mhe, .ref maf, .ref mno, .ref msk, .int (nI nr), .int (nI il), .int (nI (y.1)), .int (nI ex), .int y.2.2.2, .int (go_b (sl)), .int (go_b (fu))])) :: (mst, .inl (G.2.1, 2400, .inl y.2.1)) :: (mpa, .inl (G.2.1, 400, .inl y.2.2.1)) :: (mhe, .inl (G.2.1, 6, .inl h0)) :: (maf, .inl (G.2.1, 6, .inl a0)) :: (mno, .inl (G.2.1, 6, .inl n0)) :: (msk, .inl (G.2.1, 9, .inl s0)) :: rs) [(0, .ref mo), (1, .int (nI r))] [] 12 := by
  intro n
  induction n with
  | zero => intro r hin hi hB; omega
  | succ n ih =>
    intro r hin hi hB
    refine go_iload_n C dX9_seal_12 1 rfl rfl ?_
    refine go_aload_n C dX9_seal_13 0 rfl rfl ?_
    refine go_get C (v := .int (nI nr)) fl_X9_50 dX9_seal_14 0 rfl rfl ?_
    refine go_icmp_geN (a := r) (b := nr) C 36 dX9_seal_17 (by decide) (by omega) (by omega) (fun c_17 => ?_) (fun c_17 => ?_)
    · refine go_lv [(0, .ref mo)] [0] rfl ?_
      exact K
    · refine go_aload_n C dX9_seal_20 0 rfl rfl ?_
      refine go_iload_n C dX9_seal_21 1 rfl rfl ?_
      refine go_cV C (c_X9_ruleIsRight G ((mo, .inr (8, [.ref mfi, .ref mbl, .ref mpb, .ref mru, .ref mle, .ref miv, .ref mst, .ref mpa, .ref mhe, .ref maf, .ref mno, .ref msk, .int (nI nr), .int (nI il), .int (nI (y.1)), .int (nI ex), .int y.2.2.2, .int (go_b (sl)), .int (go_b (fu))])) :: (mst, .inl (G.2.1, 2400, .inl y.2.1)) :: (mpa, .inl (G.2.1, 400, .inl y.2.2.1)) :: (mhe, .inl (G.2.1, 6, .inl h0)) :: (maf, .inl (G.2.1, 6, .inl a0)) :: (mno, .inl (G.2.1, 6, .inl n0)) :: (msk, .inl (G.2.1, 9, .inl s0)) :: rs) 0 (p1 + 7) (p2 + 7) mo mfi mbl mpb mru mle miv mst mpa mhe maf mno msk nr il y.1 ex y.2.2.2 sl fu Rf ln r rfl hp1 hp2 (by omega) hln) ml_X9_131 mc_X9_ruleIsRight dX9_seal_22 [] rfl rfl 0 rfl rfl rfl ⟨Nat.le_of_ble_eq_true rfl, Nat.le_of_ble_eq_true rfl, Nat.zero_le _, Nat.zero_le _, Nat.le_of_ble_eq_true rfl⟩ [.int (go_b (pc_mR (ln r) (pc_rr Rf r) (ln r + 1) 0 0 0))] rfl ?_
      refine go_if_neB C 30 dX9_seal_25 (by decide) (fun c_25 => ?_) (fun c_25 => ?_)
      · refine go_iinc C (nI (r + 1)) [(0, .ref mo), (1, .int (nI (r + 1)))] dX9_seal_30 1 [1, 0] rfl (nI_add r 1) (by decide) rfl ?_
        refine go_goto C 12 dX9_seal_33 (by decide) ?_
        exact ih (r + 1) (by omega) (by omega) (by rw [← hB]; simp [pc_sR, c_17, c_25])
      · simp [pc_sR, c_17, c_25] at hB
set_option maxHeartbeats 4000000 in
set_option maxRecDepth 100000 in
theorem c_X9_seal (G : go_G) (rs : va_W) (p0 : Nat) (p1 : Nat) (p2 : Nat) (p3 : Nat) (p4 : Nat) (mo : Nat) (mfi : Nat) (mbl : Nat) (mpb : Nat) (mru : Nat) (mle : Nat) (miv : Nat) (mst : Nat) (mpa : Nat) (mhe : Nat) (maf : Nat) (mno : Nat) (msk : Nat) (nr : Nat) (il : Nat) (ex : Nat) (sl : Bool) (fu : Bool) (y : pc_Y) (Rf : Nat → Int32) (ln : Nat → Nat) (If : Nat → Int32) (Bf : Nat → Int32) (f0 : Nat → Int32) (h0 : Nat → Int32) (a0 : Nat → Int32) (n0 : Nat → Int32) (s0 : Nat → Int32) (hp0 : rs[p0]? = some (mfi, .inl (G.2.1, 6, .inl f0))) (hp1 : rs[p1]? = some (mru, .inl (G.2.1, 384, .inl Rf))) (hp2 : rs[p2]? = some (mle, .inl (G.2.1, 12, .inl (pc_lf ln)))) (hp3 : rs[p3]? = some (miv, .inl (G.2.1, 32, .inl If))) (hp4 : rs[p4]? = some (mbl, .inl (G.2.1, 6, .inl Bf))) (hnr : nr ≤ 12) (hln : ∀ r, r < 12 → ln r ≤ 32) (hil : il ≤ 32) (hok : pc_mok If il 0 0) (hmh : ∀ b, pc_mho il If b = pc_ho il If b) (hsl : sl = false) (hA : pc_sR nr ln Rf (nr + 1) 0 = true) (hI : pc_mI il If (il + 1) 0 0 = true) (hBa : pc_nba nr ln Rf Bf il If 7 0 = true) (hc4 : y.1 < 400) : go_Fe yX9_seal cX9_seal 2 (some .int) 5 119 G [.ref mo] ((mo, .inr (8, [.ref mfi, .ref mbl, .ref mpb, .ref mru, .ref mle, .ref miv, .ref mst, .ref mpa, .ref mhe, .ref maf, .ref mno, .ref msk, .int (nI nr), .int (nI il), .int (nI (y.1)), .int (nI ex), .int y.2.2.2, .int (go_b (sl)), .int (go_b (fu))])) :: (mst, .inl (G.2.1, 2400, .inl y.2.1)) :: (mpa, .inl (G.2.1, 400, .inl y.2.2.1)) :: (mhe, .inl (G.2.1, 6, .inl h0)) :: (maf, .inl (G.2.1, 6, .inl a0)) :: (mno, .inl (G.2.1, 6, .inl n0)) :: (msk, .inl (G.2.1, 9, .inl s0)) :: rs) (S := (Nat → Int32) × (Nat → Int32) × (Nat → Int32) × (Nat → Int32)) (fun u => True) (fun u => some (.int 0)) (fun u => (mo, .inr (8, [.ref mfi, .ref mbl, .ref mpb, .ref mru, .ref mle, .ref miv, .ref mst, .ref mpa, .ref mhe, .ref maf, .ref mno, .ref msk, .int (nI nr), .int (nI il), .int (nI ((pc_msto il If y (pc_sf Bf f0) (-1)).1)), .int (nI ex), .int ((pc_msto il If y (pc_sf Bf f0) (-1)).2.2.2), .int (go_b (true)), .int (go_b (fu))])) :: (mst, .inl (G.2.1, 2400, .inl ((pc_msto il If y (pc_sf Bf f0) (-1)).2.1))) :: (mpa, .inl (G.2.1, 400, .inl ((pc_msto il If y (pc_sf Bf f0) (-1)).2.2.1))) :: (mhe, .inl (G.2.1, 6, .inl u.1)) :: (maf, .inl (G.2.1, 6, .inl u.2.1)) :: (mno, .inl (G.2.1, 6, .inl u.2.2.1)) :: (msk, .inl (G.2.1, 9, .inl u.2.2.2)) :: rs) := by
  refine go_Fe_of (by decide) (Nat.le_of_ble_eq_true rfl) (fun X C E => ?_)
  show go_Go X (0, 0) ((mo, .inr (8, [.ref mfi, .ref mbl, .ref mpb, .ref mru, .ref mle, .ref miv, .ref mst, .ref mpa, .ref mhe, .ref maf, .ref mno, .ref msk, .int (nI nr), .int (nI il), .int (nI (y.1)), .int (nI ex), .int y.2.2.2, .int (go_b (sl)), .int (go_b (fu))])) :: (mst, .inl (G.2.1, 2400, .inl y.2.1)) :: (mpa, .inl (G.2.1, 400, .inl y.2.2.1)) :: (mhe, .inl (G.2.1, 6, .inl h0)) :: (maf, .inl (G.2.1, 6, .inl a0)) :: (mno, .inl (G.2.1, 6, .inl n0)) :: (msk, .inl (G.2.1, 9, .inl s0)) :: rs) [(0, .ref mo)] [] 0
  refine go_aload_n C dX9_seal_0 0 rfl rfl ?_
  refine go_get C (v := .int (go_b (sl))) fl_X9_62 dX9_seal_1 0 rfl rfl ?_
  refine go_if_eqB C 10 dX9_seal_4 (by decide) (fun c_4 => ?_) (fun c_4 => ?_)
  · refine go_iconst C (0) dX9_seal_10 (by decide) ?_
    refine go_istore_n C [(0, .ref mo), (1, .int 0)] dX9_seal_11 [1, 0] rfl (by decide) rfl ?_
    refine l_X9_seal_12 G rs p0 p1 p2 p3 p4 mo mfi mbl mpb mru mle miv mst mpa mhe maf mno msk nr il ex sl fu y Rf ln If Bf f0 h0 a0 n0 s0 hp0 hp1 hp2 hp3 hp4 hnr hln hil hok hmh hsl hA hI hBa hc4  C E ?_ (nr + 1) 0 (by omega) (by omega) hA
    show go_Go X (0, 0) ((mo, .inr (8, [.ref mfi, .ref mbl, .ref mpb, .ref mru, .ref mle, .ref miv, .ref mst, .ref mpa, .ref mhe, .ref maf, .ref mno, .ref msk, .int (nI nr), .int (nI il), .int (nI (y.1)), .int (nI ex), .int y.2.2.2, .int (go_b (sl)), .int (go_b (fu))])) :: (mst, .inl (G.2.1, 2400, .inl y.2.1)) :: (mpa, .inl (G.2.1, 400, .inl y.2.2.1)) :: (mhe, .inl (G.2.1, 6, .inl h0)) :: (maf, .inl (G.2.1, 6, .inl a0)) :: (mno, .inl (G.2.1, 6, .inl n0)) :: (msk, .inl (G.2.1, 9, .inl s0)) :: rs) [(0, .ref mo)] [] 36
    refine go_aload_n C dX9_seal_36 0 rfl rfl ?_
    refine go_cV C (c_X9_invariantIsRight G ((mo, .inr (8, [.ref mfi, .ref mbl, .ref mpb, .ref mru, .ref mle, .ref miv, .ref mst, .ref mpa, .ref mhe, .ref maf, .ref mno, .ref msk, .int (nI nr), .int (nI il), .int (nI (y.1)), .int (nI ex), .int y.2.2.2, .int (go_b (sl)), .int (go_b (fu))])) :: (mst, .inl (G.2.1, 2400, .inl y.2.1)) :: (mpa, .inl (G.2.1, 400, .inl y.2.2.1)) :: (mhe, .inl (G.2.1, 6, .inl h0)) :: (maf, .inl (G.2.1, 6, .inl a0)) :: (mno, .inl (G.2.1, 6, .inl n0)) :: (msk, .inl (G.2.1, 9, .inl s0)) :: rs) 0 (p3 + 7) mo mfi mbl mpb mru mle miv mst mpa mhe maf mno msk nr il y.1 ex y.2.2.2 sl fu If rfl hp3 (by omega)) ml_X9_134 mc_X9_invariantIsRight dX9_seal_37 [] rfl rfl 0 rfl rfl rfl ⟨Nat.le_of_ble_eq_true rfl, Nat.le_of_ble_eq_true rfl, Nat.zero_le _, Nat.zero_le _, Nat.le_of_ble_eq_true rfl⟩ [.int (go_b (pc_mI il If (il + 1) 0 0))] rfl ?_
    refine go_if_neB C 45 dX9_seal_40 (by decide) (fun c_40 => ?_) (fun c_40 => ?_)
    · refine go_aload_n C dX9_seal_45 0 rfl rfl ?_
      refine go_cV C (c_X9_blocksAreRight G ((mo, .inr (8, [.ref mfi, .ref mbl, .ref mpb, .ref mru, .ref mle, .ref miv, .ref mst, .ref mpa, .ref mhe, .ref maf, .ref mno, .ref msk, .int (nI nr), .int (nI il), .int (nI (y.1)), .int (nI ex), .int y.2.2.2, .int (go_b (sl)), .int (go_b (fu))])) :: (mst, .inl (G.2.1, 2400, .inl y.2.1)) :: (mpa, .inl (G.2.1, 400, .inl y.2.2.1)) :: (mhe, .inl (G.2.1, 6, .inl h0)) :: (maf, .inl (G.2.1, 6, .inl a0)) :: (mno, .inl (G.2.1, 6, .inl n0)) :: (msk, .inl (G.2.1, 9, .inl s0)) :: rs) 0 (p1 + 7) (p2 + 7) (p3 + 7) (p4 + 7) mo mfi mbl mpb mru mle miv mst mpa mhe maf mno msk nr il y.1 ex y.2.2.2 sl fu Rf ln If Bf rfl hp1 hp2 hp3 hp4 (by omega) (by omega) hln) ml_X9_137 mc_X9_blocksAreRight dX9_seal_46 [] rfl rfl 0 rfl rfl rfl ⟨Nat.le_of_ble_eq_true rfl, Nat.le_of_ble_eq_true rfl, Nat.zero_le _, Nat.zero_le _, Nat.le_of_ble_eq_true rfl⟩ [.int (go_b (pc_nba nr ln Rf Bf il If 7 0))] rfl ?_
      refine go_if_neB C 54 dX9_seal_49 (by decide) (fun c_49 => ?_) (fun c_49 => ?_)
      · refine go_aload_n C dX9_seal_54 0 rfl rfl ?_
        refine go_iconst C (1) dX9_seal_55 (by decide) ?_
        refine go_se [.int (go_b (true)), .ref mo] rfl ?_
        refine go_put C fp_X9_62 dX9_seal_56 0 rfl (go_bn _) (go_bf _) (Nat.le_of_ble_eq_true rfl) ((mo, .inr (8, [.ref mfi, .ref mbl, .ref mpb, .ref mru, .ref mle, .ref miv, .ref mst, .ref mpa, .ref mhe, .ref maf, .ref mno, .ref msk, .int (nI nr), .int (nI il), .int (nI (y.1)), .int (nI ex), .int y.2.2.2, .int (go_b (true)), .int (go_b (fu))])) :: (mst, .inl (G.2.1, 2400, .inl y.2.1)) :: (mpa, .inl (G.2.1, 400, .inl y.2.2.1)) :: (mhe, .inl (G.2.1, 6, .inl h0)) :: (maf, .inl (G.2.1, 6, .inl a0)) :: (mno, .inl (G.2.1, 6, .inl n0)) :: (msk, .inl (G.2.1, 9, .inl s0)) :: rs) rfl ?_
        refine go_iconst C (0) dX9_seal_59 (by decide) ?_
        refine go_we ((mo, .inr (8, [.ref mfi, .ref mbl, .ref mpb, .ref mru, .ref mle, .ref miv, .ref mst, .ref mpa, .ref mhe, .ref maf, .ref mno, .ref msk, .int (nI nr), .int (nI il), .int (nI (y.1)), .int (nI ex), .int y.2.2.2, .int (go_b (true)), .int (go_b (fu))])) :: (mst, .inl (G.2.1, 2400, .inl y.2.1)) :: (mpa, .inl (G.2.1, 400, .inl y.2.2.1)) :: (mhe, .inl (G.2.1, 6, .inl h0)) :: (maf, .inl (G.2.1, 6, .inl (pc_cp 0 f0 a0))) :: (mno, .inl (G.2.1, 6, .inl n0)) :: (msk, .inl (G.2.1, 9, .inl s0)) :: rs) (by rw [pc_cp_0]) ?_
        refine go_istore_n C [(0, .ref mo), (1, .int 0)] dX9_seal_60 [1, 0] rfl (by decide) rfl ?_
        refine l_X9_seal_61 G rs p0 p1 p2 p3 p4 mo mfi mbl mpb mru mle miv mst mpa mhe maf mno msk nr il ex sl fu y Rf ln If Bf f0 h0 a0 n0 s0 hp0 hp1 hp2 hp3 hp4 hnr hln hil hok hmh hsl hA hI hBa hc4  C E ?_ 7 0 (by omega) (by omega)
        show go_Go X (0, 0) ((mo, .inr (8, [.ref mfi, .ref mbl, .ref mpb, .ref mru, .ref mle, .ref miv, .ref mst, .ref mpa, .ref mhe, .ref maf, .ref mno, .ref msk, .int (nI nr), .int (nI il), .int (nI (y.1)), .int (nI ex), .int y.2.2.2, .int (go_b (true)), .int (go_b (fu))])) :: (mst, .inl (G.2.1, 2400, .inl y.2.1)) :: (mpa, .inl (G.2.1, 400, .inl y.2.2.1)) :: (mhe, .inl (G.2.1, 6, .inl h0)) :: (maf, .inl (G.2.1, 6, .inl (pc_cp 6 f0 a0))) :: (mno, .inl (G.2.1, 6, .inl n0)) :: (msk, .inl (G.2.1, 9, .inl s0)) :: rs) [(0, .ref mo)] [] 85
        refine go_cont 4 rfl f0 (fun j hj => by simp [pc_cp, hj]) ((mo, .inr (8, [.ref mfi, .ref mbl, .ref mpb, .ref mru, .ref mle, .ref miv, .ref mst, .ref mpa, .ref mhe, .ref maf, .ref mno, .ref msk, .int (nI nr), .int (nI il), .int (nI (y.1)), .int (nI ex), .int y.2.2.2, .int (go_b (true)), .int (go_b (fu))])) :: (mst, .inl (G.2.1, 2400, .inl y.2.1)) :: (mpa, .inl (G.2.1, 400, .inl y.2.2.1)) :: (mhe, .inl (G.2.1, 6, .inl h0)) :: (maf, .inl (G.2.1, 6, .inl f0)) :: (mno, .inl (G.2.1, 6, .inl n0)) :: (msk, .inl (G.2.1, 9, .inl s0)) :: rs) rfl ?_
        refine go_aload_n C dX9_seal_85 0 rfl rfl ?_
        refine go_iconst C ((-1)) dX9_seal_86 (by decide) ?_
        refine go_perm [(mo, .inr (8, [.ref mfi, .ref mbl, .ref mpb, .ref mru, .ref mle, .ref miv, .ref mst, .ref mpa, .ref mhe, .ref maf, .ref mno, .ref msk, .int (nI nr), .int (nI il), .int (nI (y.1)), .int (nI ex), .int y.2.2.2, .int (go_b (true)), .int (go_b (fu))])), (mst, .inl (G.2.1, 2400, .inl y.2.1)), (mpa, .inl (G.2.1, 400, .inl y.2.2.1)), (mhe, .inl (G.2.1, 6, .inl h0)), (maf, .inl (G.2.1, 6, .inl f0)), (mno, .inl (G.2.1, 6, .inl n0)), (msk, .inl (G.2.1, 9, .inl s0))] [(mo, .inr (8, [.ref mfi, .ref mbl, .ref mpb, .ref mru, .ref mle, .ref miv, .ref mst, .ref mpa, .ref mhe, .ref maf, .ref mno, .ref msk, .int (nI nr), .int (nI il), .int (nI (y.1)), .int (nI ex), .int y.2.2.2, .int (go_b (true)), .int (go_b (fu))])), (mst, .inl (G.2.1, 2400, .inl y.2.1)), (mpa, .inl (G.2.1, 400, .inl y.2.2.1)), (mhe, .inl (G.2.1, 6, .inl h0)), (mno, .inl (G.2.1, 6, .inl n0)), (msk, .inl (G.2.1, 9, .inl s0)), (maf, .inl (G.2.1, 6, .inl f0))] rs [0, 1, 2, 3, 5, 6, 4] rfl rfl rfl ?_
        refine go_cVe C (c_X9_store G ((maf, .inl (G.2.1, 6, .inl f0)) :: rs) (p4 + 1) 0 (p3 + 1) mo mfi mbl mpb mru mle miv mst mpa mhe maf mno msk nr il ex true fu y If Bf f0 h0 n0 s0 (-1) hp4 rfl hp3 hc4 (by omega) hok hmh) ml_X9_140 mc_X9_store dX9_seal_87 [] rfl (fun _ => rfl) 0 rfl rfl rfl ⟨Nat.le_of_ble_eq_true rfl, Nat.le_of_ble_eq_true rfl, Nat.zero_le _, Nat.zero_le _, Nat.le_of_ble_eq_true rfl⟩ (fun u hu_1 => ?_)
        obtain ⟨st2_1, rfl⟩ : ∃ z, z = u := ⟨_, rfl⟩
        show go_Go X (0, 0) ((mo, .inr (8, [.ref mfi, .ref mbl, .ref mpb, .ref mru, .ref mle, .ref miv, .ref mst, .ref mpa, .ref mhe, .ref maf, .ref mno, .ref msk, .int (nI nr), .int (nI il), .int (nI ((pc_msto il If y (pc_sf Bf f0) (-1)).1)), .int (nI ex), .int ((pc_msto il If y (pc_sf Bf f0) (-1)).2.2.2), .int (go_b (true)), .int (go_b (fu))])) :: (mst, .inl (G.2.1, 2400, .inl ((pc_msto il If y (pc_sf Bf f0) (-1)).2.1))) :: (mpa, .inl (G.2.1, 400, .inl ((pc_msto il If y (pc_sf Bf f0) (-1)).2.2.1))) :: (mhe, .inl (G.2.1, 6, .inl (pc_sf Bf f0))) :: (mno, .inl (G.2.1, 6, .inl (pc_sf Bf f0))) :: (msk, .inl (G.2.1, 9, .inl st2_1)) :: (maf, .inl (G.2.1, 6, .inl f0)) :: rs) [(0, .ref mo)] [] 90
        refine go_iconst C (0) dX9_seal_90 (by decide) ?_
        refine go_perm [(mo, .inr (8, [.ref mfi, .ref mbl, .ref mpb, .ref mru, .ref mle, .ref miv, .ref mst, .ref mpa, .ref mhe, .ref maf, .ref mno, .ref msk, .int (nI nr), .int (nI il), .int (nI ((pc_msto il If y (pc_sf Bf f0) (-1)).1)), .int (nI ex), .int ((pc_msto il If y (pc_sf Bf f0) (-1)).2.2.2), .int (go_b (true)), .int (go_b (fu))])), (mst, .inl (G.2.1, 2400, .inl ((pc_msto il If y (pc_sf Bf f0) (-1)).2.1))), (mpa, .inl (G.2.1, 400, .inl ((pc_msto il If y (pc_sf Bf f0) (-1)).2.2.1))), (mhe, .inl (G.2.1, 6, .inl (pc_sf Bf f0))), (mno, .inl (G.2.1, 6, .inl (pc_sf Bf f0))), (msk, .inl (G.2.1, 9, .inl st2_1)), (maf, .inl (G.2.1, 6, .inl f0))] [(mo, .inr (8, [.ref mfi, .ref mbl, .ref mpb, .ref mru, .ref mle, .ref miv, .ref mst, .ref mpa, .ref mhe, .ref maf, .ref mno, .ref msk, .int (nI nr), .int (nI il), .int (nI ((pc_msto il If y (pc_sf Bf f0) (-1)).1)), .int (nI ex), .int ((pc_msto il If y (pc_sf Bf f0) (-1)).2.2.2), .int (go_b (true)), .int (go_b (fu))])), (mst, .inl (G.2.1, 2400, .inl ((pc_msto il If y (pc_sf Bf f0) (-1)).2.1))), (mpa, .inl (G.2.1, 400, .inl ((pc_msto il If y (pc_sf Bf f0) (-1)).2.2.1))), (mhe, .inl (G.2.1, 6, .inl (pc_sf Bf f0))), (maf, .inl (G.2.1, 6, .inl f0)), (mno, .inl (G.2.1, 6, .inl (pc_sf Bf f0))), (msk, .inl (G.2.1, 9, .inl st2_1))] rs [0, 1, 2, 3, 6, 4, 5] rfl rfl rfl ?_
        exact go_iretE C E dX9_seal_91 (pc_sf Bf f0, f0, pc_sf Bf f0, st2_1) trivial rfl rfl
      · exact absurd (c_49.symm.trans hBa) (by decide)
    · exact absurd (c_40.symm.trans hI) (by decide)
  · exact absurd (c_4.symm.trans hsl) (by decide)
set_option maxHeartbeats 4000000 in
set_option maxRecDepth 100000 in
theorem l_X9_traceLen_9 {X : go_X} (G : go_G) (rs : va_W) (p0 : Nat) (p1 : Nat) (mo : Nat) (mfi : Nat) (mbl : Nat) (mpb : Nat) (mru : Nat) (mle : Nat) (miv : Nat) (mst : Nat) (mpa : Nat) (mhe : Nat) (maf : Nat) (mno : Nat) (msk : Nat) (nr : Nat) (il : Nat) (ct : Nat) (ex : Nat) (br : Int32) (sl : Bool) (fu : Bool) (Pf : Nat → Int32) (hp0 : rs[p0]? = some (mo, .inr (8, [.ref mfi, .ref mbl, .ref mpb, .ref mru, .ref mle, .ref miv, .ref mst, .ref mpa, .ref mhe, .ref maf, .ref mno, .ref msk, .int (nI nr), .int (nI il), .int (nI ct), .int (nI ex), .int br, .int (go_b (sl)), .int (go_b (fu))]))) (hp1 : rs[p1]? = some (mpa, .inl (G.2.1, 400, .inl Pf))) (hc : ct ≤ 400) (hP : pc_pok ct Pf) (hb : pc_bok ct br) {Rr : Option Value}  (C : go_Cx X cX9_traceLen RX9 (some .int) 4 0 0 0 0 G) (E : go_Ex X Rr rs)  : ∀ (n : Nat) (k : Nat) (i : Int32) (hin : 400 < k + n) (hk : k ≤ 400) (hb2 : pc_bok ct i) (hR : some (.int (pc_d1 (pc_tl Pf n k i))) = Rr), go_Go X (0, 0) rs [(0, .ref mo), (1, .int (pc_d1 k)), (2, .int i), (3, .int (nI k))] [] 9 := by
  intro n
  induction n with
  | zero => intro k i hin hk hb2 hR; omega
  | succ n ih =>
    intro k i hin hk hb2 hR
    refine go_iload_n C dX9_traceLen_9 3 rfl rfl ?_
    refine go_sipush C (400) dX9_traceLen_10 (by decide) ?_
    refine go_icmp_geN (a := k) (b := 400) C 36 dX9_traceLen_13 (by decide) (by omega) (by omega) (fun c_13 => ?_) (fun c_13 => ?_)
    · refine go_iload_n C dX9_traceLen_36 1 rfl rfl ?_
      exact go_iret C E dX9_traceLen_37 (by rw [← hR]; first | (simp [pc_tl, c_13, c_17]; done) | (simp [pc_tl, c_13]; done)) rfl
    · refine go_iload_n C dX9_traceLen_16 2 rfl rfl ?_
      refine go_if_lt C 36 dX9_traceLen_17 (by decide) (fun c_17 => ?_) (fun c_17 => ?_)
      · refine go_iload_n C dX9_traceLen_36 1 rfl rfl ?_
        exact go_iret C E dX9_traceLen_37 (by rw [← hR]; first | (simp [pc_tl, c_13, c_17]; done) | (simp [pc_tl, c_13]; done)) rfl
      · obtain ⟨hs1, hs2⟩ := pc_bok_ge hc hb2 c_17
        refine go_iinc C (pc_d1 (k + 1)) [(0, .ref mo), (1, .int (pc_d1 (k + 1))), (2, .int i), (3, .int (nI k))] dX9_traceLen_20 1 [1, 0, 2, 3] rfl (pc_d1_p k) (by decide) rfl ?_
        refine go_aload_n C dX9_traceLen_23 0 rfl rfl ?_
        refine go_get C (v := .ref mpa) fl_X9_31 dX9_traceLen_24 p0 hp0 rfl ?_
        refine go_iload_n C dX9_traceLen_27 2 rfl rfl ?_
        refine go_iald C dX9_traceLen_28 p1 hp1 (i.toNatClampNeg) hs1 (by omega) (by decide) ?_
        refine go_istore_n C [(0, .ref mo), (1, .int (pc_d1 (k + 1))), (2, .int (Pf i.toNatClampNeg)), (3, .int (nI k))] dX9_traceLen_29 [1, 2, 0, 3] rfl (by decide) rfl ?_
        refine go_iinc C (nI (k + 1)) [(0, .ref mo), (1, .int (pc_d1 (k + 1))), (2, .int (Pf i.toNatClampNeg)), (3, .int (nI (k + 1)))] dX9_traceLen_30 3 [1, 2, 3, 0] rfl (nI_add k 1) (by decide) rfl ?_
        refine go_goto C 9 dX9_traceLen_33 (by decide) ?_
        exact ih (k + 1) (Pf i.toNatClampNeg) (by omega) (by omega) (pc_pok_b hP hs2) (by rw [← hR]; simp [pc_tl, c_13, c_17])
set_option maxHeartbeats 4000000 in
set_option maxRecDepth 100000 in
theorem c_X9_traceLen (G : go_G) (rs : va_W) (p0 : Nat) (p1 : Nat) (mo : Nat) (mfi : Nat) (mbl : Nat) (mpb : Nat) (mru : Nat) (mle : Nat) (miv : Nat) (mst : Nat) (mpa : Nat) (mhe : Nat) (maf : Nat) (mno : Nat) (msk : Nat) (nr : Nat) (il : Nat) (ct : Nat) (ex : Nat) (br : Int32) (sl : Bool) (fu : Bool) (Pf : Nat → Int32) (hp0 : rs[p0]? = some (mo, .inr (8, [.ref mfi, .ref mbl, .ref mpb, .ref mru, .ref mle, .ref miv, .ref mst, .ref mpa, .ref mhe, .ref maf, .ref mno, .ref msk, .int (nI nr), .int (nI il), .int (nI ct), .int (nI ex), .int br, .int (go_b (sl)), .int (go_b (fu))]))) (hp1 : rs[p1]? = some (mpa, .inl (G.2.1, 400, .inl Pf))) (hc : ct ≤ 400) (hP : pc_pok ct Pf) (hb : pc_bok ct br) : go_Fn yX9_traceLen cX9_traceLen 4 (some .int) 0 0 G [.ref mo] rs (some (.int (pc_d1 (pc_tl Pf 401 0 br)))) rs := by
  refine go_Fn_of (by decide) (Nat.le_of_ble_eq_true rfl) (fun X C E => ?_)
  show go_Go X (0, 0) rs [(0, .ref mo)] [] 0
  refine go_iconst C ((-1)) dX9_traceLen_0 (by decide) ?_
  refine go_istore_n C [(0, .ref mo), (1, .int (-1))] dX9_traceLen_1 [1, 0] rfl (by decide) rfl ?_
  refine go_aload_n C dX9_traceLen_2 0 rfl rfl ?_
  refine go_get C (v := .int br) fl_X9_46 dX9_traceLen_3 p0 hp0 rfl ?_
  refine go_istore_n C [(0, .ref mo), (1, .int (-1)), (2, .int br)] dX9_traceLen_6 [1, 2, 0] rfl (by decide) rfl ?_
  refine go_iconst C (0) dX9_traceLen_7 (by decide) ?_
  refine go_istore_n C [(0, .ref mo), (1, .int (-1)), (2, .int br), (3, .int 0)] dX9_traceLen_8 [1, 2, 3, 0] rfl (by decide) rfl ?_
  refine go_le [(0, .ref mo), (1, .int (pc_d1 0)), (2, .int br), (3, .int (nI 0))] (by rw [show pc_d1 0 = -1 by decide]; rfl) ?_
  exact l_X9_traceLen_9 G rs p0 p1 mo mfi mbl mpb mru mle miv mst mpa mhe maf mno msk nr il ct ex br sl fu Pf hp0 hp1 hc hP hb  C E 401 0 br (by omega) (by omega) hb rfl
set_option maxHeartbeats 4000000 in
set_option maxRecDepth 100000 in
theorem l_X9_onWay_10 {X : go_X} (G : go_G) (rs : va_W) (p0 : Nat) (p1 : Nat) (mo : Nat) (mfi : Nat) (mbl : Nat) (mpb : Nat) (mru : Nat) (mle : Nat) (miv : Nat) (mst : Nat) (mpa : Nat) (mhe : Nat) (maf : Nat) (mno : Nat) (msk : Nat) (nr : Nat) (il : Nat) (ct : Nat) (ex : Nat) (br : Int32) (sl : Bool) (fu : Bool) (Pf : Nat → Int32) (tl : Nat) (i : Nat) (hp0 : rs[p0]? = some (mo, .inr (8, [.ref mfi, .ref mbl, .ref mpb, .ref mru, .ref mle, .ref miv, .ref mst, .ref mpa, .ref mhe, .ref maf, .ref mno, .ref msk, .int (nI nr), .int (nI il), .int (nI ct), .int (nI ex), .int br, .int (go_b (sl)), .int (go_b (fu))]))) (hp1 : rs[p1]? = some (mpa, .inl (G.2.1, 400, .inl Pf))) (hc : ct ≤ 400) (hP : pc_pok ct Pf) (hb : pc_bok ct br) (ht : pc_tl Pf 401 0 br = tl + 1) (hv : pc_vc Pf ct tl br) (htl : tl < 400) (hi : i ≤ tl) {Rr : Option Value}  (C : go_Cx X cX9_onWay RX9 (some .int) 4 1 23 0 0 G) (E : go_Ex X Rr rs)  : ∀ (n : Nat) (k : Nat) (s : Int32) (hin : k < i + n) (hk : i ≤ k) (hk2 : k ≤ tl) (hv2 : pc_vc Pf ct k s) (hR : some (.int (pc_it Pf (k - i) s)) = Rr), go_Go X (0, 0) rs [(0, .ref mo), (1, .int (nI i)), (2, .int s), (3, .int (nI k))] [] 10 := by
  intro n
  induction n with
  | zero => intro k s hin hk hk2 hv2 hR; omega
  | succ n ih =>
    intro k s hin hk hk2 hv2 hR
    refine go_iload_n C dX9_onWay_10 3 rfl rfl ?_
    refine go_iload_n C dX9_onWay_11 1 rfl rfl ?_
    refine go_icmp_leN (a := k) (b := i) C 28 dX9_onWay_12 (by decide) (by omega) (by omega) (fun c_12 => ?_) (fun c_12 => ?_)
    · refine go_iload_n C dX9_onWay_28 2 rfl rfl ?_
      exact go_iret C E dX9_onWay_29 (by rw [← hR, show k - i = 0 by omega]; rfl) rfl
    · obtain ⟨hs1, hs2⟩ := pc_vc_at hc hv2
      refine go_aload_n C dX9_onWay_15 0 rfl rfl ?_
      refine go_get C (v := .ref mpa) fl_X9_31 dX9_onWay_16 p0 hp0 rfl ?_
      refine go_iload_n C dX9_onWay_19 2 rfl rfl ?_
      refine go_iald C dX9_onWay_20 p1 hp1 (s.toNatClampNeg) hs1 (by omega) (by decide) ?_
      refine go_istore_n C [(0, .ref mo), (1, .int (nI i)), (2, .int (Pf s.toNatClampNeg)), (3, .int (nI k))] dX9_onWay_21 [1, 2, 0, 3] rfl (by decide) rfl ?_
      refine go_iinc C (nI (k - 1)) [(0, .ref mo), (1, .int (nI i)), (2, .int (Pf s.toNatClampNeg)), (3, .int (nI (k - 1)))] dX9_onWay_22 3 [1, 2, 3, 0] rfl (pc_dec (by omega)) (by decide) rfl ?_
      refine go_goto C 10 dX9_onWay_25 (by decide) ?_
      exact ih (k - 1) (Pf s.toNatClampNeg) (by omega) (by omega) (by omega) (pc_vc_s (k := k - 1) hc (by rwa [show k - 1 + 1 = k by omega])) (by rw [← hR, show k - i = (k - 1 - i) + 1 by omega]; rfl)
set_option maxHeartbeats 4000000 in
set_option maxRecDepth 100000 in
theorem c_X9_onWay (G : go_G) (rs : va_W) (p0 : Nat) (p1 : Nat) (mo : Nat) (mfi : Nat) (mbl : Nat) (mpb : Nat) (mru : Nat) (mle : Nat) (miv : Nat) (mst : Nat) (mpa : Nat) (mhe : Nat) (maf : Nat) (mno : Nat) (msk : Nat) (nr : Nat) (il : Nat) (ct : Nat) (ex : Nat) (br : Int32) (sl : Bool) (fu : Bool) (Pf : Nat → Int32) (tl : Nat) (i : Nat) (hp0 : rs[p0]? = some (mo, .inr (8, [.ref mfi, .ref mbl, .ref mpb, .ref mru, .ref mle, .ref miv, .ref mst, .ref mpa, .ref mhe, .ref maf, .ref mno, .ref msk, .int (nI nr), .int (nI il), .int (nI ct), .int (nI ex), .int br, .int (go_b (sl)), .int (go_b (fu))]))) (hp1 : rs[p1]? = some (mpa, .inl (G.2.1, 400, .inl Pf))) (hc : ct ≤ 400) (hP : pc_pok ct Pf) (hb : pc_bok ct br) (ht : pc_tl Pf 401 0 br = tl + 1) (hv : pc_vc Pf ct tl br) (htl : tl < 400) (hi : i ≤ tl) : go_Fn yX9_onWay cX9_onWay 4 (some .int) 1 23 G [.ref mo, .int (nI i)] rs (some (.int (pc_it Pf (tl - i) br))) rs := by
  refine go_Fn_of (by decide) (Nat.le_of_ble_eq_true rfl) (fun X C E => ?_)
  show go_Go X (0, 0) rs [(0, .ref mo), (1, .int (nI i))] [] 0
  refine go_aload_n C dX9_onWay_0 0 rfl rfl ?_
  refine go_get C (v := .int br) fl_X9_46 dX9_onWay_1 p0 hp0 rfl ?_
  refine go_istore_n C [(0, .ref mo), (1, .int (nI i)), (2, .int br)] dX9_onWay_4 [1, 2, 0] rfl (by decide) rfl ?_
  refine go_aload_n C dX9_onWay_5 0 rfl rfl ?_
  refine go_cV C (c_X9_traceLen G rs p0 p1 mo mfi mbl mpb mru mle miv mst mpa mhe maf mno msk nr il ct ex br sl fu Pf hp0 hp1 (by omega) hP hb) ml_X9_153 mc_X9_traceLen dX9_onWay_6 [] rfl rfl p0 hp0 rfl rfl ⟨Nat.le_of_ble_eq_true rfl, Nat.le_of_ble_eq_true rfl, Nat.zero_le _, Nat.zero_le _, Nat.le_of_ble_eq_true rfl⟩ [.int (nI tl)] (by rw [ht, pc_d1_s]; rfl) ?_
  refine go_istore_n C [(0, .ref mo), (1, .int (nI i)), (2, .int br), (3, .int (nI tl))] dX9_onWay_9 [1, 2, 3, 0] rfl (by decide) rfl ?_
  exact l_X9_onWay_10 G rs p0 p1 mo mfi mbl mpb mru mle miv mst mpa mhe maf mno msk nr il ct ex br sl fu Pf tl i hp0 hp1 hc hP hb ht hv htl hi  C E (tl + 1) tl br (by omega) (by omega) (by omega) hv rfl
set_option maxHeartbeats 4000000 in
set_option maxRecDepth 100000 in
theorem l_X9_fired_10 {X : go_X} (G : go_G) (rs : va_W) (p0 : Nat) (p1 : Nat) (p2 : Nat) (p3 : Nat) (p4 : Nat) (p5 : Nat) (p6 : Nat) (mo : Nat) (mfi : Nat) (mbl : Nat) (mpb : Nat) (mru : Nat) (mle : Nat) (miv : Nat) (mst : Nat) (mpa : Nat) (mhe : Nat) (maf : Nat) (mno : Nat) (msk : Nat) (nr : Nat) (il : Nat) (ct : Nat) (ex : Nat) (br : Int32) (sl : Bool) (fu : Bool) (Pf : Nat → Int32) (Vf : Nat → Int32) (Rf : Nat → Int32) (ln : Nat → Nat) (Bf : Nat → Int32) (b : Nat → Int32) (a0 : Nat → Int32) (n0 : Nat → Int32) (s0 : Nat → Int32) (tl : Nat) (i : Nat) (q : Nat) (hp0 : rs[p0]? = some (mo, .inr (8, [.ref mfi, .ref mbl, .ref mpb, .ref mru, .ref mle, .ref miv, .ref mst, .ref mpa, .ref mhe, .ref maf, .ref mno, .ref msk, .int (nI nr), .int (nI il), .int (nI ct), .int (nI ex), .int br, .int (go_b (sl)), .int (go_b (fu))]))) (hp1 : rs[p1]? = some (mpa, .inl (G.2.1, 400, .inl Pf))) (hp2 : rs[p2]? = some (mru, .inl (G.2.1, 384, .inl Rf))) (hp3 : rs[p3]? = some (mle, .inl (G.2.1, 12, .inl (pc_lf ln)))) (hp4 : rs[p4]? = some (mbl, .inl (G.2.1, 6, .inl Bf))) (hp5 : rs[p5]? = some (mhe, .inl (G.2.1, 6, .inl b))) (hp6 : rs[p6]? = some (mst, .inl (G.2.1, 2400, .inl Vf))) (hc : ct ≤ 400) (hP : pc_pok ct Pf) (hb : pc_bok ct br) (ht : pc_tl Pf 401 0 br = tl + 1) (hv : pc_vc Pf ct tl br) (htl : tl < 400) (hnr : nr ≤ 12) (hln : ∀ r, r < 12 → ln r ≤ 32) (hRK : ∀ r, r < nr → pc_RK (ln r) (pc_rr Rf r)) (hi : i < tl) (hq : q < nr) (hfd : pc_mfn nr ln (pc_rr Rf) Bf Vf b (pc_it Pf (tl - (i + 1)) br).toNatClampNeg (nr + 1) 0 = some q)   (C : go_Cx X cX9_fired RX9 (some .int) 4 3 70 0 0 G) (E : go_Ee X (S := (Nat → Int32) × (Nat → Int32)) (fun u => True) (fun u => some (.int (nI q))) (fun u => (maf, .inl (G.2.1, 6, .inl (pc_af (ln q) (pc_rr Rf q) b))) :: (mno, .inl (G.2.1, 6, .inl u.1)) :: (msk, .inl (G.2.1, 9, .inl u.2)) :: rs))  : ∀ (n : Nat) (r : Nat) (a1 : Nat → Int32) (n1 : Nat → Int32) (s1 : Nat → Int32) (hin : nr < r + n) (hr : r ≤ nr) (hF : pc_mfn nr ln (pc_rr Rf) Bf Vf b (pc_it Pf (tl - (i + 1)) br).toNatClampNeg n r = some q), go_Go X (0, 0) ((maf, .inl (G.2.1, 6, .inl a1)) :: (mno, .inl (G.2.1, 6, .inl n1)) :: (msk, .inl (G.2.1, 9, .inl s1)) :: rs) [(0, .ref mo), (1, .int (nI i)), (2, .int (pc_it Pf (tl - (i + 1)) br)), (3, .int (nI r))] [] 10 := by
  intro n
  induction n with
  | zero => intro r a1 n1 s1 hin hr hF; omega
  | succ n ih =>
    intro r a1 n1 s1 hin hr hF
    obtain ⟨hs1, hs2⟩ := pc_vc_at hc (pc_vc_it hc (tl - (i + 1)) hv (by omega))
    refine go_iload_n C dX9_fired_10 3 rfl rfl ?_
    refine go_aload_n C dX9_fired_11 0 rfl rfl ?_
    refine go_get C (v := .int (nI nr)) fl_X9_50 dX9_fired_12 (p0 + 3) hp0 rfl ?_
    refine go_icmp_geN (a := r) (b := nr) C 46 dX9_fired_15 (by decide) (by omega) (by omega) (fun c_15 => ?_) (fun c_15 => ?_)
    · simp [pc_mfn, c_15] at hF
    · refine go_aload_n C dX9_fired_18 0 rfl rfl ?_
      refine go_iload_n C dX9_fired_19 3 rfl rfl ?_
      refine go_perm [(maf, .inl (G.2.1, 6, .inl a1)), (mno, .inl (G.2.1, 6, .inl n1)), (msk, .inl (G.2.1, 9, .inl s1))] [(maf, .inl (G.2.1, 6, .inl a1)), (msk, .inl (G.2.1, 9, .inl s1)), (mno, .inl (G.2.1, 6, .inl n1))] rs [0, 2, 1] rfl rfl rfl ?_
      refine go_cVe C (c_X9_fires G ((mno, .inl (G.2.1, 6, .inl n1)) :: rs) (p0 + 1) (p2 + 1) (p3 + 1) (p5 + 1) mo mfi mbl mpb mru mle miv mst mpa mhe maf mno msk nr il ct ex br sl fu Rf ln s1 b a1 r hp0 hp2 hp3 hp5 (by omega) hln (hRK r c_15)) ml_X9_144 mc_X9_fires dX9_fired_20 [] rfl (fun _ => rfl) (p0 + 3) hp0 rfl rfl ⟨Nat.le_of_ble_eq_true rfl, Nat.le_of_ble_eq_true rfl, Nat.zero_le _, Nat.zero_le _, Nat.le_of_ble_eq_true rfl⟩ (fun u hu_1 => ?_)
      obtain ⟨st2_1, rfl⟩ : ∃ z, z = u := ⟨_, rfl⟩
      show go_Go X (0, 0) ((maf, .inl (G.2.1, 6, .inl (pc_fA (ln r) (pc_rr Rf r) b a1))) :: (msk, .inl (G.2.1, 9, .inl st2_1)) :: (mno, .inl (G.2.1, 6, .inl n1)) :: rs) [(0, .ref mo), (1, .int (nI i)), (2, .int (pc_it Pf (tl - (i + 1)) br)), (3, .int (nI r))] [.int (go_b (pc_mf (ln r) (pc_rr Rf r) b))] 23
      refine go_if_eqB C 40 dX9_fired_23 (by decide) (fun c_23 => ?_) (fun c_23 => ?_)
      · refine go_iinc C (nI (r + 1)) [(0, .ref mo), (1, .int (nI i)), (2, .int (pc_it Pf (tl - (i + 1)) br)), (3, .int (nI (r + 1)))] dX9_fired_40 3 [1, 2, 3, 0] rfl (nI_add r 1) (by decide) rfl ?_
        refine go_goto C 10 dX9_fired_43 (by decide) ?_
        refine go_perm [(maf, .inl (G.2.1, 6, .inl (pc_fA (ln r) (pc_rr Rf r) b a1))), (msk, .inl (G.2.1, 9, .inl st2_1)), (mno, .inl (G.2.1, 6, .inl n1))] [(maf, .inl (G.2.1, 6, .inl (pc_fA (ln r) (pc_rr Rf r) b a1))), (mno, .inl (G.2.1, 6, .inl n1)), (msk, .inl (G.2.1, 9, .inl st2_1))] rs [0, 2, 1] rfl rfl rfl ?_
        exact ih (r + 1) (pc_fA (ln r) (pc_rr Rf r) b a1) n1 st2_1 (by omega) (by omega) (by rw [← hF]; first | (simp [pc_mfn, c_15, c_23, c_35]; done) | (simp [pc_mfn, c_15, c_23]; done))
      · refine go_we ((maf, .inl (G.2.1, 6, .inl (pc_af (ln r) (pc_rr Rf r) b))) :: (msk, .inl (G.2.1, 9, .inl st2_1)) :: (mno, .inl (G.2.1, 6, .inl n1)) :: rs) (by simp only [pc_fA, if_pos c_23]) ?_
        refine go_aload_n C dX9_fired_26 0 rfl rfl ?_
        refine go_perm [(maf, .inl (G.2.1, 6, .inl (pc_af (ln r) (pc_rr Rf r) b))), (msk, .inl (G.2.1, 9, .inl st2_1)), (mno, .inl (G.2.1, 6, .inl n1))] [(mno, .inl (G.2.1, 6, .inl n1)), (maf, .inl (G.2.1, 6, .inl (pc_af (ln r) (pc_rr Rf r) b))), (msk, .inl (G.2.1, 9, .inl st2_1))] rs [2, 0, 1] rfl rfl rfl ?_
        refine go_cV C (c_X9_standardise G ((maf, .inl (G.2.1, 6, .inl (pc_af (ln r) (pc_rr Rf r) b))) :: (msk, .inl (G.2.1, 9, .inl st2_1)) :: rs) (p0 + 2) (p4 + 2) 0 mo mfi mbl mpb mru mle miv mst mpa mhe maf mno msk nr il ct ex br sl fu Bf (pc_af (ln r) (pc_rr Rf r) b) n1 hp0 hp4 rfl ) ml_X9_121 mc_X9_standardise dX9_fired_27 [] rfl rfl (p0 + 3) hp0 rfl rfl ⟨Nat.le_of_ble_eq_true rfl, Nat.le_of_ble_eq_true rfl, Nat.zero_le _, Nat.zero_le _, Nat.le_of_ble_eq_true rfl⟩ [] rfl ?_
        refine go_aload_n C dX9_fired_30 0 rfl rfl ?_
        refine go_iload_n C dX9_fired_31 2 rfl rfl ?_
        refine go_se [.int (nI ((pc_it Pf (tl - (i + 1)) br).toNatClampNeg)), .ref mo] (by rw [← hs1]) ?_
        refine go_cV C (c_X9_isNormal G ((mno, .inl (G.2.1, 6, .inl (pc_sf Bf (pc_af (ln r) (pc_rr Rf r) b)))) :: (maf, .inl (G.2.1, 6, .inl (pc_af (ln r) (pc_rr Rf r) b))) :: (msk, .inl (G.2.1, 9, .inl st2_1)) :: rs) (p0 + 3) (p6 + 3) 0 mo mfi mbl mpb mru mle miv mst mpa mhe maf mno msk nr il ct ex br sl fu Vf (pc_sf Bf (pc_af (ln r) (pc_rr Rf r) b)) ((pc_it Pf (tl - (i + 1)) br).toNatClampNeg) hp0 hp6 rfl (by omega)) ml_X9_124 mc_X9_isNormal dX9_fired_32 [] rfl rfl (p0 + 3) hp0 rfl rfl ⟨Nat.le_of_ble_eq_true rfl, Nat.le_of_ble_eq_true rfl, Nat.zero_le _, Nat.zero_le _, Nat.le_of_ble_eq_true rfl⟩ [.int (go_b (pc_e6 Vf ((pc_it Pf (tl - (i + 1)) br).toNatClampNeg) (pc_sf Bf (pc_af (ln r) (pc_rr Rf r) b)) 7 0))] rfl ?_
        refine go_if_eqB C 40 dX9_fired_35 (by decide) (fun c_35 => ?_) (fun c_35 => ?_)
        · refine go_iinc C (nI (r + 1)) [(0, .ref mo), (1, .int (nI i)), (2, .int (pc_it Pf (tl - (i + 1)) br)), (3, .int (nI (r + 1)))] dX9_fired_40 3 [1, 2, 3, 0] rfl (nI_add r 1) (by decide) rfl ?_
          refine go_goto C 10 dX9_fired_43 (by decide) ?_
          refine go_perm [(mno, .inl (G.2.1, 6, .inl (pc_sf Bf (pc_af (ln r) (pc_rr Rf r) b)))), (maf, .inl (G.2.1, 6, .inl (pc_af (ln r) (pc_rr Rf r) b))), (msk, .inl (G.2.1, 9, .inl st2_1))] [(maf, .inl (G.2.1, 6, .inl (pc_af (ln r) (pc_rr Rf r) b))), (mno, .inl (G.2.1, 6, .inl (pc_sf Bf (pc_af (ln r) (pc_rr Rf r) b)))), (msk, .inl (G.2.1, 9, .inl st2_1))] rs [1, 0, 2] rfl rfl rfl ?_
          exact ih (r + 1) (pc_af (ln r) (pc_rr Rf r) b) (pc_sf Bf (pc_af (ln r) (pc_rr Rf r) b)) st2_1 (by omega) (by omega) (by rw [← hF]; first | (simp [pc_mfn, c_15, c_23, c_35]; done) | (simp [pc_mfn, c_15, c_23]; done))
        · have hrq : r = q := by simpa [pc_mfn, c_15, c_23, c_35] using hF
          refine go_iload_n C dX9_fired_38 3 rfl rfl ?_
          refine go_perm [(mno, .inl (G.2.1, 6, .inl (pc_sf Bf (pc_af (ln r) (pc_rr Rf r) b)))), (maf, .inl (G.2.1, 6, .inl (pc_af (ln r) (pc_rr Rf r) b))), (msk, .inl (G.2.1, 9, .inl st2_1))] [(maf, .inl (G.2.1, 6, .inl (pc_af (ln r) (pc_rr Rf r) b))), (mno, .inl (G.2.1, 6, .inl (pc_sf Bf (pc_af (ln r) (pc_rr Rf r) b)))), (msk, .inl (G.2.1, 9, .inl st2_1))] rs [1, 0, 2] rfl rfl rfl ?_
          exact go_iretE C E dX9_fired_39 (pc_sf Bf (pc_af (ln r) (pc_rr Rf r) b), st2_1) trivial (by rw [hrq]) (by rw [hrq]; rfl)
set_option maxHeartbeats 4000000 in
set_option maxRecDepth 100000 in
theorem c_X9_fired (G : go_G) (rs : va_W) (p0 : Nat) (p1 : Nat) (p2 : Nat) (p3 : Nat) (p4 : Nat) (p5 : Nat) (p6 : Nat) (mo : Nat) (mfi : Nat) (mbl : Nat) (mpb : Nat) (mru : Nat) (mle : Nat) (miv : Nat) (mst : Nat) (mpa : Nat) (mhe : Nat) (maf : Nat) (mno : Nat) (msk : Nat) (nr : Nat) (il : Nat) (ct : Nat) (ex : Nat) (br : Int32) (sl : Bool) (fu : Bool) (Pf : Nat → Int32) (Vf : Nat → Int32) (Rf : Nat → Int32) (ln : Nat → Nat) (Bf : Nat → Int32) (b : Nat → Int32) (a0 : Nat → Int32) (n0 : Nat → Int32) (s0 : Nat → Int32) (tl : Nat) (i : Nat) (q : Nat) (hp0 : rs[p0]? = some (mo, .inr (8, [.ref mfi, .ref mbl, .ref mpb, .ref mru, .ref mle, .ref miv, .ref mst, .ref mpa, .ref mhe, .ref maf, .ref mno, .ref msk, .int (nI nr), .int (nI il), .int (nI ct), .int (nI ex), .int br, .int (go_b (sl)), .int (go_b (fu))]))) (hp1 : rs[p1]? = some (mpa, .inl (G.2.1, 400, .inl Pf))) (hp2 : rs[p2]? = some (mru, .inl (G.2.1, 384, .inl Rf))) (hp3 : rs[p3]? = some (mle, .inl (G.2.1, 12, .inl (pc_lf ln)))) (hp4 : rs[p4]? = some (mbl, .inl (G.2.1, 6, .inl Bf))) (hp5 : rs[p5]? = some (mhe, .inl (G.2.1, 6, .inl b))) (hp6 : rs[p6]? = some (mst, .inl (G.2.1, 2400, .inl Vf))) (hc : ct ≤ 400) (hP : pc_pok ct Pf) (hb : pc_bok ct br) (ht : pc_tl Pf 401 0 br = tl + 1) (hv : pc_vc Pf ct tl br) (htl : tl < 400) (hnr : nr ≤ 12) (hln : ∀ r, r < 12 → ln r ≤ 32) (hRK : ∀ r, r < nr → pc_RK (ln r) (pc_rr Rf r)) (hi : i < tl) (hq : q < nr) (hfd : pc_mfn nr ln (pc_rr Rf) Bf Vf b (pc_it Pf (tl - (i + 1)) br).toNatClampNeg (nr + 1) 0 = some q) : go_Fe yX9_fired cX9_fired 4 (some .int) 3 70 G [.ref mo, .int (nI i)] ((maf, .inl (G.2.1, 6, .inl a0)) :: (mno, .inl (G.2.1, 6, .inl n0)) :: (msk, .inl (G.2.1, 9, .inl s0)) :: rs) (S := (Nat → Int32) × (Nat → Int32)) (fun u => True) (fun u => some (.int (nI q))) (fun u => (maf, .inl (G.2.1, 6, .inl (pc_af (ln q) (pc_rr Rf q) b))) :: (mno, .inl (G.2.1, 6, .inl u.1)) :: (msk, .inl (G.2.1, 9, .inl u.2)) :: rs) := by
  refine go_Fe_of (by decide) (Nat.le_of_ble_eq_true rfl) (fun X C E => ?_)
  show go_Go X (0, 0) ((maf, .inl (G.2.1, 6, .inl a0)) :: (mno, .inl (G.2.1, 6, .inl n0)) :: (msk, .inl (G.2.1, 9, .inl s0)) :: rs) [(0, .ref mo), (1, .int (nI i))] [] 0
  obtain ⟨hs1, hs2⟩ := pc_vc_at hc (pc_vc_it hc (tl - (i + 1)) hv (by omega))
  refine go_aload_n C dX9_fired_0 0 rfl rfl ?_
  refine go_iload_n C dX9_fired_1 1 rfl rfl ?_
  refine go_iconst C (1) dX9_fired_2 (by decide) ?_
  refine go_iadd C (z := nI (i + 1)) dX9_fired_3 (nI_add i 1) ?_
  refine go_cV C (c_X9_onWay G ((maf, .inl (G.2.1, 6, .inl a0)) :: (mno, .inl (G.2.1, 6, .inl n0)) :: (msk, .inl (G.2.1, 9, .inl s0)) :: rs) (p0 + 3) (p1 + 3) mo mfi mbl mpb mru mle miv mst mpa mhe maf mno msk nr il ct ex br sl fu Pf tl (i + 1) hp0 hp1 (by omega) hP hb ht hv (by omega) (by omega)) ml_X9_157 mc_X9_onWay dX9_fired_4 [] rfl rfl (p0 + 3) hp0 rfl rfl ⟨Nat.le_of_ble_eq_true rfl, Nat.le_of_ble_eq_true rfl, Nat.zero_le _, Nat.zero_le _, Nat.le_of_ble_eq_true rfl⟩ [.int (pc_it Pf (tl - (i + 1)) br)] rfl ?_
  refine go_istore_n C [(0, .ref mo), (1, .int (nI i)), (2, .int (pc_it Pf (tl - (i + 1)) br))] dX9_fired_7 [1, 2, 0] rfl (by decide) rfl ?_
  refine go_iconst C (0) dX9_fired_8 (by decide) ?_
  refine go_istore_n C [(0, .ref mo), (1, .int (nI i)), (2, .int (pc_it Pf (tl - (i + 1)) br)), (3, .int 0)] dX9_fired_9 [1, 2, 3, 0] rfl (by decide) rfl ?_
  exact l_X9_fired_10 G rs p0 p1 p2 p3 p4 p5 p6 mo mfi mbl mpb mru mle miv mst mpa mhe maf mno msk nr il ct ex br sl fu Pf Vf Rf ln Bf b a0 n0 s0 tl i q hp0 hp1 hp2 hp3 hp4 hp5 hp6 hc hP hb ht hv htl hnr hln hRK hi hq hfd  C E (nr + 1) 0 a0 n0 s0 (by omega) (by omega) hfd
set_option maxHeartbeats 4000000 in
set_option maxRecDepth 100000 in
theorem l_X9_follow_42 {X : go_X} (G : go_G) (rs : va_W) (p0 : Nat) (p1 : Nat) (p2 : Nat) (p3 : Nat) (p4 : Nat) (p5 : Nat) (p6 : Nat) (mo : Nat) (mfi : Nat) (mbl : Nat) (mpb : Nat) (mru : Nat) (mle : Nat) (miv : Nat) (mst : Nat) (mpa : Nat) (mhe : Nat) (maf : Nat) (mno : Nat) (msk : Nat) (nr : Nat) (il : Nat) (ct : Nat) (ex : Nat) (br : Int32) (sl : Bool) (fu : Bool) (Pf : Nat → Int32) (Vf : Nat → Int32) (Rf : Nat → Int32) (ln : Nat → Nat) (Bf : Nat → Int32) (f0 : Nat → Int32) (h0 : Nat → Int32) (a0 : Nat → Int32) (n0 : Nat → Int32) (s0 : Nat → Int32) (tl : Nat) (i : Nat) (bs : Nat → Nat → Int32) (qs : Nat → Nat) (hp0 : rs[p0]? = some (mo, .inr (8, [.ref mfi, .ref mbl, .ref mpb, .ref mru, .ref mle, .ref miv, .ref mst, .ref mpa, .ref mhe, .ref maf, .ref mno, .ref msk, .int (nI nr), .int (nI il), .int (nI ct), .int (nI ex), .int br, .int (go_b (sl)), .int (go_b (fu))]))) (hp1 : rs[p1]? = some (mpa, .inl (G.2.1, 400, .inl Pf))) (hp2 : rs[p2]? = some (mru, .inl (G.2.1, 384, .inl Rf))) (hp3 : rs[p3]? = some (mle, .inl (G.2.1, 12, .inl (pc_lf ln)))) (hp4 : rs[p4]? = some (mbl, .inl (G.2.1, 6, .inl Bf))) (hp5 : rs[p5]? = some (mst, .inl (G.2.1, 2400, .inl Vf))) (hp6 : rs[p6]? = some (mfi, .inl (G.2.1, 6, .inl f0))) (hc : ct ≤ 400) (hP : pc_pok ct Pf) (hb : pc_bok ct br) (ht : pc_tl Pf 401 0 br = tl + 1) (hv : pc_vc Pf ct tl br) (htl : tl < 400) (hnr : nr ≤ 12) (hln : ∀ r, r < 12 → ln r ≤ 32) (hRK : ∀ r, r < nr → pc_RK (ln r) (pc_rr Rf r)) (hi : i ≤ tl) (h3 : pc_ok3 nr ln (pc_rr Rf) Bf Vf Pf f0 br tl bs qs)  (k : Nat) (n1 : Nat → Int32) (s1 : Nat → Int32) (C : go_Cx X cX9_follow RX9 none 5 4 93 0 0 G) (E : go_Ee X (S := (Nat → Int32) × (Nat → Int32) × (Nat → Int32)) (fun u => True) (fun u => none) (fun u => (mhe, .inl (G.2.1, 6, .inl (bs i))) :: (maf, .inl (G.2.1, 6, .inl u.1)) :: (mno, .inl (G.2.1, 6, .inl u.2.1)) :: (msk, .inl (G.2.1, 9, .inl u.2.2)) :: rs)) (K : go_Go X (0, 0) ((mhe, .inl (G.2.1, 6, .inl (pc_cp 6 (pc_af (ln (qs k)) (pc_rr Rf (qs k)) (bs k)) (bs k)))) :: (maf, .inl (G.2.1, 6, .inl (pc_af (ln (qs k)) (pc_rr Rf (qs k)) (bs k)))) :: (mno, .inl (G.2.1, 6, .inl n1)) :: (msk, .inl (G.2.1, 9, .inl s1)) :: rs) [(0, .ref mo), (1, .int (nI i)), (2, .int (nI k))] [] 69) : ∀ (n : Nat) (v : Nat) (hin : 6 < v + n) (hvv : v ≤ 6), go_Go X (0, 0) ((mhe, .inl (G.2.1, 6, .inl (pc_cp v (pc_af (ln (qs k)) (pc_rr Rf (qs k)) (bs k)) (bs k)))) :: (maf, .inl (G.2.1, 6, .inl (pc_af (ln (qs k)) (pc_rr Rf (qs k)) (bs k)))) :: (mno, .inl (G.2.1, 6, .inl n1)) :: (msk, .inl (G.2.1, 9, .inl s1)) :: rs) [(0, .ref mo), (1, .int (nI i)), (2, .int (nI k)), (4, .int (nI v))] [] 42 := by
  intro n
  induction n with
  | zero => intro v hin hvv; omega
  | succ n ih =>
    intro v hin hvv
    refine go_iload C dX9_follow_42 3 rfl ?_
    refine go_bipush C (6) dX9_follow_44 (by decide) ?_
    refine go_icmp_geN (a := v) (b := 6) C 69 dX9_follow_46 (by decide) (by omega) (by omega) (fun c_46 => ?_) (fun c_46 => ?_)
    · refine go_lv [(0, .ref mo), (1, .int (nI i)), (2, .int (nI k))] [0, 1, 2] rfl ?_
      refine go_we ((mhe, .inl (G.2.1, 6, .inl (pc_cp 6 (pc_af (ln (qs k)) (pc_rr Rf (qs k)) (bs k)) (bs k)))) :: (maf, .inl (G.2.1, 6, .inl (pc_af (ln (qs k)) (pc_rr Rf (qs k)) (bs k)))) :: (mno, .inl (G.2.1, 6, .inl n1)) :: (msk, .inl (G.2.1, 9, .inl s1)) :: rs) (by rw [show v = 6 by omega]) ?_
      exact K
    · refine go_aload_n C dX9_follow_49 0 rfl rfl ?_
      refine go_get C (v := .ref mhe) fl_X9_34 dX9_follow_50 (p0 + 4) hp0 rfl ?_
      refine go_iload C dX9_follow_53 3 rfl ?_
      refine go_aload_n C dX9_follow_55 0 rfl rfl ?_
      refine go_get C (v := .ref maf) fl_X9_37 dX9_follow_56 (p0 + 4) hp0 rfl ?_
      refine go_iload C dX9_follow_59 3 rfl ?_
      refine go_iald C dX9_follow_61 1 rfl (v) rfl (by omega) (by decide) ?_
      refine go_iast C dX9_follow_62 0 rfl (v) rfl (by omega) (by decide) ((mhe, .inl (G.2.1, 6, .inl (upd (pc_cp v (pc_af (ln (qs k)) (pc_rr Rf (qs k)) (bs k)) (bs k)) v ((pc_af (ln (qs k)) (pc_rr Rf (qs k)) (bs k)) v)))) :: (maf, .inl (G.2.1, 6, .inl (pc_af (ln (qs k)) (pc_rr Rf (qs k)) (bs k)))) :: (mno, .inl (G.2.1, 6, .inl n1)) :: (msk, .inl (G.2.1, 9, .inl s1)) :: rs) rfl ?_
      refine go_we ((mhe, .inl (G.2.1, 6, .inl (pc_cp (v + 1) (pc_af (ln (qs k)) (pc_rr Rf (qs k)) (bs k)) (bs k)))) :: (maf, .inl (G.2.1, 6, .inl (pc_af (ln (qs k)) (pc_rr Rf (qs k)) (bs k)))) :: (mno, .inl (G.2.1, 6, .inl n1)) :: (msk, .inl (G.2.1, 9, .inl s1)) :: rs) (by rw [pc_cp_s]) ?_
      refine go_iinc C (nI (v + 1)) [(0, .ref mo), (1, .int (nI i)), (2, .int (nI k)), (4, .int (nI (v + 1)))] dX9_follow_63 3 [1, 2, 3, 0] rfl (nI_add v 1) (by decide) rfl ?_
      refine go_goto C 42 dX9_follow_66 (by decide) ?_
      exact ih (v + 1) (by omega) (by omega)
set_option maxHeartbeats 4000000 in
set_option maxRecDepth 100000 in
theorem l_X9_follow_28 {X : go_X} (G : go_G) (rs : va_W) (p0 : Nat) (p1 : Nat) (p2 : Nat) (p3 : Nat) (p4 : Nat) (p5 : Nat) (p6 : Nat) (mo : Nat) (mfi : Nat) (mbl : Nat) (mpb : Nat) (mru : Nat) (mle : Nat) (miv : Nat) (mst : Nat) (mpa : Nat) (mhe : Nat) (maf : Nat) (mno : Nat) (msk : Nat) (nr : Nat) (il : Nat) (ct : Nat) (ex : Nat) (br : Int32) (sl : Bool) (fu : Bool) (Pf : Nat → Int32) (Vf : Nat → Int32) (Rf : Nat → Int32) (ln : Nat → Nat) (Bf : Nat → Int32) (f0 : Nat → Int32) (h0 : Nat → Int32) (a0 : Nat → Int32) (n0 : Nat → Int32) (s0 : Nat → Int32) (tl : Nat) (i : Nat) (bs : Nat → Nat → Int32) (qs : Nat → Nat) (hp0 : rs[p0]? = some (mo, .inr (8, [.ref mfi, .ref mbl, .ref mpb, .ref mru, .ref mle, .ref miv, .ref mst, .ref mpa, .ref mhe, .ref maf, .ref mno, .ref msk, .int (nI nr), .int (nI il), .int (nI ct), .int (nI ex), .int br, .int (go_b (sl)), .int (go_b (fu))]))) (hp1 : rs[p1]? = some (mpa, .inl (G.2.1, 400, .inl Pf))) (hp2 : rs[p2]? = some (mru, .inl (G.2.1, 384, .inl Rf))) (hp3 : rs[p3]? = some (mle, .inl (G.2.1, 12, .inl (pc_lf ln)))) (hp4 : rs[p4]? = some (mbl, .inl (G.2.1, 6, .inl Bf))) (hp5 : rs[p5]? = some (mst, .inl (G.2.1, 2400, .inl Vf))) (hp6 : rs[p6]? = some (mfi, .inl (G.2.1, 6, .inl f0))) (hc : ct ≤ 400) (hP : pc_pok ct Pf) (hb : pc_bok ct br) (ht : pc_tl Pf 401 0 br = tl + 1) (hv : pc_vc Pf ct tl br) (htl : tl < 400) (hnr : nr ≤ 12) (hln : ∀ r, r < 12 → ln r ≤ 32) (hRK : ∀ r, r < nr → pc_RK (ln r) (pc_rr Rf r)) (hi : i ≤ tl) (h3 : pc_ok3 nr ln (pc_rr Rf) Bf Vf Pf f0 br tl bs qs)   (C : go_Cx X cX9_follow RX9 none 5 4 93 0 0 G) (E : go_Ee X (S := (Nat → Int32) × (Nat → Int32) × (Nat → Int32)) (fun u => True) (fun u => none) (fun u => (mhe, .inl (G.2.1, 6, .inl (bs i))) :: (maf, .inl (G.2.1, 6, .inl u.1)) :: (mno, .inl (G.2.1, 6, .inl u.2.1)) :: (msk, .inl (G.2.1, 9, .inl u.2.2)) :: rs))  : ∀ (n : Nat) (k : Nat) (a1 : Nat → Int32) (n1 : Nat → Int32) (s1 : Nat → Int32) (hin : i < k + n) (hk : k ≤ i), go_Go X (0, 0) ((mhe, .inl (G.2.1, 6, .inl (bs k))) :: (maf, .inl (G.2.1, 6, .inl a1)) :: (mno, .inl (G.2.1, 6, .inl n1)) :: (msk, .inl (G.2.1, 9, .inl s1)) :: rs) [(0, .ref mo), (1, .int (nI i)), (2, .int (nI k))] [] 28 := by
  intro n
  induction n with
  | zero => intro k a1 n1 s1 hin hk; omega
  | succ n ih =>
    intro k a1 n1 s1 hin hk
    refine go_iload_n C dX9_follow_28 2 rfl rfl ?_
    refine go_iload_n C dX9_follow_29 1 rfl rfl ?_
    refine go_icmp_geN (a := k) (b := i) C 75 dX9_follow_30 (by decide) (by omega) (by omega) (fun c_30 => ?_) (fun c_30 => ?_)
    · exact go_vretE C E dX9_follow_75 (a1, n1, s1) trivial rfl (by rw [show i = k by omega])
    · refine go_aload_n C dX9_follow_33 0 rfl rfl ?_
      refine go_iload_n C dX9_follow_34 2 rfl rfl ?_
      refine go_perm [(mhe, .inl (G.2.1, 6, .inl (bs k))), (maf, .inl (G.2.1, 6, .inl a1)), (mno, .inl (G.2.1, 6, .inl n1)), (msk, .inl (G.2.1, 9, .inl s1))] [(maf, .inl (G.2.1, 6, .inl a1)), (mno, .inl (G.2.1, 6, .inl n1)), (msk, .inl (G.2.1, 9, .inl s1)), (mhe, .inl (G.2.1, 6, .inl (bs k)))] rs [1, 2, 3, 0] rfl rfl rfl ?_
      refine go_cVe C (c_X9_fired G ((mhe, .inl (G.2.1, 6, .inl (bs k))) :: rs) (p0 + 1) (p1 + 1) (p2 + 1) (p3 + 1) (p4 + 1) 0 (p5 + 1) mo mfi mbl mpb mru mle miv mst mpa mhe maf mno msk nr il ct ex br sl fu Pf Vf Rf ln Bf (bs k) a1 n1 s1 tl k (qs k) hp0 hp1 hp2 hp3 hp4 rfl hp5 (by omega) hP hb ht hv (by omega) (by omega) hln hRK (by omega) ((h3.2 k (by omega)).1) ((h3.2 k (by omega)).2.1)) ml_X9_160 mc_X9_fired dX9_follow_35 [] rfl (fun _ => rfl) (p0 + 4) hp0 rfl rfl ⟨Nat.le_of_ble_eq_true rfl, Nat.le_of_ble_eq_true rfl, Nat.zero_le _, Nat.zero_le _, Nat.le_of_ble_eq_true rfl⟩ (fun u hu_1 => ?_)
      obtain ⟨n2_1, s2_1⟩ := u
      show go_Go X (0, 0) ((maf, .inl (G.2.1, 6, .inl (pc_af (ln (qs k)) (pc_rr Rf (qs k)) (bs k)))) :: (mno, .inl (G.2.1, 6, .inl n2_1)) :: (msk, .inl (G.2.1, 9, .inl s2_1)) :: (mhe, .inl (G.2.1, 6, .inl (bs k))) :: rs) [(0, .ref mo), (1, .int (nI i)), (2, .int (nI k))] [.int (nI (qs k))] 38
      refine go_istore_n C [(0, .ref mo), (1, .int (nI i)), (2, .int (nI k)), (3, .int (nI (qs k)))] dX9_follow_38 [1, 2, 3, 0] rfl (by decide) rfl ?_
      refine go_iconst C (0) dX9_follow_39 (by decide) ?_
      refine go_we ((maf, .inl (G.2.1, 6, .inl (pc_af (ln (qs k)) (pc_rr Rf (qs k)) (bs k)))) :: (mno, .inl (G.2.1, 6, .inl n2_1)) :: (msk, .inl (G.2.1, 9, .inl s2_1)) :: (mhe, .inl (G.2.1, 6, .inl (pc_cp 0 (pc_af (ln (qs k)) (pc_rr Rf (qs k)) (bs k)) (bs k)))) :: rs) (by rw [pc_cp_0]) ?_
      refine go_istore C [(0, .ref mo), (1, .int (nI i)), (2, .int (nI k)), (3, .int (nI (qs k))), (4, .int 0)] dX9_follow_40 [1, 2, 3, 4, 0] (by decide) rfl ?_
      refine go_perm [(maf, .inl (G.2.1, 6, .inl (pc_af (ln (qs k)) (pc_rr Rf (qs k)) (bs k)))), (mno, .inl (G.2.1, 6, .inl n2_1)), (msk, .inl (G.2.1, 9, .inl s2_1)), (mhe, .inl (G.2.1, 6, .inl (pc_cp 0 (pc_af (ln (qs k)) (pc_rr Rf (qs k)) (bs k)) (bs k))))] [(mhe, .inl (G.2.1, 6, .inl (pc_cp 0 (pc_af (ln (qs k)) (pc_rr Rf (qs k)) (bs k)) (bs k)))), (maf, .inl (G.2.1, 6, .inl (pc_af (ln (qs k)) (pc_rr Rf (qs k)) (bs k)))), (mno, .inl (G.2.1, 6, .inl n2_1)), (msk, .inl (G.2.1, 9, .inl s2_1))] rs [3, 0, 1, 2] rfl rfl rfl ?_
      refine go_lv [(0, .ref mo), (1, .int (nI i)), (2, .int (nI k)), (4, .int 0)] [0, 1, 2, 4] rfl ?_
      refine l_X9_follow_42 G rs p0 p1 p2 p3 p4 p5 p6 mo mfi mbl mpb mru mle miv mst mpa mhe maf mno msk nr il ct ex br sl fu Pf Vf Rf ln Bf f0 h0 a0 n0 s0 tl i bs qs hp0 hp1 hp2 hp3 hp4 hp5 hp6 hc hP hb ht hv htl hnr hln hRK hi h3 k n2_1 s2_1 C E ?_ 7 0 (by omega) (by omega)
      show go_Go X (0, 0) ((mhe, .inl (G.2.1, 6, .inl (pc_cp 6 (pc_af (ln (qs k)) (pc_rr Rf (qs k)) (bs k)) (bs k)))) :: (maf, .inl (G.2.1, 6, .inl (pc_af (ln (qs k)) (pc_rr Rf (qs k)) (bs k)))) :: (mno, .inl (G.2.1, 6, .inl n2_1)) :: (msk, .inl (G.2.1, 9, .inl s2_1)) :: rs) [(0, .ref mo), (1, .int (nI i)), (2, .int (nI k))] [] 69
      refine go_cont 0 rfl (bs (k + 1)) (fun j hj => by simp only [pc_cp, if_pos hj]; rw [(h3.2 k (by omega)).2.2]) ((mhe, .inl (G.2.1, 6, .inl (bs (k + 1)))) :: (maf, .inl (G.2.1, 6, .inl (pc_af (ln (qs k)) (pc_rr Rf (qs k)) (bs k)))) :: (mno, .inl (G.2.1, 6, .inl n2_1)) :: (msk, .inl (G.2.1, 9, .inl s2_1)) :: rs) rfl ?_
      refine go_iinc C (nI (k + 1)) [(0, .ref mo), (1, .int (nI i)), (2, .int (nI (k + 1)))] dX9_follow_69 2 [1, 2, 0] rfl (nI_add k 1) (by decide) rfl ?_
      refine go_goto C 28 dX9_follow_72 (by decide) ?_
      exact ih (k + 1) (pc_af (ln (qs k)) (pc_rr Rf (qs k)) (bs k)) n2_1 s2_1 (by omega) (by omega)
set_option maxHeartbeats 4000000 in
set_option maxRecDepth 100000 in
theorem l_X9_follow_2 {X : go_X} (G : go_G) (rs : va_W) (p0 : Nat) (p1 : Nat) (p2 : Nat) (p3 : Nat) (p4 : Nat) (p5 : Nat) (p6 : Nat) (mo : Nat) (mfi : Nat) (mbl : Nat) (mpb : Nat) (mru : Nat) (mle : Nat) (miv : Nat) (mst : Nat) (mpa : Nat) (mhe : Nat) (maf : Nat) (mno : Nat) (msk : Nat) (nr : Nat) (il : Nat) (ct : Nat) (ex : Nat) (br : Int32) (sl : Bool) (fu : Bool) (Pf : Nat → Int32) (Vf : Nat → Int32) (Rf : Nat → Int32) (ln : Nat → Nat) (Bf : Nat → Int32) (f0 : Nat → Int32) (h0 : Nat → Int32) (a0 : Nat → Int32) (n0 : Nat → Int32) (s0 : Nat → Int32) (tl : Nat) (i : Nat) (bs : Nat → Nat → Int32) (qs : Nat → Nat) (hp0 : rs[p0]? = some (mo, .inr (8, [.ref mfi, .ref mbl, .ref mpb, .ref mru, .ref mle, .ref miv, .ref mst, .ref mpa, .ref mhe, .ref maf, .ref mno, .ref msk, .int (nI nr), .int (nI il), .int (nI ct), .int (nI ex), .int br, .int (go_b (sl)), .int (go_b (fu))]))) (hp1 : rs[p1]? = some (mpa, .inl (G.2.1, 400, .inl Pf))) (hp2 : rs[p2]? = some (mru, .inl (G.2.1, 384, .inl Rf))) (hp3 : rs[p3]? = some (mle, .inl (G.2.1, 12, .inl (pc_lf ln)))) (hp4 : rs[p4]? = some (mbl, .inl (G.2.1, 6, .inl Bf))) (hp5 : rs[p5]? = some (mst, .inl (G.2.1, 2400, .inl Vf))) (hp6 : rs[p6]? = some (mfi, .inl (G.2.1, 6, .inl f0))) (hc : ct ≤ 400) (hP : pc_pok ct Pf) (hb : pc_bok ct br) (ht : pc_tl Pf 401 0 br = tl + 1) (hv : pc_vc Pf ct tl br) (htl : tl < 400) (hnr : nr ≤ 12) (hln : ∀ r, r < 12 → ln r ≤ 32) (hRK : ∀ r, r < nr → pc_RK (ln r) (pc_rr Rf r)) (hi : i ≤ tl) (h3 : pc_ok3 nr ln (pc_rr Rf) Bf Vf Pf f0 br tl bs qs)   (C : go_Cx X cX9_follow RX9 none 5 4 93 0 0 G) (E : go_Ee X (S := (Nat → Int32) × (Nat → Int32) × (Nat → Int32)) (fun u => True) (fun u => none) (fun u => (mhe, .inl (G.2.1, 6, .inl (bs i))) :: (maf, .inl (G.2.1, 6, .inl u.1)) :: (mno, .inl (G.2.1, 6, .inl u.2.1)) :: (msk, .inl (G.2.1, 9, .inl u.2.2)) :: rs)) (K : go_Go X (0, 0) ((mhe, .inl (G.2.1, 6, .inl (pc_cp 6 f0 h0))) :: (maf, .inl (G.2.1, 6, .inl a0)) :: (mno, .inl (G.2.1, 6, .inl n0)) :: (msk, .inl (G.2.1, 9, .inl s0)) :: rs) [(0, .ref mo), (1, .int (nI i))] [] 26) : ∀ (n : Nat) (v : Nat) (hin : 6 < v + n) (hvv : v ≤ 6), go_Go X (0, 0) ((mhe, .inl (G.2.1, 6, .inl (pc_cp v f0 h0))) :: (maf, .inl (G.2.1, 6, .inl a0)) :: (mno, .inl (G.2.1, 6, .inl n0)) :: (msk, .inl (G.2.1, 9, .inl s0)) :: rs) [(0, .ref mo), (1, .int (nI i)), (2, .int (nI v))] [] 2 := by
  intro n
  induction n with
  | zero => intro v hin hvv; omega
  | succ n ih =>
    intro v hin hvv
    refine go_iload_n C dX9_follow_2 2 rfl rfl ?_
    refine go_bipush C (6) dX9_follow_3 (by decide) ?_
    refine go_icmp_geN (a := v) (b := 6) C 26 dX9_follow_5 (by decide) (by omega) (by omega) (fun c_5 => ?_) (fun c_5 => ?_)
    · refine go_lv [(0, .ref mo), (1, .int (nI i))] [0, 1] rfl ?_
      refine go_we ((mhe, .inl (G.2.1, 6, .inl (pc_cp 6 f0 h0))) :: (maf, .inl (G.2.1, 6, .inl a0)) :: (mno, .inl (G.2.1, 6, .inl n0)) :: (msk, .inl (G.2.1, 9, .inl s0)) :: rs) (by rw [show v = 6 by omega]) ?_
      exact K
    · refine go_aload_n C dX9_follow_8 0 rfl rfl ?_
      refine go_get C (v := .ref mhe) fl_X9_34 dX9_follow_9 (p0 + 4) hp0 rfl ?_
      refine go_iload_n C dX9_follow_12 2 rfl rfl ?_
      refine go_aload_n C dX9_follow_13 0 rfl rfl ?_
      refine go_get C (v := .ref mfi) fl_X9_7 dX9_follow_14 (p0 + 4) hp0 rfl ?_
      refine go_iload_n C dX9_follow_17 2 rfl rfl ?_
      refine go_iald C dX9_follow_18 (p6 + 4) hp6 (v) rfl (by omega) (by decide) ?_
      refine go_iast C dX9_follow_19 0 rfl (v) rfl (by omega) (by decide) ((mhe, .inl (G.2.1, 6, .inl (upd (pc_cp v f0 h0) v (f0 v)))) :: (maf, .inl (G.2.1, 6, .inl a0)) :: (mno, .inl (G.2.1, 6, .inl n0)) :: (msk, .inl (G.2.1, 9, .inl s0)) :: rs) rfl ?_
      refine go_we ((mhe, .inl (G.2.1, 6, .inl (pc_cp (v + 1) f0 h0))) :: (maf, .inl (G.2.1, 6, .inl a0)) :: (mno, .inl (G.2.1, 6, .inl n0)) :: (msk, .inl (G.2.1, 9, .inl s0)) :: rs) (by rw [pc_cp_s]) ?_
      refine go_iinc C (nI (v + 1)) [(0, .ref mo), (1, .int (nI i)), (2, .int (nI (v + 1)))] dX9_follow_20 2 [1, 2, 0] rfl (nI_add v 1) (by decide) rfl ?_
      refine go_goto C 2 dX9_follow_23 (by decide) ?_
      exact ih (v + 1) (by omega) (by omega)
set_option maxHeartbeats 4000000 in
set_option maxRecDepth 100000 in
theorem c_X9_follow (G : go_G) (rs : va_W) (p0 : Nat) (p1 : Nat) (p2 : Nat) (p3 : Nat) (p4 : Nat) (p5 : Nat) (p6 : Nat) (mo : Nat) (mfi : Nat) (mbl : Nat) (mpb : Nat) (mru : Nat) (mle : Nat) (miv : Nat) (mst : Nat) (mpa : Nat) (mhe : Nat) (maf : Nat) (mno : Nat) (msk : Nat) (nr : Nat) (il : Nat) (ct : Nat) (ex : Nat) (br : Int32) (sl : Bool) (fu : Bool) (Pf : Nat → Int32) (Vf : Nat → Int32) (Rf : Nat → Int32) (ln : Nat → Nat) (Bf : Nat → Int32) (f0 : Nat → Int32) (h0 : Nat → Int32) (a0 : Nat → Int32) (n0 : Nat → Int32) (s0 : Nat → Int32) (tl : Nat) (i : Nat) (bs : Nat → Nat → Int32) (qs : Nat → Nat) (hp0 : rs[p0]? = some (mo, .inr (8, [.ref mfi, .ref mbl, .ref mpb, .ref mru, .ref mle, .ref miv, .ref mst, .ref mpa, .ref mhe, .ref maf, .ref mno, .ref msk, .int (nI nr), .int (nI il), .int (nI ct), .int (nI ex), .int br, .int (go_b (sl)), .int (go_b (fu))]))) (hp1 : rs[p1]? = some (mpa, .inl (G.2.1, 400, .inl Pf))) (hp2 : rs[p2]? = some (mru, .inl (G.2.1, 384, .inl Rf))) (hp3 : rs[p3]? = some (mle, .inl (G.2.1, 12, .inl (pc_lf ln)))) (hp4 : rs[p4]? = some (mbl, .inl (G.2.1, 6, .inl Bf))) (hp5 : rs[p5]? = some (mst, .inl (G.2.1, 2400, .inl Vf))) (hp6 : rs[p6]? = some (mfi, .inl (G.2.1, 6, .inl f0))) (hc : ct ≤ 400) (hP : pc_pok ct Pf) (hb : pc_bok ct br) (ht : pc_tl Pf 401 0 br = tl + 1) (hv : pc_vc Pf ct tl br) (htl : tl < 400) (hnr : nr ≤ 12) (hln : ∀ r, r < 12 → ln r ≤ 32) (hRK : ∀ r, r < nr → pc_RK (ln r) (pc_rr Rf r)) (hi : i ≤ tl) (h3 : pc_ok3 nr ln (pc_rr Rf) Bf Vf Pf f0 br tl bs qs) : go_Fe yX9_follow cX9_follow 5 none 4 93 G [.ref mo, .int (nI i)] ((mhe, .inl (G.2.1, 6, .inl h0)) :: (maf, .inl (G.2.1, 6, .inl a0)) :: (mno, .inl (G.2.1, 6, .inl n0)) :: (msk, .inl (G.2.1, 9, .inl s0)) :: rs) (S := (Nat → Int32) × (Nat → Int32) × (Nat → Int32)) (fun u => True) (fun u => none) (fun u => (mhe, .inl (G.2.1, 6, .inl (bs i))) :: (maf, .inl (G.2.1, 6, .inl u.1)) :: (mno, .inl (G.2.1, 6, .inl u.2.1)) :: (msk, .inl (G.2.1, 9, .inl u.2.2)) :: rs) := by
  refine go_Fe_of (by decide) (Nat.le_of_ble_eq_true rfl) (fun X C E => ?_)
  show go_Go X (0, 0) ((mhe, .inl (G.2.1, 6, .inl h0)) :: (maf, .inl (G.2.1, 6, .inl a0)) :: (mno, .inl (G.2.1, 6, .inl n0)) :: (msk, .inl (G.2.1, 9, .inl s0)) :: rs) [(0, .ref mo), (1, .int (nI i))] [] 0
  refine go_iconst C (0) dX9_follow_0 (by decide) ?_
  refine go_we ((mhe, .inl (G.2.1, 6, .inl (pc_cp 0 f0 h0))) :: (maf, .inl (G.2.1, 6, .inl a0)) :: (mno, .inl (G.2.1, 6, .inl n0)) :: (msk, .inl (G.2.1, 9, .inl s0)) :: rs) (by rw [pc_cp_0]) ?_
  refine go_istore_n C [(0, .ref mo), (1, .int (nI i)), (2, .int 0)] dX9_follow_1 [1, 2, 0] rfl (by decide) rfl ?_
  refine l_X9_follow_2 G rs p0 p1 p2 p3 p4 p5 p6 mo mfi mbl mpb mru mle miv mst mpa mhe maf mno msk nr il ct ex br sl fu Pf Vf Rf ln Bf f0 h0 a0 n0 s0 tl i bs qs hp0 hp1 hp2 hp3 hp4 hp5 hp6 hc hP hb ht hv htl hnr hln hRK hi h3  C E ?_ 7 0 (by omega) (by omega)
  show go_Go X (0, 0) ((mhe, .inl (G.2.1, 6, .inl (pc_cp 6 f0 h0))) :: (maf, .inl (G.2.1, 6, .inl a0)) :: (mno, .inl (G.2.1, 6, .inl n0)) :: (msk, .inl (G.2.1, 9, .inl s0)) :: rs) [(0, .ref mo), (1, .int (nI i))] [] 26
  refine go_cont 0 rfl (bs 0) (fun j hj => by simp only [pc_cp, if_pos hj]; rw [h3.1]) ((mhe, .inl (G.2.1, 6, .inl (bs 0))) :: (maf, .inl (G.2.1, 6, .inl a0)) :: (mno, .inl (G.2.1, 6, .inl n0)) :: (msk, .inl (G.2.1, 9, .inl s0)) :: rs) rfl ?_
  refine go_iconst C (0) dX9_follow_26 (by decide) ?_
  refine go_istore_n C [(0, .ref mo), (1, .int (nI i)), (2, .int 0)] dX9_follow_27 [1, 2, 0] rfl (by decide) rfl ?_
  exact l_X9_follow_28 G rs p0 p1 p2 p3 p4 p5 p6 mo mfi mbl mpb mru mle miv mst mpa mhe maf mno msk nr il ct ex br sl fu Pf Vf Rf ln Bf f0 h0 a0 n0 s0 tl i bs qs hp0 hp1 hp2 hp3 hp4 hp5 hp6 hc hP hb ht hv htl hnr hln hRK hi h3  C E (i + 1) 0 a0 n0 s0 (by omega) (by omega)
set_option maxHeartbeats 4000000 in
set_option maxRecDepth 100000 in
theorem c_X9_traceLen0 (G : go_G) (rs : va_W) (p0 : Nat) (p1 : Nat) (mo : Nat) (mfi : Nat) (mbl : Nat) (mpb : Nat) (mru : Nat) (mle : Nat) (miv : Nat) (mst : Nat) (mpa : Nat) (mhe : Nat) (maf : Nat) (mno : Nat) (msk : Nat) (nr : Nat) (il : Nat) (ct : Nat) (ex : Nat) (br : Int32) (sl : Bool) (fu : Bool) (Pf : Nat → Int32) (hp0 : rs[p0]? = some (mo, .inr (8, [.ref mfi, .ref mbl, .ref mpb, .ref mru, .ref mle, .ref miv, .ref mst, .ref mpa, .ref mhe, .ref maf, .ref mno, .ref msk, .int (nI nr), .int (nI il), .int (nI ct), .int (nI ex), .int br, .int (go_b (sl)), .int (go_b (fu))]))) (hp1 : rs[p1]? = some (mpa, .inl (G.2.1, 400, .inl Pf))) (hbr : br = -1) : go_Fn yX9_traceLen cX9_traceLen 4 (some .int) 0 0 G [.ref mo] rs (some (.int (-1))) rs := by
  refine go_Fn_of (by decide) (Nat.le_of_ble_eq_true rfl) (fun X C E => ?_)
  show go_Go X (0, 0) rs [(0, .ref mo)] [] 0
  refine go_iconst C ((-1)) dX9_traceLen_0 (by decide) ?_
  refine go_istore_n C [(0, .ref mo), (1, .int (-1))] dX9_traceLen_1 [1, 0] rfl (by decide) rfl ?_
  refine go_aload_n C dX9_traceLen_2 0 rfl rfl ?_
  refine go_get C (v := .int br) fl_X9_46 dX9_traceLen_3 p0 hp0 rfl ?_
  refine go_istore_n C [(0, .ref mo), (1, .int (-1)), (2, .int br)] dX9_traceLen_6 [1, 2, 0] rfl (by decide) rfl ?_
  refine go_iconst C (0) dX9_traceLen_7 (by decide) ?_
  refine go_istore_n C [(0, .ref mo), (1, .int (-1)), (2, .int br), (3, .int 0)] dX9_traceLen_8 [1, 2, 3, 0] rfl (by decide) rfl ?_
  refine go_iload_n C dX9_traceLen_9 3 rfl rfl ?_
  refine go_sipush C (400) dX9_traceLen_10 (by decide) ?_
  refine go_icmp_ge C 36 dX9_traceLen_13 (by decide) (fun c_13 => ?_) (fun c_13 => ?_)
  · exact absurd c_13 (by decide)
  · have hlt : br < 0 := by rw [hbr]; decide
    refine go_iload_n C dX9_traceLen_16 2 rfl rfl ?_
    refine go_if_lt C 36 dX9_traceLen_17 (by decide) (fun c_17 => ?_) (fun c_17 => ?_)
    · refine go_iload_n C dX9_traceLen_36 1 rfl rfl ?_
      exact go_iret C E dX9_traceLen_37 rfl rfl
    · exact absurd hlt c_17
set_option maxHeartbeats 4000000 in
set_option maxRecDepth 100000 in
theorem c_X9_traceRule0 (G : go_G) (rs : va_W) (p0 : Nat) (p1 : Nat) (mo : Nat) (mfi : Nat) (mbl : Nat) (mpb : Nat) (mru : Nat) (mle : Nat) (miv : Nat) (mst : Nat) (mpa : Nat) (mhe : Nat) (maf : Nat) (mno : Nat) (msk : Nat) (nr : Nat) (il : Nat) (ct : Nat) (ex : Nat) (br : Int32) (sl : Bool) (fu : Bool) (Pf : Nat → Int32) (i : Int32) (hp0 : rs[p0]? = some (mo, .inr (8, [.ref mfi, .ref mbl, .ref mpb, .ref mru, .ref mle, .ref miv, .ref mst, .ref mpa, .ref mhe, .ref maf, .ref mno, .ref msk, .int (nI nr), .int (nI il), .int (nI ct), .int (nI ex), .int br, .int (go_b (sl)), .int (go_b (fu))]))) (hp1 : rs[p1]? = some (mpa, .inl (G.2.1, 400, .inl Pf))) (hbr : br = -1) (hc : ct ≤ 400) : go_Fn yX9_traceRule cX9_traceRule 2 (some .int) 5 117 G [.ref mo, .int i] rs (some (.int (-1))) rs := by
  refine go_Fn_of (by decide) (Nat.le_of_ble_eq_true rfl) (fun X C E => ?_)
  show go_Go X (0, 0) rs [(0, .ref mo), (1, .int i)] [] 0
  refine go_iload_n C dX9_traceRule_0 1 rfl rfl ?_
  refine go_if_lt C 12 dX9_traceRule_1 (by decide) (fun c_1 => ?_) (fun c_1 => ?_)
  · refine go_iconst C ((-1)) dX9_traceRule_12 (by decide) ?_
    exact go_iret C E dX9_traceRule_13 rfl rfl
  · refine go_iload_n C dX9_traceRule_4 1 rfl rfl ?_
    refine go_aload_n C dX9_traceRule_5 0 rfl rfl ?_
    refine go_cV C (c_X9_traceLen0 G rs p0 p1 mo mfi mbl mpb mru mle miv mst mpa mhe maf mno msk nr il ct ex br sl fu Pf hp0 hp1 hbr) ml_X9_153 mc_X9_traceLen dX9_traceRule_6 [.int i] rfl rfl p0 hp0 rfl rfl ⟨Nat.le_of_ble_eq_true rfl, Nat.le_of_ble_eq_true rfl, Nat.zero_le _, Nat.zero_le _, Nat.le_of_ble_eq_true rfl⟩ [.int (-1), .int i] rfl ?_
    refine go_icmp_lt C 14 dX9_traceRule_9 (by decide) (fun c_9 => ?_) (fun c_9 => ?_)
    · exact absurd (Int32.lt_of_lt_of_le c_9 (show (-1 : Int32) ≤ 0 by decide)) c_1
    · refine go_iconst C ((-1)) dX9_traceRule_12 (by decide) ?_
      exact go_iret C E dX9_traceRule_13 rfl rfl
set_option maxHeartbeats 4000000 in
set_option maxRecDepth 100000 in
theorem c_X9_traceRule (G : go_G) (rs : va_W) (p0 : Nat) (p1 : Nat) (p2 : Nat) (p3 : Nat) (p4 : Nat) (p5 : Nat) (p6 : Nat) (mo : Nat) (mfi : Nat) (mbl : Nat) (mpb : Nat) (mru : Nat) (mle : Nat) (miv : Nat) (mst : Nat) (mpa : Nat) (mhe : Nat) (maf : Nat) (mno : Nat) (msk : Nat) (nr : Nat) (il : Nat) (ct : Nat) (ex : Nat) (br : Int32) (sl : Bool) (fu : Bool) (Pf : Nat → Int32) (Vf : Nat → Int32) (Rf : Nat → Int32) (ln : Nat → Nat) (Bf : Nat → Int32) (f0 : Nat → Int32) (h0 : Nat → Int32) (a0 : Nat → Int32) (n0 : Nat → Int32) (s0 : Nat → Int32) (tl : Nat) (bs : Nat → Nat → Int32) (qs : Nat → Nat) (i : Int32) (hp0 : rs[p0]? = some (mo, .inr (8, [.ref mfi, .ref mbl, .ref mpb, .ref mru, .ref mle, .ref miv, .ref mst, .ref mpa, .ref mhe, .ref maf, .ref mno, .ref msk, .int (nI nr), .int (nI il), .int (nI ct), .int (nI ex), .int br, .int (go_b (sl)), .int (go_b (fu))]))) (hp1 : rs[p1]? = some (mpa, .inl (G.2.1, 400, .inl Pf))) (hp2 : rs[p2]? = some (mru, .inl (G.2.1, 384, .inl Rf))) (hp3 : rs[p3]? = some (mle, .inl (G.2.1, 12, .inl (pc_lf ln)))) (hp4 : rs[p4]? = some (mbl, .inl (G.2.1, 6, .inl Bf))) (hp5 : rs[p5]? = some (mst, .inl (G.2.1, 2400, .inl Vf))) (hp6 : rs[p6]? = some (mfi, .inl (G.2.1, 6, .inl f0))) (hc : ct ≤ 400) (hP : pc_pok ct Pf) (hb : pc_bok ct br) (ht : pc_tl Pf 401 0 br = tl + 1) (hv : pc_vc Pf ct tl br) (htl : tl < 400) (hnr : nr ≤ 12) (hln : ∀ r, r < 12 → ln r ≤ 32) (hRK : ∀ r, r < nr → pc_RK (ln r) (pc_rr Rf r)) (h3 : pc_ok3 nr ln (pc_rr Rf) Bf Vf Pf f0 br tl bs qs) : go_Fe yX9_traceRule cX9_traceRule 2 (some .int) 5 117 G [.ref mo, .int i] ((mhe, .inl (G.2.1, 6, .inl h0)) :: (maf, .inl (G.2.1, 6, .inl a0)) :: (mno, .inl (G.2.1, 6, .inl n0)) :: (msk, .inl (G.2.1, 9, .inl s0)) :: rs) (S := (Nat → Int32) × (Nat → Int32) × (Nat → Int32) × (Nat → Int32)) (fun u => True) (fun u => some (.int (if i < 0 then -1 else if i < nI tl then nI (qs i.toNatClampNeg) else -1))) (fun u => (mhe, .inl (G.2.1, 6, .inl u.1)) :: (maf, .inl (G.2.1, 6, .inl u.2.1)) :: (mno, .inl (G.2.1, 6, .inl u.2.2.1)) :: (msk, .inl (G.2.1, 9, .inl u.2.2.2)) :: rs) := by
  refine go_Fe_of (by decide) (Nat.le_of_ble_eq_true rfl) (fun X C E => ?_)
  show go_Go X (0, 0) ((mhe, .inl (G.2.1, 6, .inl h0)) :: (maf, .inl (G.2.1, 6, .inl a0)) :: (mno, .inl (G.2.1, 6, .inl n0)) :: (msk, .inl (G.2.1, 9, .inl s0)) :: rs) [(0, .ref mo), (1, .int i)] [] 0
  refine go_iload_n C dX9_traceRule_0 1 rfl rfl ?_
  refine go_if_lt C 12 dX9_traceRule_1 (by decide) (fun c_1 => ?_) (fun c_1 => ?_)
  · refine go_iconst C ((-1)) dX9_traceRule_12 (by decide) ?_
    exact go_iretE C E dX9_traceRule_13 (h0, a0, n0, s0) trivial (by first | (rw [if_neg c_1, if_pos c_9]; done) | (rw [if_neg c_1, if_neg c_9]; done) | (rw [if_pos c_1]; done)) rfl
  · refine go_iload_n C dX9_traceRule_4 1 rfl rfl ?_
    refine go_aload_n C dX9_traceRule_5 0 rfl rfl ?_
    refine go_cV C (c_X9_traceLen G ((mhe, .inl (G.2.1, 6, .inl h0)) :: (maf, .inl (G.2.1, 6, .inl a0)) :: (mno, .inl (G.2.1, 6, .inl n0)) :: (msk, .inl (G.2.1, 9, .inl s0)) :: rs) (p0 + 4) (p1 + 4) mo mfi mbl mpb mru mle miv mst mpa mhe maf mno msk nr il ct ex br sl fu Pf hp0 hp1 (by omega) hP hb) ml_X9_153 mc_X9_traceLen dX9_traceRule_6 [.int i] rfl rfl (p0 + 4) hp0 rfl rfl ⟨Nat.le_of_ble_eq_true rfl, Nat.le_of_ble_eq_true rfl, Nat.zero_le _, Nat.zero_le _, Nat.le_of_ble_eq_true rfl⟩ [.int (nI tl), .int i] (by rw [ht, pc_d1_s]; rfl) ?_
    refine go_icmp_lt C 14 dX9_traceRule_9 (by decide) (fun c_9 => ?_) (fun c_9 => ?_)
    · obtain ⟨hs1, hs2⟩ := pc_has_nI (ct := tl) (s := i) (by omega) (by simp only [pc_has, if_neg c_1]; rw [if_neg (Int32.not_le.mpr c_9)])
      refine go_aload_n C dX9_traceRule_14 0 rfl rfl ?_
      refine go_iload_n C dX9_traceRule_15 1 rfl rfl ?_
      refine go_se [.int (nI (i.toNatClampNeg)), .ref mo] (by rw [← hs1]) ?_
      refine go_cVe C (c_X9_follow G rs p0 p1 p2 p3 p4 p5 p6 mo mfi mbl mpb mru mle miv mst mpa mhe maf mno msk nr il ct ex br sl fu Pf Vf Rf ln Bf f0 h0 a0 n0 s0 tl i.toNatClampNeg bs qs hp0 hp1 hp2 hp3 hp4 hp5 hp6 (by omega) hP hb ht hv (by omega) (by omega) hln hRK (by omega) h3) ml_X9_163 mc_X9_follow dX9_traceRule_16 [] rfl (fun _ => rfl) (p0 + 4) hp0 rfl rfl ⟨Nat.le_of_ble_eq_true rfl, Nat.le_of_ble_eq_true rfl, Nat.zero_le _, Nat.zero_le _, Nat.le_of_ble_eq_true rfl⟩ (fun u hu_1 => ?_)
      obtain ⟨a2_1, n2_1, s2_1⟩ := u
      show go_Go X (0, 0) ((mhe, .inl (G.2.1, 6, .inl (bs i.toNatClampNeg))) :: (maf, .inl (G.2.1, 6, .inl a2_1)) :: (mno, .inl (G.2.1, 6, .inl n2_1)) :: (msk, .inl (G.2.1, 9, .inl s2_1)) :: rs) [(0, .ref mo), (1, .int i)] [] 19
      refine go_aload_n C dX9_traceRule_19 0 rfl rfl ?_
      refine go_iload_n C dX9_traceRule_20 1 rfl rfl ?_
      refine go_se [.int (nI (i.toNatClampNeg)), .ref mo] (by rw [← hs1]) ?_
      refine go_perm [(mhe, .inl (G.2.1, 6, .inl (bs i.toNatClampNeg))), (maf, .inl (G.2.1, 6, .inl a2_1)), (mno, .inl (G.2.1, 6, .inl n2_1)), (msk, .inl (G.2.1, 9, .inl s2_1))] [(maf, .inl (G.2.1, 6, .inl a2_1)), (mno, .inl (G.2.1, 6, .inl n2_1)), (msk, .inl (G.2.1, 9, .inl s2_1)), (mhe, .inl (G.2.1, 6, .inl (bs i.toNatClampNeg)))] rs [1, 2, 3, 0] rfl rfl rfl ?_
      refine go_cVe C (c_X9_fired G ((mhe, .inl (G.2.1, 6, .inl (bs i.toNatClampNeg))) :: rs) (p0 + 1) (p1 + 1) (p2 + 1) (p3 + 1) (p4 + 1) 0 (p5 + 1) mo mfi mbl mpb mru mle miv mst mpa mhe maf mno msk nr il ct ex br sl fu Pf Vf Rf ln Bf (bs i.toNatClampNeg) a2_1 n2_1 s2_1 tl i.toNatClampNeg (qs i.toNatClampNeg) hp0 hp1 hp2 hp3 hp4 rfl hp5 (by omega) hP hb ht hv (by omega) (by omega) hln hRK (by omega) ((h3.2 _ hs2).1) ((h3.2 _ hs2).2.1)) ml_X9_160 mc_X9_fired dX9_traceRule_21 [] rfl (fun _ => rfl) (p0 + 4) hp0 rfl rfl ⟨Nat.le_of_ble_eq_true rfl, Nat.le_of_ble_eq_true rfl, Nat.zero_le _, Nat.zero_le _, Nat.le_of_ble_eq_true rfl⟩ (fun u hu_2 => ?_)
      obtain ⟨n2_2, s2_2⟩ := u
      show go_Go X (0, 0) ((maf, .inl (G.2.1, 6, .inl (pc_af (ln (qs i.toNatClampNeg)) (pc_rr Rf (qs i.toNatClampNeg)) (bs i.toNatClampNeg)))) :: (mno, .inl (G.2.1, 6, .inl n2_2)) :: (msk, .inl (G.2.1, 9, .inl s2_2)) :: (mhe, .inl (G.2.1, 6, .inl (bs i.toNatClampNeg))) :: rs) [(0, .ref mo), (1, .int i)] [.int (nI (qs i.toNatClampNeg))] 24
      refine go_perm [(maf, .inl (G.2.1, 6, .inl (pc_af (ln (qs i.toNatClampNeg)) (pc_rr Rf (qs i.toNatClampNeg)) (bs i.toNatClampNeg)))), (mno, .inl (G.2.1, 6, .inl n2_2)), (msk, .inl (G.2.1, 9, .inl s2_2)), (mhe, .inl (G.2.1, 6, .inl (bs i.toNatClampNeg)))] [(mhe, .inl (G.2.1, 6, .inl (bs i.toNatClampNeg))), (maf, .inl (G.2.1, 6, .inl (pc_af (ln (qs i.toNatClampNeg)) (pc_rr Rf (qs i.toNatClampNeg)) (bs i.toNatClampNeg)))), (mno, .inl (G.2.1, 6, .inl n2_2)), (msk, .inl (G.2.1, 9, .inl s2_2))] rs [3, 0, 1, 2] rfl rfl rfl ?_
      exact go_iretE C E dX9_traceRule_24 (bs i.toNatClampNeg, pc_af (ln (qs i.toNatClampNeg)) (pc_rr Rf (qs i.toNatClampNeg)) (bs i.toNatClampNeg), n2_2, s2_2) trivial (by first | (rw [if_neg c_1, if_pos c_9]; done) | (rw [if_neg c_1, if_neg c_9]; done) | (rw [if_pos c_1]; done)) rfl
    · refine go_iconst C ((-1)) dX9_traceRule_12 (by decide) ?_
      exact go_iretE C E dX9_traceRule_13 (h0, a0, n0, s0) trivial (by first | (rw [if_neg c_1, if_pos c_9]; done) | (rw [if_neg c_1, if_neg c_9]; done) | (rw [if_pos c_1]; done)) rfl
set_option maxHeartbeats 4000000 in
set_option maxRecDepth 100000 in
theorem c_X9_traceVar0 (G : go_G) (rs : va_W) (p0 : Nat) (p1 : Nat) (mo : Nat) (mfi : Nat) (mbl : Nat) (mpb : Nat) (mru : Nat) (mle : Nat) (miv : Nat) (mst : Nat) (mpa : Nat) (mhe : Nat) (maf : Nat) (mno : Nat) (msk : Nat) (nr : Nat) (il : Nat) (ct : Nat) (ex : Nat) (br : Int32) (sl : Bool) (fu : Bool) (Pf : Nat → Int32) (i : Int32) (v : Int32) (hp0 : rs[p0]? = some (mo, .inr (8, [.ref mfi, .ref mbl, .ref mpb, .ref mru, .ref mle, .ref miv, .ref mst, .ref mpa, .ref mhe, .ref maf, .ref mno, .ref msk, .int (nI nr), .int (nI il), .int (nI ct), .int (nI ex), .int br, .int (go_b (sl)), .int (go_b (fu))]))) (hp1 : rs[p1]? = some (mpa, .inl (G.2.1, 400, .inl Pf))) (hbr : br = -1) (hc : ct ≤ 400) : go_Fn yX9_traceVar cX9_traceVar 3 (some .int) 5 117 G [.ref mo, .int i, .int v] rs (some (.int 0)) rs := by
  refine go_Fn_of (by decide) (Nat.le_of_ble_eq_true rfl) (fun X C E => ?_)
  show go_Go X (0, 0) rs [(0, .ref mo), (1, .int i), (2, .int v)] [] 0
  refine go_iload_n C dX9_traceVar_0 1 rfl rfl ?_
  refine go_if_lt C 19 dX9_traceVar_1 (by decide) (fun c_1 => ?_) (fun c_1 => ?_)
  · refine go_iconst C (0) dX9_traceVar_19 (by decide) ?_
    exact go_iret C E dX9_traceVar_20 rfl rfl
  · refine go_iload_n C dX9_traceVar_4 1 rfl rfl ?_
    refine go_aload_n C dX9_traceVar_5 0 rfl rfl ?_
    refine go_cV C (c_X9_traceLen0 G rs p0 p1 mo mfi mbl mpb mru mle miv mst mpa mhe maf mno msk nr il ct ex br sl fu Pf hp0 hp1 hbr) ml_X9_153 mc_X9_traceLen dX9_traceVar_6 [.int i] rfl rfl p0 hp0 rfl rfl ⟨Nat.le_of_ble_eq_true rfl, Nat.le_of_ble_eq_true rfl, Nat.zero_le _, Nat.zero_le _, Nat.le_of_ble_eq_true rfl⟩ [.int (-1), .int i] rfl ?_
    refine go_icmp_gt C 19 dX9_traceVar_9 (by decide) (fun c_9 => ?_) (fun c_9 => ?_)
    · refine go_iconst C (0) dX9_traceVar_19 (by decide) ?_
      exact go_iret C E dX9_traceVar_20 rfl rfl
    · exact absurd (Int32.lt_of_le_of_lt (Int32.not_lt.mp c_9) (show (-1 : Int32) < 0 by decide)) c_1
set_option maxHeartbeats 4000000 in
set_option maxRecDepth 100000 in
theorem c_X9_traceVar (G : go_G) (rs : va_W) (p0 : Nat) (p1 : Nat) (p2 : Nat) (p3 : Nat) (p4 : Nat) (p5 : Nat) (p6 : Nat) (mo : Nat) (mfi : Nat) (mbl : Nat) (mpb : Nat) (mru : Nat) (mle : Nat) (miv : Nat) (mst : Nat) (mpa : Nat) (mhe : Nat) (maf : Nat) (mno : Nat) (msk : Nat) (nr : Nat) (il : Nat) (ct : Nat) (ex : Nat) (br : Int32) (sl : Bool) (fu : Bool) (Pf : Nat → Int32) (Vf : Nat → Int32) (Rf : Nat → Int32) (ln : Nat → Nat) (Bf : Nat → Int32) (f0 : Nat → Int32) (h0 : Nat → Int32) (a0 : Nat → Int32) (n0 : Nat → Int32) (s0 : Nat → Int32) (tl : Nat) (bs : Nat → Nat → Int32) (qs : Nat → Nat) (i : Int32) (v : Int32) (hp0 : rs[p0]? = some (mo, .inr (8, [.ref mfi, .ref mbl, .ref mpb, .ref mru, .ref mle, .ref miv, .ref mst, .ref mpa, .ref mhe, .ref maf, .ref mno, .ref msk, .int (nI nr), .int (nI il), .int (nI ct), .int (nI ex), .int br, .int (go_b (sl)), .int (go_b (fu))]))) (hp1 : rs[p1]? = some (mpa, .inl (G.2.1, 400, .inl Pf))) (hp2 : rs[p2]? = some (mru, .inl (G.2.1, 384, .inl Rf))) (hp3 : rs[p3]? = some (mle, .inl (G.2.1, 12, .inl (pc_lf ln)))) (hp4 : rs[p4]? = some (mbl, .inl (G.2.1, 6, .inl Bf))) (hp5 : rs[p5]? = some (mst, .inl (G.2.1, 2400, .inl Vf))) (hp6 : rs[p6]? = some (mfi, .inl (G.2.1, 6, .inl f0))) (hc : ct ≤ 400) (hP : pc_pok ct Pf) (hb : pc_bok ct br) (ht : pc_tl Pf 401 0 br = tl + 1) (hv : pc_vc Pf ct tl br) (htl : tl < 400) (hnr : nr ≤ 12) (hln : ∀ r, r < 12 → ln r ≤ 32) (hRK : ∀ r, r < nr → pc_RK (ln r) (pc_rr Rf r)) (h3 : pc_ok3 nr ln (pc_rr Rf) Bf Vf Pf f0 br tl bs qs) : go_Fe yX9_traceVar cX9_traceVar 3 (some .int) 5 117 G [.ref mo, .int i, .int v] ((mhe, .inl (G.2.1, 6, .inl h0)) :: (maf, .inl (G.2.1, 6, .inl a0)) :: (mno, .inl (G.2.1, 6, .inl n0)) :: (msk, .inl (G.2.1, 9, .inl s0)) :: rs) (S := (Nat → Int32) × (Nat → Int32) × (Nat → Int32) × (Nat → Int32)) (fun u => True) (fun u => some (.int (if i < 0 then 0 else if nI tl < i then 0 else if pc_isV v = true then bs i.toNatClampNeg v.toNatClampNeg else 0))) (fun u => (mhe, .inl (G.2.1, 6, .inl u.1)) :: (maf, .inl (G.2.1, 6, .inl u.2.1)) :: (mno, .inl (G.2.1, 6, .inl u.2.2.1)) :: (msk, .inl (G.2.1, 9, .inl u.2.2.2)) :: rs) := by
  refine go_Fe_of (by decide) (Nat.le_of_ble_eq_true rfl) (fun X C E => ?_)
  show go_Go X (0, 0) ((mhe, .inl (G.2.1, 6, .inl h0)) :: (maf, .inl (G.2.1, 6, .inl a0)) :: (mno, .inl (G.2.1, 6, .inl n0)) :: (msk, .inl (G.2.1, 9, .inl s0)) :: rs) [(0, .ref mo), (1, .int i), (2, .int v)] [] 0
  refine go_iload_n C dX9_traceVar_0 1 rfl rfl ?_
  refine go_if_lt C 19 dX9_traceVar_1 (by decide) (fun c_1 => ?_) (fun c_1 => ?_)
  · refine go_iconst C (0) dX9_traceVar_19 (by decide) ?_
    exact go_iretE C E dX9_traceVar_20 (h0, a0, n0, s0) trivial (by first | (rw [if_neg c_1, if_neg c_9, if_pos c_16]; done) | (rw [if_neg c_1, if_neg c_9, if_neg (by rw [c_16]; decide)]; done) | (rw [if_neg c_1, if_pos c_9]; done) | (rw [if_pos c_1]; done)) rfl
  · refine go_iload_n C dX9_traceVar_4 1 rfl rfl ?_
    refine go_aload_n C dX9_traceVar_5 0 rfl rfl ?_
    refine go_cV C (c_X9_traceLen G ((mhe, .inl (G.2.1, 6, .inl h0)) :: (maf, .inl (G.2.1, 6, .inl a0)) :: (mno, .inl (G.2.1, 6, .inl n0)) :: (msk, .inl (G.2.1, 9, .inl s0)) :: rs) (p0 + 4) (p1 + 4) mo mfi mbl mpb mru mle miv mst mpa mhe maf mno msk nr il ct ex br sl fu Pf hp0 hp1 (by omega) hP hb) ml_X9_153 mc_X9_traceLen dX9_traceVar_6 [.int i] rfl rfl (p0 + 4) hp0 rfl rfl ⟨Nat.le_of_ble_eq_true rfl, Nat.le_of_ble_eq_true rfl, Nat.zero_le _, Nat.zero_le _, Nat.le_of_ble_eq_true rfl⟩ [.int (nI tl), .int i] (by rw [ht, pc_d1_s]; rfl) ?_
    refine go_icmp_gt C 19 dX9_traceVar_9 (by decide) (fun c_9 => ?_) (fun c_9 => ?_)
    · refine go_iconst C (0) dX9_traceVar_19 (by decide) ?_
      exact go_iretE C E dX9_traceVar_20 (h0, a0, n0, s0) trivial (by first | (rw [if_neg c_1, if_neg c_9, if_pos c_16]; done) | (rw [if_neg c_1, if_neg c_9, if_neg (by rw [c_16]; decide)]; done) | (rw [if_neg c_1, if_pos c_9]; done) | (rw [if_pos c_1]; done)) rfl
    · refine go_iload_n C dX9_traceVar_12 2 rfl rfl ?_
      refine go_cS C (c_X9_isVariable G ((mhe, .inl (G.2.1, 6, .inl h0)) :: (maf, .inl (G.2.1, 6, .inl a0)) :: (mno, .inl (G.2.1, 6, .inl n0)) :: (msk, .inl (G.2.1, 9, .inl s0)) :: rs)  v  ) ml_X9_69 mc_X9_isVariable dX9_traceVar_13 [] rfl rfl rfl ⟨Nat.le_of_ble_eq_true rfl, Nat.le_of_ble_eq_true rfl, Nat.zero_le _, Nat.zero_le _, Nat.le_of_ble_eq_true rfl⟩ [.int (go_b (pc_isV v))] rfl ?_
      refine go_if_neB C 21 dX9_traceVar_16 (by decide) (fun c_16 => ?_) (fun c_16 => ?_)
      · obtain ⟨hs1, hs2, -⟩ := pc_hst_nI (sp := tl) (i := i) (by omega) (by simp only [pc_hst, if_neg c_1, if_neg c_9]; rw [if_neg (fun z => c_9 (Int32.lt_of_lt_of_le (show nI tl < 400 from nI_lt (b := 400) htl (by decide)) z))])
        obtain ⟨hv1, hv2⟩ := pc_isV_nI c_16
        refine go_aload_n C dX9_traceVar_21 0 rfl rfl ?_
        refine go_iload_n C dX9_traceVar_22 1 rfl rfl ?_
        refine go_se [.int (nI (i.toNatClampNeg)), .ref mo] (by rw [← hs1]) ?_
        refine go_cVe C (c_X9_follow G rs p0 p1 p2 p3 p4 p5 p6 mo mfi mbl mpb mru mle miv mst mpa mhe maf mno msk nr il ct ex br sl fu Pf Vf Rf ln Bf f0 h0 a0 n0 s0 tl i.toNatClampNeg bs qs hp0 hp1 hp2 hp3 hp4 hp5 hp6 (by omega) hP hb ht hv (by omega) (by omega) hln hRK (by omega) h3) ml_X9_163 mc_X9_follow dX9_traceVar_23 [] rfl (fun _ => rfl) (p0 + 4) hp0 rfl rfl ⟨Nat.le_of_ble_eq_true rfl, Nat.le_of_ble_eq_true rfl, Nat.zero_le _, Nat.zero_le _, Nat.le_of_ble_eq_true rfl⟩ (fun u hu_1 => ?_)
        obtain ⟨a2_1, n2_1, s2_1⟩ := u
        show go_Go X (0, 0) ((mhe, .inl (G.2.1, 6, .inl (bs i.toNatClampNeg))) :: (maf, .inl (G.2.1, 6, .inl a2_1)) :: (mno, .inl (G.2.1, 6, .inl n2_1)) :: (msk, .inl (G.2.1, 9, .inl s2_1)) :: rs) [(0, .ref mo), (1, .int i), (2, .int v)] [] 26
        refine go_aload_n C dX9_traceVar_26 0 rfl rfl ?_
        refine go_get C (v := .ref mhe) fl_X9_34 dX9_traceVar_27 (p0 + 4) hp0 rfl ?_
        refine go_iload_n C dX9_traceVar_30 2 rfl rfl ?_
        refine go_iald C dX9_traceVar_31 0 rfl (v.toNatClampNeg) hv1 hv2 (by decide) ?_
        exact go_iretE C E dX9_traceVar_32 (bs i.toNatClampNeg, a2_1, n2_1, s2_1) trivial (by first | (rw [if_neg c_1, if_neg c_9, if_pos c_16]; done) | (rw [if_neg c_1, if_neg c_9, if_neg (by rw [c_16]; decide)]; done) | (rw [if_neg c_1, if_pos c_9]; done) | (rw [if_pos c_1]; done)) rfl
      · refine go_iconst C (0) dX9_traceVar_19 (by decide) ?_
        exact go_iretE C E dX9_traceVar_20 (h0, a0, n0, s0) trivial (by first | (rw [if_neg c_1, if_neg c_9, if_pos c_16]; done) | (rw [if_neg c_1, if_neg c_9, if_neg (by rw [c_16]; decide)]; done) | (rw [if_neg c_1, if_pos c_9]; done) | (rw [if_pos c_1]; done)) rfl
set_option maxHeartbeats 4000000 in
set_option maxRecDepth 100000 in
theorem c_X9_replay0 (G : go_G) (rs : va_W) (p0 : Nat) (mo : Nat) (mfi : Nat) (mbl : Nat) (mpb : Nat) (mru : Nat) (mle : Nat) (miv : Nat) (mst : Nat) (mpa : Nat) (mhe : Nat) (maf : Nat) (mno : Nat) (msk : Nat) (nr : Nat) (il : Nat) (ct : Nat) (ex : Nat) (br : Int32) (sl : Bool) (fu : Bool) (hp0 : rs[p0]? = some (mo, .inr (8, [.ref mfi, .ref mbl, .ref mpb, .ref mru, .ref mle, .ref miv, .ref mst, .ref mpa, .ref mhe, .ref maf, .ref mno, .ref msk, .int (nI nr), .int (nI il), .int (nI ct), .int (nI ex), .int br, .int (go_b (sl)), .int (go_b (fu))]))) (hbr : br = -1) : go_Fn yX9_replay cX9_replay 1 (some .int) 5 117 G [.ref mo] rs (some (.int 0)) rs := by
  refine go_Fn_of (by decide) (Nat.le_of_ble_eq_true rfl) (fun X C E => ?_)
  show go_Go X (0, 0) rs [(0, .ref mo)] [] 0
  refine go_aload_n C dX9_replay_0 0 rfl rfl ?_
  refine go_get C (v := .int br) fl_X9_46 dX9_replay_1 p0 hp0 rfl ?_
  refine go_if_ge C 9 dX9_replay_4 (by decide) (fun c_4 => ?_) (fun c_4 => ?_)
  · rw [hbr] at c_4; exact absurd c_4 (by decide)
  · refine go_iconst C (0) dX9_replay_7 (by decide) ?_
    exact go_iret C E dX9_replay_8 rfl rfl
set_option maxHeartbeats 4000000 in
set_option maxRecDepth 100000 in
theorem c_X9_replay (G : go_G) (rs : va_W) (p0 : Nat) (p1 : Nat) (p2 : Nat) (p3 : Nat) (p4 : Nat) (p5 : Nat) (p6 : Nat) (p7 : Nat) (mo : Nat) (mfi : Nat) (mbl : Nat) (mpb : Nat) (mru : Nat) (mle : Nat) (miv : Nat) (mst : Nat) (mpa : Nat) (mhe : Nat) (maf : Nat) (mno : Nat) (msk : Nat) (nr : Nat) (il : Nat) (ct : Nat) (ex : Nat) (br : Int32) (sl : Bool) (fu : Bool) (Pf : Nat → Int32) (Vf : Nat → Int32) (Rf : Nat → Int32) (ln : Nat → Nat) (Bf : Nat → Int32) (f0 : Nat → Int32) (h0 : Nat → Int32) (a0 : Nat → Int32) (n0 : Nat → Int32) (s0 : Nat → Int32) (tl : Nat) (bs : Nat → Nat → Int32) (qs : Nat → Nat) (If : Nat → Int32) (hp0 : rs[p0]? = some (mo, .inr (8, [.ref mfi, .ref mbl, .ref mpb, .ref mru, .ref mle, .ref miv, .ref mst, .ref mpa, .ref mhe, .ref maf, .ref mno, .ref msk, .int (nI nr), .int (nI il), .int (nI ct), .int (nI ex), .int br, .int (go_b (sl)), .int (go_b (fu))]))) (hp1 : rs[p1]? = some (mpa, .inl (G.2.1, 400, .inl Pf))) (hp2 : rs[p2]? = some (mru, .inl (G.2.1, 384, .inl Rf))) (hp3 : rs[p3]? = some (mle, .inl (G.2.1, 12, .inl (pc_lf ln)))) (hp4 : rs[p4]? = some (mbl, .inl (G.2.1, 6, .inl Bf))) (hp5 : rs[p5]? = some (mst, .inl (G.2.1, 2400, .inl Vf))) (hp6 : rs[p6]? = some (mfi, .inl (G.2.1, 6, .inl f0))) (hp7 : rs[p7]? = some (miv, .inl (G.2.1, 32, .inl If))) (hc : ct ≤ 400) (hP : pc_pok ct Pf) (hb : pc_bok ct br) (ht : pc_tl Pf 401 0 br = tl + 1) (hv : pc_vc Pf ct tl br) (htl : tl < 400) (hnr : nr ≤ 12) (hln : ∀ r, r < 12 → ln r ≤ 32) (hRK : ∀ r, r < nr → pc_RK (ln r) (pc_rr Rf r)) (h3 : pc_ok3 nr ln (pc_rr Rf) Bf Vf Pf f0 br tl bs qs) (hil : il ≤ 32) (hok : pc_mok If il 0 0) (hmh : ∀ b, pc_mho il If b = pc_ho il If b) : go_Fe yX9_replay cX9_replay 1 (some .int) 5 117 G [.ref mo] ((mhe, .inl (G.2.1, 6, .inl h0)) :: (maf, .inl (G.2.1, 6, .inl a0)) :: (mno, .inl (G.2.1, 6, .inl n0)) :: (msk, .inl (G.2.1, 9, .inl s0)) :: rs) (S := (Nat → Int32) × (Nat → Int32) × (Nat → Int32) × (Nat → Int32)) (fun u => True) (fun u => some (.int (if pc_ho il If (bs tl) = true then 0 else 1))) (fun u => (mhe, .inl (G.2.1, 6, .inl u.1)) :: (maf, .inl (G.2.1, 6, .inl u.2.1)) :: (mno, .inl (G.2.1, 6, .inl u.2.2.1)) :: (msk, .inl (G.2.1, 9, .inl u.2.2.2)) :: rs) := by
  refine go_Fe_of (by decide) (Nat.le_of_ble_eq_true rfl) (fun X C E => ?_)
  show go_Go X (0, 0) ((mhe, .inl (G.2.1, 6, .inl h0)) :: (maf, .inl (G.2.1, 6, .inl a0)) :: (mno, .inl (G.2.1, 6, .inl n0)) :: (msk, .inl (G.2.1, 9, .inl s0)) :: rs) [(0, .ref mo)] [] 0
  refine go_aload_n C dX9_replay_0 0 rfl rfl ?_
  refine go_get C (v := .int br) fl_X9_46 dX9_replay_1 (p0 + 4) hp0 rfl ?_
  refine go_if_ge C 9 dX9_replay_4 (by decide) (fun c_4 => ?_) (fun c_4 => ?_)
  · refine go_aload_n C dX9_replay_9 0 rfl rfl ?_
    refine go_aload_n C dX9_replay_10 0 rfl rfl ?_
    refine go_cV C (c_X9_traceLen G ((mhe, .inl (G.2.1, 6, .inl h0)) :: (maf, .inl (G.2.1, 6, .inl a0)) :: (mno, .inl (G.2.1, 6, .inl n0)) :: (msk, .inl (G.2.1, 9, .inl s0)) :: rs) (p0 + 4) (p1 + 4) mo mfi mbl mpb mru mle miv mst mpa mhe maf mno msk nr il ct ex br sl fu Pf hp0 hp1 (by omega) hP hb) ml_X9_153 mc_X9_traceLen dX9_replay_11 [.ref mo] rfl rfl (p0 + 4) hp0 rfl rfl ⟨Nat.le_of_ble_eq_true rfl, Nat.le_of_ble_eq_true rfl, Nat.zero_le _, Nat.zero_le _, Nat.le_of_ble_eq_true rfl⟩ [.int (nI tl), .ref mo] (by rw [ht, pc_d1_s]; rfl) ?_
    refine go_cVe C (c_X9_follow G rs p0 p1 p2 p3 p4 p5 p6 mo mfi mbl mpb mru mle miv mst mpa mhe maf mno msk nr il ct ex br sl fu Pf Vf Rf ln Bf f0 h0 a0 n0 s0 tl tl bs qs hp0 hp1 hp2 hp3 hp4 hp5 hp6 (by omega) hP hb ht hv (by omega) (by omega) hln hRK (by omega) h3) ml_X9_163 mc_X9_follow dX9_replay_14 [] rfl (fun _ => rfl) (p0 + 4) hp0 rfl rfl ⟨Nat.le_of_ble_eq_true rfl, Nat.le_of_ble_eq_true rfl, Nat.zero_le _, Nat.zero_le _, Nat.le_of_ble_eq_true rfl⟩ (fun u hu_1 => ?_)
    obtain ⟨a2_1, n2_1, s2_1⟩ := u
    show go_Go X (0, 0) ((mhe, .inl (G.2.1, 6, .inl (bs tl))) :: (maf, .inl (G.2.1, 6, .inl a2_1)) :: (mno, .inl (G.2.1, 6, .inl n2_1)) :: (msk, .inl (G.2.1, 9, .inl s2_1)) :: rs) [(0, .ref mo)] [] 17
    refine go_aload_n C dX9_replay_17 0 rfl rfl ?_
    refine go_perm [(mhe, .inl (G.2.1, 6, .inl (bs tl))), (maf, .inl (G.2.1, 6, .inl a2_1)), (mno, .inl (G.2.1, 6, .inl n2_1)), (msk, .inl (G.2.1, 9, .inl s2_1))] [(msk, .inl (G.2.1, 9, .inl s2_1)), (mhe, .inl (G.2.1, 6, .inl (bs tl))), (maf, .inl (G.2.1, 6, .inl a2_1)), (mno, .inl (G.2.1, 6, .inl n2_1))] rs [3, 0, 1, 2] rfl rfl rfl ?_
    refine go_cVe C (c_X9_holds G ((mhe, .inl (G.2.1, 6, .inl (bs tl))) :: (maf, .inl (G.2.1, 6, .inl a2_1)) :: (mno, .inl (G.2.1, 6, .inl n2_1)) :: rs) (p0 + 3) (p7 + 3) 0 mo mfi mbl mpb mru mle miv mst mpa mhe maf mno msk nr il ct ex br sl fu If s2_1 (bs tl) hp0 hp7 rfl (by omega) hok) ml_X9_127 mc_X9_holds dX9_replay_18 [] rfl (fun _ => rfl) (p0 + 4) hp0 rfl rfl ⟨Nat.le_of_ble_eq_true rfl, Nat.le_of_ble_eq_true rfl, Nat.zero_le _, Nat.zero_le _, Nat.le_of_ble_eq_true rfl⟩ (fun u hu_2 => ?_)
    obtain ⟨st2_2, rfl⟩ : ∃ z, z = u := ⟨_, rfl⟩
    show go_Go X (0, 0) ((msk, .inl (G.2.1, 9, .inl st2_2)) :: (mhe, .inl (G.2.1, 6, .inl (bs tl))) :: (maf, .inl (G.2.1, 6, .inl a2_1)) :: (mno, .inl (G.2.1, 6, .inl n2_1)) :: rs) [(0, .ref mo)] [.int (go_b (pc_mho il If (bs tl)))] 21
    refine go_if_eqB C 28 dX9_replay_21 (by decide) (fun c_21 => ?_) (fun c_21 => ?_)
    · refine go_iconst C (1) dX9_replay_28 (by decide) ?_
      refine go_perm [(msk, .inl (G.2.1, 9, .inl st2_2)), (mhe, .inl (G.2.1, 6, .inl (bs tl))), (maf, .inl (G.2.1, 6, .inl a2_1)), (mno, .inl (G.2.1, 6, .inl n2_1))] [(mhe, .inl (G.2.1, 6, .inl (bs tl))), (maf, .inl (G.2.1, 6, .inl a2_1)), (mno, .inl (G.2.1, 6, .inl n2_1)), (msk, .inl (G.2.1, 9, .inl st2_2))] rs [1, 2, 3, 0] rfl rfl rfl ?_
      exact go_iretE C E dX9_replay_29 (bs tl, a2_1, n2_1, st2_2) trivial (by rw [← hmh]; simp [c_21]) rfl
    · refine go_iconst C (0) dX9_replay_24 (by decide) ?_
      refine go_goto C 29 dX9_replay_25 (by decide) ?_
      refine go_perm [(msk, .inl (G.2.1, 9, .inl st2_2)), (mhe, .inl (G.2.1, 6, .inl (bs tl))), (maf, .inl (G.2.1, 6, .inl a2_1)), (mno, .inl (G.2.1, 6, .inl n2_1))] [(mhe, .inl (G.2.1, 6, .inl (bs tl))), (maf, .inl (G.2.1, 6, .inl a2_1)), (mno, .inl (G.2.1, 6, .inl n2_1)), (msk, .inl (G.2.1, 9, .inl st2_2))] rs [1, 2, 3, 0] rfl rfl rfl ?_
      exact go_iretE C E dX9_replay_29 (bs tl, a2_1, n2_1, st2_2) trivial (by rw [← hmh]; simp [c_21]) rfl
  · exact absurd (by obtain ⟨h8, -⟩ := pc_vc_at hc hv; rw [h8]; exact nI_pos' (by obtain ⟨-, h9⟩ := pc_vc_at hc hv; omega)) c_4
set_option maxHeartbeats 4000000 in
set_option maxRecDepth 100000 in
theorem l_X9_isReachable_13 {X : go_X} (G : go_G) (rs : va_W) (p0 : Nat) (p1 : Nat) (p2 : Nat) (p3 : Nat) (mo : Nat) (mfi : Nat) (mbl : Nat) (mpb : Nat) (mru : Nat) (mle : Nat) (miv : Nat) (mst : Nat) (mpa : Nat) (mhe : Nat) (maf : Nat) (mno : Nat) (msk : Nat) (nr : Nat) (il : Nat) (ct : Nat) (ex : Nat) (br : Int32) (sl : Bool) (fu : Bool) (Bf : Nat → Int32) (Vf : Nat → Int32) (f1 : Nat → Int32) (a0 : Nat → Int32) (n0 : Nat → Int32) (hp0 : rs[p0]? = some (mo, .inr (8, [.ref mfi, .ref mbl, .ref mpb, .ref mru, .ref mle, .ref miv, .ref mst, .ref mpa, .ref mhe, .ref maf, .ref mno, .ref msk, .int (nI nr), .int (nI il), .int (nI ct), .int (nI ex), .int br, .int (go_b (sl)), .int (go_b (fu))]))) (hp1 : rs[p1]? = some (mbl, .inl (G.2.1, 6, .inl Bf))) (hp2 : rs[p2]? = some (mst, .inl (G.2.1, 2400, .inl Vf))) (hp3 : rs[p3]? = some (mpb, .inl (G.2.1, 6, .inl f1))) (hc : ct ≤ 400) (hex : ex ≤ 1000)   (C : go_Cx X cX9_isReachable RX9 (some .int) 2 4 88 0 0 G) (E : go_Ee X (S := (Nat → Int32) × (Nat → Int32)) (fun u => True) (fun u => some (.int (if (if 0 ≤ br then 2 else if sl = true ∧ fu = false ∧ ex = ct then 1 else 0 : Int32) = 1 then (if pc_is ct Vf (pc_sf Bf f1) (ct + 1) 0 = true then 1 else 0) else -6))) (fun u => (maf, .inl (G.2.1, 6, .inl u.1)) :: (mno, .inl (G.2.1, 6, .inl u.2)) :: rs)) (K : go_Go X (0, 0) ((maf, .inl (G.2.1, 6, .inl (pc_cp 6 f1 a0))) :: (mno, .inl (G.2.1, 6, .inl n0)) :: rs) [(0, .ref mo)] [] 37) : ∀ (n : Nat) (v : Nat) (hin : 6 < v + n) (hvv : v ≤ 6), go_Go X (0, 0) ((maf, .inl (G.2.1, 6, .inl (pc_cp v f1 a0))) :: (mno, .inl (G.2.1, 6, .inl n0)) :: rs) [(0, .ref mo), (1, .int (nI v))] [] 13 := by
  intro n
  induction n with
  | zero => intro v hin hvv; omega
  | succ n ih =>
    intro v hin hvv
    refine go_iload_n C dX9_isReachable_13 1 rfl rfl ?_
    refine go_bipush C (6) dX9_isReachable_14 (by decide) ?_
    refine go_icmp_geN (a := v) (b := 6) C 37 dX9_isReachable_16 (by decide) (by omega) (by omega) (fun c_16 => ?_) (fun c_16 => ?_)
    · refine go_lv [(0, .ref mo)] [0] rfl ?_
      refine go_we ((maf, .inl (G.2.1, 6, .inl (pc_cp 6 f1 a0))) :: (mno, .inl (G.2.1, 6, .inl n0)) :: rs) (by rw [show v = 6 by omega]) ?_
      exact K
    · refine go_aload_n C dX9_isReachable_19 0 rfl rfl ?_
      refine go_get C (v := .ref maf) fl_X9_37 dX9_isReachable_20 (p0 + 2) hp0 rfl ?_
      refine go_iload_n C dX9_isReachable_23 1 rfl rfl ?_
      refine go_aload_n C dX9_isReachable_24 0 rfl rfl ?_
      refine go_get C (v := .ref mpb) fl_X9_16 dX9_isReachable_25 (p0 + 2) hp0 rfl ?_
      refine go_iload_n C dX9_isReachable_28 1 rfl rfl ?_
      refine go_iald C dX9_isReachable_29 (p3 + 2) hp3 (v) rfl (by omega) (by decide) ?_
      refine go_iast C dX9_isReachable_30 0 rfl (v) rfl (by omega) (by decide) ((maf, .inl (G.2.1, 6, .inl (upd (pc_cp v f1 a0) v (f1 v)))) :: (mno, .inl (G.2.1, 6, .inl n0)) :: rs) rfl ?_
      refine go_we ((maf, .inl (G.2.1, 6, .inl (pc_cp (v + 1) f1 a0))) :: (mno, .inl (G.2.1, 6, .inl n0)) :: rs) (by rw [pc_cp_s]) ?_
      refine go_iinc C (nI (v + 1)) [(0, .ref mo), (1, .int (nI (v + 1)))] dX9_isReachable_31 1 [1, 0] rfl (nI_add v 1) (by decide) rfl ?_
      refine go_goto C 13 dX9_isReachable_34 (by decide) ?_
      exact ih (v + 1) (by omega) (by omega)
set_option maxHeartbeats 4000000 in
set_option maxRecDepth 100000 in
theorem c_X9_isReachable (G : go_G) (rs : va_W) (p0 : Nat) (p1 : Nat) (p2 : Nat) (p3 : Nat) (mo : Nat) (mfi : Nat) (mbl : Nat) (mpb : Nat) (mru : Nat) (mle : Nat) (miv : Nat) (mst : Nat) (mpa : Nat) (mhe : Nat) (maf : Nat) (mno : Nat) (msk : Nat) (nr : Nat) (il : Nat) (ct : Nat) (ex : Nat) (br : Int32) (sl : Bool) (fu : Bool) (Bf : Nat → Int32) (Vf : Nat → Int32) (f1 : Nat → Int32) (a0 : Nat → Int32) (n0 : Nat → Int32) (hp0 : rs[p0]? = some (mo, .inr (8, [.ref mfi, .ref mbl, .ref mpb, .ref mru, .ref mle, .ref miv, .ref mst, .ref mpa, .ref mhe, .ref maf, .ref mno, .ref msk, .int (nI nr), .int (nI il), .int (nI ct), .int (nI ex), .int br, .int (go_b (sl)), .int (go_b (fu))]))) (hp1 : rs[p1]? = some (mbl, .inl (G.2.1, 6, .inl Bf))) (hp2 : rs[p2]? = some (mst, .inl (G.2.1, 2400, .inl Vf))) (hp3 : rs[p3]? = some (mpb, .inl (G.2.1, 6, .inl f1))) (hc : ct ≤ 400) (hex : ex ≤ 1000) : go_Fe yX9_isReachable cX9_isReachable 2 (some .int) 4 88 G [.ref mo] ((maf, .inl (G.2.1, 6, .inl a0)) :: (mno, .inl (G.2.1, 6, .inl n0)) :: rs) (S := (Nat → Int32) × (Nat → Int32)) (fun u => True) (fun u => some (.int (if (if 0 ≤ br then 2 else if sl = true ∧ fu = false ∧ ex = ct then 1 else 0 : Int32) = 1 then (if pc_is ct Vf (pc_sf Bf f1) (ct + 1) 0 = true then 1 else 0) else -6))) (fun u => (maf, .inl (G.2.1, 6, .inl u.1)) :: (mno, .inl (G.2.1, 6, .inl u.2)) :: rs) := by
  refine go_Fe_of (by decide) (Nat.le_of_ble_eq_true rfl) (fun X C E => ?_)
  show go_Go X (0, 0) ((maf, .inl (G.2.1, 6, .inl a0)) :: (mno, .inl (G.2.1, 6, .inl n0)) :: rs) [(0, .ref mo)] [] 0
  refine go_aload_n C dX9_isReachable_0 0 rfl rfl ?_
  refine go_cV C (c_X9_verdict G ((maf, .inl (G.2.1, 6, .inl a0)) :: (mno, .inl (G.2.1, 6, .inl n0)) :: rs) (p0 + 2) mo mfi mbl mpb mru mle miv mst mpa mhe maf mno msk nr il ct ex br sl fu hp0 (by omega) (by omega)) ml_X9_166 mc_X9_verdict dX9_isReachable_1 [] rfl rfl (p0 + 2) hp0 rfl rfl ⟨Nat.le_of_ble_eq_true rfl, Nat.le_of_ble_eq_true rfl, Nat.zero_le _, Nat.zero_le _, Nat.le_of_ble_eq_true rfl⟩ [.int (if 0 ≤ br then 2 else if sl = true ∧ fu = false ∧ ex = ct then 1 else 0)] rfl ?_
  refine go_iconst C (1) dX9_isReachable_4 (by decide) ?_
  refine go_icmp_eq C 11 dX9_isReachable_5 (by decide) (fun c_5 => ?_) (fun c_5 => ?_)
  · refine go_iconst C (0) dX9_isReachable_11 (by decide) ?_
    refine go_we ((maf, .inl (G.2.1, 6, .inl (pc_cp 0 f1 a0))) :: (mno, .inl (G.2.1, 6, .inl n0)) :: rs) (by rw [pc_cp_0]) ?_
    refine go_istore_n C [(0, .ref mo), (1, .int 0)] dX9_isReachable_12 [1, 0] rfl (by decide) rfl ?_
    refine l_X9_isReachable_13 G rs p0 p1 p2 p3 mo mfi mbl mpb mru mle miv mst mpa mhe maf mno msk nr il ct ex br sl fu Bf Vf f1 a0 n0 hp0 hp1 hp2 hp3 hc hex  C E ?_ 7 0 (by omega) (by omega)
    show go_Go X (0, 0) ((maf, .inl (G.2.1, 6, .inl (pc_cp 6 f1 a0))) :: (mno, .inl (G.2.1, 6, .inl n0)) :: rs) [(0, .ref mo)] [] 37
    refine go_cont 0 rfl f1 (fun j hj => by simp [pc_cp, hj]) ((maf, .inl (G.2.1, 6, .inl f1)) :: (mno, .inl (G.2.1, 6, .inl n0)) :: rs) rfl ?_
    refine go_aload_n C dX9_isReachable_37 0 rfl rfl ?_
    refine go_perm [(maf, .inl (G.2.1, 6, .inl f1)), (mno, .inl (G.2.1, 6, .inl n0))] [(mno, .inl (G.2.1, 6, .inl n0)), (maf, .inl (G.2.1, 6, .inl f1))] rs [1, 0] rfl rfl rfl ?_
    refine go_cV C (c_X9_isStored G ((maf, .inl (G.2.1, 6, .inl f1)) :: rs) (p0 + 1) (p1 + 1) 0 (p2 + 1) mo mfi mbl mpb mru mle miv mst mpa mhe maf mno msk nr il ct ex br sl fu Bf f1 n0 Vf hp0 hp1 rfl hp2 (by omega)) ml_X9_147 mc_X9_isStored dX9_isReachable_38 [] rfl rfl (p0 + 2) hp0 rfl rfl ⟨Nat.le_of_ble_eq_true rfl, Nat.le_of_ble_eq_true rfl, Nat.zero_le _, Nat.zero_le _, Nat.le_of_ble_eq_true rfl⟩ [.int (go_b (pc_is ct Vf (pc_sf Bf f1) (ct + 1) 0))] rfl ?_
    refine go_if_eqB C 48 dX9_isReachable_41 (by decide) (fun c_41 => ?_) (fun c_41 => ?_)
    · refine go_iconst C (0) dX9_isReachable_48 (by decide) ?_
      refine go_perm [(mno, .inl (G.2.1, 6, .inl (pc_sf Bf f1))), (maf, .inl (G.2.1, 6, .inl f1))] [(maf, .inl (G.2.1, 6, .inl f1)), (mno, .inl (G.2.1, 6, .inl (pc_sf Bf f1)))] rs [1, 0] rfl rfl rfl ?_
      exact go_iretE C E dX9_isReachable_49 (f1, pc_sf Bf f1) trivial (by first | (rw [if_pos c_5, if_pos c_41]; done) | (rw [if_pos c_5, if_neg (by rw [c_41]; decide)]; done) | (rw [if_neg c_5]; done)) rfl
    · refine go_iconst C (1) dX9_isReachable_44 (by decide) ?_
      refine go_goto C 49 dX9_isReachable_45 (by decide) ?_
      refine go_perm [(mno, .inl (G.2.1, 6, .inl (pc_sf Bf f1))), (maf, .inl (G.2.1, 6, .inl f1))] [(maf, .inl (G.2.1, 6, .inl f1)), (mno, .inl (G.2.1, 6, .inl (pc_sf Bf f1)))] rs [1, 0] rfl rfl rfl ?_
      exact go_iretE C E dX9_isReachable_49 (f1, pc_sf Bf f1) trivial (by first | (rw [if_pos c_5, if_pos c_41]; done) | (rw [if_pos c_5, if_neg (by rw [c_41]; decide)]; done) | (rw [if_neg c_5]; done)) rfl
  · refine go_bipush C ((-6)) dX9_isReachable_8 (by decide) ?_
    exact go_iretE C E dX9_isReachable_10 (a0, n0) trivial (by first | (rw [if_pos c_5, if_pos c_41]; done) | (rw [if_pos c_5, if_neg (by rw [c_41]; decide)]; done) | (rw [if_neg c_5]; done)) rfl
