set_option maxHeartbeats 4000000 in
set_option maxRecDepth 100000 in
theorem c_X3_begin (G : go_G) (rs : va_W) (p0 : Nat) (ru : Nat) (rows : Nat) (nth : Nat) (nr : Nat) (ra : Nat → Nat) (w : Nat) (l : Nat) (hp0 : rs[p0]? = some (rows, .inl (G.2.2, 12, .inr (.inr (.inr (.inr (fun r => some (ra r)))))))) (hnr : nr < 12) : go_Fn yX3_begin cX3_begin 1 (some .int) 1 20 G [.ref ru] ((ru, .inr (3, [.ref rows, .ref nth, .int (nI nr)])) :: (ra nr, .inr (6, [.ref w, .int (nI l)])) :: rs) (some (.int (nI nr))) ((ru, .inr (3, [.ref rows, .ref nth, .int (nI (nr + 1))])) :: (ra nr, .inr (6, [.ref w, .int (nI 0)])) :: rs) := by
  refine go_Fn_of (by decide) (Nat.le_of_ble_eq_true rfl) (fun X C E => ?_)
  show go_Go X (0, 0) ((ru, .inr (3, [.ref rows, .ref nth, .int (nI nr)])) :: (ra nr, .inr (6, [.ref w, .int (nI l)])) :: rs) [(0, .ref ru)] [] 0
  refine go_aload_n C dX3_begin_0 0 rfl rfl ?_
  refine go_get C (v := .int (nI nr)) fl_X3_22 dX3_begin_1 0 rfl rfl ?_
  refine go_bipush C (12) dX3_begin_4 (by decide) ?_
  refine go_icmp_ltN (a := nr) (b := 12) C 11 dX3_begin_6 (by decide) (by omega) (by omega) (fun c_6 => ?_) (fun c_6 => ?_)
  · refine go_aload_n C dX3_begin_11 0 rfl rfl ?_
    refine go_get C (v := .ref rows) fl_X3_11 dX3_begin_12 0 rfl rfl ?_
    refine go_aload_n C dX3_begin_15 0 rfl rfl ?_
    refine go_get C (v := .int (nI nr)) fl_X3_22 dX3_begin_16 0 rfl rfl ?_
    refine go_aald C (b := ra nr) dX3_begin_19 (p0 + 2) hp0 (nr) rfl (by omega) (by decide) rfl ?_
    refine go_perm [(ru, .inr (3, [.ref rows, .ref nth, .int (nI nr)])), (ra nr, .inr (6, [.ref w, .int (nI l)]))] [(ra nr, .inr (6, [.ref w, .int (nI l)])), (ru, .inr (3, [.ref rows, .ref nth, .int (nI nr)]))] rs [1, 0] rfl rfl rfl ?_
    refine go_cV C (c_X7_clear G ((ru, .inr (3, [.ref rows, .ref nth, .int (nI nr)])) :: rs)  (ra nr) w l  ) ml_X3_26 mc_X7_clear dX3_begin_20 [] rfl rfl 0 rfl rfl rfl ⟨Nat.le_of_ble_eq_true rfl, Nat.le_of_ble_eq_true rfl, Nat.zero_le _, Nat.zero_le _, Nat.le_of_ble_eq_true rfl⟩ [] rfl ?_
    refine go_aload_n C dX3_begin_23 0 rfl rfl ?_
    refine go_dup C dX3_begin_24 rfl ?_
    refine go_get C (v := .int (nI nr)) fl_X3_22 dX3_begin_25 1 rfl rfl ?_
    refine go_iconst C (1) dX3_begin_28 (by decide) ?_
    refine go_iadd C (z := nI (nr + 1)) dX3_begin_29 (nI_add nr 1) ?_
    refine go_put C fp_X3_22 dX3_begin_30 1 rfl rfl rfl (Nat.le_of_ble_eq_true rfl) (((ra nr), .inr (6, [.ref w, .int (nI 0)])) :: (ru, .inr (3, [.ref rows, .ref nth, .int (nI (nr + 1))])) :: rs) rfl ?_
    refine go_aload_n C dX3_begin_33 0 rfl rfl ?_
    refine go_get C (v := .int (nI (nr + 1))) fl_X3_22 dX3_begin_34 1 rfl rfl ?_
    refine go_iconst C (1) dX3_begin_37 (by decide) ?_
    refine go_isub C (z := nI ((nr + 1) - 1)) dX3_begin_38 (pk_sub (a := nr + 1) (b := 1) (by omega)) ?_
    refine go_perm [((ra nr), .inr (6, [.ref w, .int (nI 0)])), (ru, .inr (3, [.ref rows, .ref nth, .int (nI (nr + 1))]))] [(ru, .inr (3, [.ref rows, .ref nth, .int (nI (nr + 1))])), ((ra nr), .inr (6, [.ref w, .int (nI 0)]))] rs [1, 0] rfl rfl rfl ?_
    exact go_iret C E dX3_begin_39 (by simp) rfl
  · omega
set_option maxHeartbeats 4000000 in
set_option maxRecDepth 100000 in
theorem c_X8_feed (G : go_G) (rs : va_W)  (a : Nat) (w : Nat) (ln : Nat) (f : Nat → Int32) (x : Int32)  (hl : ln ≤ 32) : go_Fn yX8_feed cX8_feed 2 (some .int) 2 41 G [.ref a, .int x] ((a, .inr (6, [.ref w, .int (nI ln)])) :: (w, .inl (G.2.1, 32, .inl f)) :: rs) (some (.int (pc_fr ln x))) ((a, .inr (6, [.ref w, .int (nI (pc_fl ln x))])) :: (w, .inl (G.2.1, 32, .inl (pc_fw ln f x))) :: rs) := by
  refine go_Fn_of (by decide) (Nat.le_of_ble_eq_true rfl) (fun X C E => ?_)
  show go_Go X (0, 0) ((a, .inr (6, [.ref w, .int (nI ln)])) :: (w, .inl (G.2.1, 32, .inl f)) :: rs) [(0, .ref a), (1, .int x)] [] 0
  refine go_iload_n C dX8_feed_0 1 rfl rfl ?_
  refine go_cS C (c_X6_isWord G ((a, .inr (6, [.ref w, .int (nI ln)])) :: (w, .inl (G.2.1, 32, .inl f)) :: rs)  x  ) ml_X8_198 mc_X6_isWord dX8_feed_1 [] rfl rfl rfl ⟨Nat.le_of_ble_eq_true rfl, Nat.le_of_ble_eq_true rfl, Nat.zero_le _, Nat.zero_le _, Nat.le_of_ble_eq_true rfl⟩ [.int (go_b (pc_isW x))] rfl ?_
  refine go_if_neB C 9 dX8_feed_4 (by decide) (fun c_4 => ?_) (fun c_4 => ?_)
  · refine go_aload_n C dX8_feed_9 0 rfl rfl ?_
    refine go_cV C (c_X7_isFull G ((a, .inr (6, [.ref w, .int (nI ln)])) :: (w, .inl (G.2.1, 32, .inl f)) :: rs) 0 a w ln rfl (by omega)) ml_X8_203 mc_X7_isFull dX8_feed_10 [] rfl rfl 0 rfl rfl rfl ⟨Nat.le_of_ble_eq_true rfl, Nat.le_of_ble_eq_true rfl, Nat.zero_le _, Nat.zero_le _, Nat.le_of_ble_eq_true rfl⟩ [.int (go_b (decide (32 ≤ ln)))] rfl ?_
    refine go_if_eqB C 19 dX8_feed_13 (by decide) (fun c_13 => ?_) (fun c_13 => ?_)
    · refine go_aload_n C dX8_feed_19 0 rfl rfl ?_
      refine go_iload_n C dX8_feed_20 1 rfl rfl ?_
      refine go_cV C (c_X7_add G rs  a w ln f x  (by have := of_decide_eq_false c_13; omega)) ml_X8_204 mc_X7_add dX8_feed_21 [] rfl rfl 0 rfl rfl rfl ⟨Nat.le_of_ble_eq_true rfl, Nat.le_of_ble_eq_true rfl, Nat.zero_le _, Nat.zero_le _, Nat.le_of_ble_eq_true rfl⟩ [] rfl ?_
      refine go_iconst C (0) dX8_feed_24 (by decide) ?_
      exact go_iret C E dX8_feed_25 (by first | contradiction | rfl | (simp [pc_fr, *]; done) | (rw [decide_eq_true (by omega)]; done) | (rw [decide_eq_false (by omega)]; done) | (simp_all [pc_fr]; done) | (simp [pc_fr]; omega) | (simp_all [pc_fr]; omega) | omega) (by simp_all [pc_fl, pc_fw])
    · refine go_bipush C ((-3)) dX8_feed_16 (by decide) ?_
      exact go_iret C E dX8_feed_18 (by first | contradiction | rfl | (simp [pc_fr, *]; done) | (rw [decide_eq_true (by omega)]; done) | (rw [decide_eq_false (by omega)]; done) | (simp_all [pc_fr]; done) | (simp [pc_fr]; omega) | (simp_all [pc_fr]; omega) | omega) (by simp_all [pc_fl, pc_fw])
  · refine go_iconst C ((-1)) dX8_feed_7 (by decide) ?_
    exact go_iret C E dX8_feed_8 (by first | contradiction | rfl | (simp [pc_fr, *]; done) | (rw [decide_eq_true (by omega)]; done) | (rw [decide_eq_false (by omega)]; done) | (simp_all [pc_fr]; done) | (simp [pc_fr]; omega) | (simp_all [pc_fr]; omega) | omega) (by simp_all [pc_fl, pc_fw])
set_option maxHeartbeats 4000000 in
set_option maxRecDepth 100000 in
theorem c_X8_setInit (G : go_G) (rs : va_W) (p0 : Nat) (me : Nat) (fi : Nat) (ak : Nat) (bl : Nat) (ru : Nat) (iv : Nat) (ma : Nat) (so : Nat) (tr : Nat) (be : Nat) (af : Nat) (fo : Nat) (sl : Bool) (vi : Bool) (om : Bool) (ex : Nat) (f0 : Nat → Int32) (v : Int32) (x : Int32) (hp0 : rs[p0]? = some (me, .inr (7, [.ref fi, .ref ak, .ref bl, .ref ru, .ref iv, .ref ma, .ref so, .ref tr, .ref be, .ref af, .ref fo, .int (go_b (sl)), .int (go_b (vi)), .int (go_b (om)), .int (nI ex)])))  : go_Fn yX8_setInit cX8_setInit 3 (some .int) 1 20 G [.ref me, .int v, .int x] ((fi, .inl (G.2.1, 6, .inl f0)) :: rs) (some (.int (if pc_isV v = true then (if sl = true then -2 else 0) else -1))) ((fi, .inl (G.2.1, 6, .inl (if pc_isV v = true ∧ sl = false then upd f0 v.toNatClampNeg x else f0))) :: rs) := by
  refine go_Fn_of (by decide) (Nat.le_of_ble_eq_true rfl) (fun X C E => ?_)
  show go_Go X (0, 0) ((fi, .inl (G.2.1, 6, .inl f0)) :: rs) [(0, .ref me), (1, .int v), (2, .int x)] [] 0
  refine go_iload_n C dX8_setInit_0 1 rfl rfl ?_
  refine go_cS C (c_X8_isVariable G ((fi, .inl (G.2.1, 6, .inl f0)) :: rs)  v  ) ml_X8_103 mc_X8_isVariable dX8_setInit_1 [] rfl rfl rfl ⟨Nat.le_of_ble_eq_true rfl, Nat.le_of_ble_eq_true rfl, Nat.zero_le _, Nat.zero_le _, Nat.le_of_ble_eq_true rfl⟩ [.int (go_b (pc_isV v))] rfl ?_
  refine go_if_neB C 9 dX8_setInit_4 (by decide) (fun c_4 => ?_) (fun c_4 => ?_)
  · refine go_aload_n C dX8_setInit_9 0 rfl rfl ?_
    refine go_get C (v := .int (go_b (sl))) fl_X8_89 dX8_setInit_10 (p0 + 1) hp0 rfl ?_
    refine go_if_eqB C 19 dX8_setInit_13 (by decide) (fun c_13 => ?_) (fun c_13 => ?_)
    · obtain ⟨hv1, hv2⟩ := pc_isV_nI c_4
      refine go_aload_n C dX8_setInit_19 0 rfl rfl ?_
      refine go_get C (v := .ref fi) fl_X8_9 dX8_setInit_20 (p0 + 1) hp0 rfl ?_
      refine go_iload_n C dX8_setInit_23 1 rfl rfl ?_
      refine go_iload_n C dX8_setInit_24 2 rfl rfl ?_
      refine go_iast C dX8_setInit_25 0 rfl (v.toNatClampNeg) hv1 hv2 (by decide) ((fi, .inl (G.2.1, 6, .inl (upd f0 v.toNatClampNeg x))) :: rs) rfl ?_
      refine go_iconst C (0) dX8_setInit_26 (by decide) ?_
      exact go_iret C E dX8_setInit_27 (by simp [c_4, c_13]) (by simp [c_4, c_13])
    · refine go_bipush C ((-2)) dX8_setInit_16 (by decide) ?_
      exact go_iret C E dX8_setInit_18 (by simp [c_4, c_13]) (by simp [c_4, c_13])
  · refine go_iconst C ((-1)) dX8_setInit_7 (by decide) ?_
    exact go_iret C E dX8_setInit_8 (by simp [c_4]) (by simp [c_4])
set_option maxHeartbeats 4000000 in
set_option maxRecDepth 100000 in
theorem c_X8_probeVar (G : go_G) (rs : va_W) (p0 : Nat) (me : Nat) (fi : Nat) (ak : Nat) (bl : Nat) (ru : Nat) (iv : Nat) (ma : Nat) (so : Nat) (tr : Nat) (be : Nat) (af : Nat) (fo : Nat) (sl : Bool) (vi : Bool) (om : Bool) (ex : Nat) (f0 : Nat → Int32) (v : Int32) (x : Int32) (hp0 : rs[p0]? = some (me, .inr (7, [.ref fi, .ref ak, .ref bl, .ref ru, .ref iv, .ref ma, .ref so, .ref tr, .ref be, .ref af, .ref fo, .int (go_b (sl)), .int (go_b (vi)), .int (go_b (om)), .int (nI ex)])))  : go_Fn yX8_probeVar cX8_probeVar 3 (some .int) 1 20 G [.ref me, .int v, .int x] ((ak, .inl (G.2.1, 6, .inl f0)) :: rs) (some (.int (if pc_isV v = true then 0 else -1))) ((ak, .inl (G.2.1, 6, .inl (if pc_isV v = true then upd f0 v.toNatClampNeg x else f0))) :: rs) := by
  refine go_Fn_of (by decide) (Nat.le_of_ble_eq_true rfl) (fun X C E => ?_)
  show go_Go X (0, 0) ((ak, .inl (G.2.1, 6, .inl f0)) :: rs) [(0, .ref me), (1, .int v), (2, .int x)] [] 0
  refine go_iload_n C dX8_probeVar_0 1 rfl rfl ?_
  refine go_cS C (c_X8_isVariable G ((ak, .inl (G.2.1, 6, .inl f0)) :: rs)  v  ) ml_X8_103 mc_X8_isVariable dX8_probeVar_1 [] rfl rfl rfl ⟨Nat.le_of_ble_eq_true rfl, Nat.le_of_ble_eq_true rfl, Nat.zero_le _, Nat.zero_le _, Nat.le_of_ble_eq_true rfl⟩ [.int (go_b (pc_isV v))] rfl ?_
  refine go_if_neB C 9 dX8_probeVar_4 (by decide) (fun c_4 => ?_) (fun c_4 => ?_)
  · obtain ⟨hv1, hv2⟩ := pc_isV_nI c_4
    refine go_aload_n C dX8_probeVar_9 0 rfl rfl ?_
    refine go_get C (v := .ref ak) fl_X8_13 dX8_probeVar_10 (p0 + 1) hp0 rfl ?_
    refine go_iload_n C dX8_probeVar_13 1 rfl rfl ?_
    refine go_iload_n C dX8_probeVar_14 2 rfl rfl ?_
    refine go_iast C dX8_probeVar_15 0 rfl (v.toNatClampNeg) hv1 hv2 (by decide) ((ak, .inl (G.2.1, 6, .inl (upd f0 v.toNatClampNeg x))) :: rs) rfl ?_
    refine go_iconst C (0) dX8_probeVar_16 (by decide) ?_
    exact go_iret C E dX8_probeVar_17 (by simp [c_4]) (by simp [c_4])
  · refine go_iconst C ((-1)) dX8_probeVar_7 (by decide) ?_
    exact go_iret C E dX8_probeVar_8 (by simp [c_4]) (by simp [c_4])
set_option maxHeartbeats 4000000 in
set_option maxRecDepth 100000 in
theorem c_X8_setSymGroup (G : go_G) (rs : va_W) (p0 : Nat) (p1 : Nat) (me : Nat) (fi : Nat) (ak : Nat) (bl : Nat) (ru : Nat) (iv : Nat) (ma : Nat) (so : Nat) (tr : Nat) (be : Nat) (af : Nat) (fo : Nat) (sl : Bool) (vi : Bool) (om : Bool) (ex : Nat) (nb : Nat) (Bf : Nat → Int32) (v : Int32) (g : Int32) (hp0 : rs[p0]? = some (me, .inr (7, [.ref fi, .ref ak, .ref bl, .ref ru, .ref iv, .ref ma, .ref so, .ref tr, .ref be, .ref af, .ref fo, .int (go_b (sl)), .int (go_b (vi)), .int (go_b (om)), .int (nI ex)]))) (hp1 : rs[p1]? = some (bl, .inr (0, [.ref nb])))  : go_Fn yX8_setSymGroup cX8_setSymGroup 3 (some .int) 2 42 G [.ref me, .int v, .int g] ((nb, .inl (G.2.1, 6, .inl Bf)) :: rs) (some (.int (if pc_isV v = true ∧ ¬ g < 0 ∧ g ≤ 3 then (if sl = true then -2 else 0) else -1))) ((nb, .inl (G.2.1, 6, .inl (if pc_isV v = true ∧ ¬ g < 0 ∧ g ≤ 3 ∧ sl = false then upd Bf v.toNatClampNeg g else Bf))) :: rs) := by
  refine go_Fn_of (by decide) (Nat.le_of_ble_eq_true rfl) (fun X C E => ?_)
  show go_Go X (0, 0) ((nb, .inl (G.2.1, 6, .inl Bf)) :: rs) [(0, .ref me), (1, .int v), (2, .int g)] [] 0
  refine go_iload_n C dX8_setSymGroup_0 1 rfl rfl ?_
  refine go_cS C (c_X8_isVariable G ((nb, .inl (G.2.1, 6, .inl Bf)) :: rs)  v  ) ml_X8_103 mc_X8_isVariable dX8_setSymGroup_1 [] rfl rfl rfl ⟨Nat.le_of_ble_eq_true rfl, Nat.le_of_ble_eq_true rfl, Nat.zero_le _, Nat.zero_le _, Nat.le_of_ble_eq_true rfl⟩ [.int (go_b (pc_isV v))] rfl ?_
  refine go_if_eqB C 16 dX8_setSymGroup_4 (by decide) (fun c_4 => ?_) (fun c_4 => ?_)
  · refine go_iconst C ((-1)) dX8_setSymGroup_16 (by decide) ?_
    exact go_iret C E dX8_setSymGroup_17 (by first | (simp [c_4, c_8, c_13, c_22]; done) | (simp [c_4, c_8, c_13]; done) | (simp [c_4, c_8]; done) | (simp [c_4]; done)) (by first | (simp [c_4, c_8, c_13, c_22]; done) | (simp [c_4, c_8, c_13]; done) | (simp [c_4, c_8]; done) | (simp [c_4]; done))
  · refine go_iload_n C dX8_setSymGroup_7 2 rfl rfl ?_
    refine go_if_lt C 16 dX8_setSymGroup_8 (by decide) (fun c_8 => ?_) (fun c_8 => ?_)
    · refine go_iconst C ((-1)) dX8_setSymGroup_16 (by decide) ?_
      exact go_iret C E dX8_setSymGroup_17 (by first | (simp [c_4, c_8, c_13, c_22]; done) | (simp [c_4, c_8, c_13]; done) | (simp [c_4, c_8]; done) | (simp [c_4]; done)) (by first | (simp [c_4, c_8, c_13, c_22]; done) | (simp [c_4, c_8, c_13]; done) | (simp [c_4, c_8]; done) | (simp [c_4]; done))
    · refine go_iload_n C dX8_setSymGroup_11 2 rfl rfl ?_
      refine go_iconst C (3) dX8_setSymGroup_12 (by decide) ?_
      refine go_icmp_le C 18 dX8_setSymGroup_13 (by decide) (fun c_13 => ?_) (fun c_13 => ?_)
      · refine go_aload_n C dX8_setSymGroup_18 0 rfl rfl ?_
        refine go_get C (v := .int (go_b (sl))) fl_X8_89 dX8_setSymGroup_19 (p0 + 1) hp0 rfl ?_
        refine go_if_eqB C 28 dX8_setSymGroup_22 (by decide) (fun c_22 => ?_) (fun c_22 => ?_)
        · obtain ⟨hv1, hv2⟩ := pc_isV_nI c_4
          refine go_aload_n C dX8_setSymGroup_28 0 rfl rfl ?_
          refine go_get C (v := .ref bl) fl_X8_19 dX8_setSymGroup_29 (p0 + 1) hp0 rfl ?_
          refine go_iload_n C dX8_setSymGroup_32 1 rfl rfl ?_
          refine go_se [.int (nI (v.toNatClampNeg)), .ref bl] (by rw [← hv1]) ?_
          refine go_iload_n C dX8_setSymGroup_33 2 rfl rfl ?_
          refine go_cV C (c_X0_put G rs p1 bl nb Bf v.toNatClampNeg g hp1 (by omega)) ml_X8_107 mc_X0_put dX8_setSymGroup_34 [] rfl rfl (p1 + 1) hp1 rfl rfl ⟨Nat.le_of_ble_eq_true rfl, Nat.le_of_ble_eq_true rfl, Nat.zero_le _, Nat.zero_le _, Nat.le_of_ble_eq_true rfl⟩ [] rfl ?_
          refine go_iconst C (0) dX8_setSymGroup_37 (by decide) ?_
          exact go_iret C E dX8_setSymGroup_38 (by first | (simp [c_4, c_8, c_13, c_22]; done) | (simp [c_4, c_8, c_13]; done) | (simp [c_4, c_8]; done) | (simp [c_4]; done)) (by first | (simp [c_4, c_8, c_13, c_22]; done) | (simp [c_4, c_8, c_13]; done) | (simp [c_4, c_8]; done) | (simp [c_4]; done))
        · refine go_bipush C ((-2)) dX8_setSymGroup_25 (by decide) ?_
          exact go_iret C E dX8_setSymGroup_27 (by first | (simp [c_4, c_8, c_13, c_22]; done) | (simp [c_4, c_8, c_13]; done) | (simp [c_4, c_8]; done) | (simp [c_4]; done)) (by first | (simp [c_4, c_8, c_13, c_22]; done) | (simp [c_4, c_8, c_13]; done) | (simp [c_4, c_8]; done) | (simp [c_4]; done))
      · refine go_iconst C ((-1)) dX8_setSymGroup_16 (by decide) ?_
        exact go_iret C E dX8_setSymGroup_17 (by first | (simp [c_4, c_8, c_13, c_22]; done) | (simp [c_4, c_8, c_13]; done) | (simp [c_4, c_8]; done) | (simp [c_4]; done)) (by first | (simp [c_4, c_8, c_13, c_22]; done) | (simp [c_4, c_8, c_13]; done) | (simp [c_4, c_8]; done) | (simp [c_4]; done))
set_option maxHeartbeats 4000000 in
set_option maxRecDepth 100000 in
theorem c_X8_beginRule0 (G : go_G) (rs : va_W) (p0 : Nat) (p1 : Nat) (me : Nat) (fi : Nat) (ak : Nat) (bl : Nat) (ru : Nat) (iv : Nat) (ma : Nat) (so : Nat) (tr : Nat) (be : Nat) (af : Nat) (fo : Nat) (sl : Bool) (vi : Bool) (om : Bool) (ex : Nat) (rows : Nat) (nth : Nat) (nr : Nat) (hp0 : rs[p0]? = some (me, .inr (7, [.ref fi, .ref ak, .ref bl, .ref ru, .ref iv, .ref ma, .ref so, .ref tr, .ref be, .ref af, .ref fo, .int (go_b (sl)), .int (go_b (vi)), .int (go_b (om)), .int (nI ex)]))) (hp1 : rs[p1]? = some (ru, .inr (3, [.ref rows, .ref nth, .int (nI nr)]))) (hc : sl = true ∨ nr = 12) (hnr : nr ≤ 12) : go_Fn yX8_beginRule cX8_beginRule 1 (some .int) 2 40 G [.ref me] rs (some (.int (if sl = true then -2 else -3))) rs := by
  refine go_Fn_of (by decide) (Nat.le_of_ble_eq_true rfl) (fun X C E => ?_)
  show go_Go X (0, 0) rs [(0, .ref me)] [] 0
  refine go_aload_n C dX8_beginRule_0 0 rfl rfl ?_
  refine go_get C (v := .int (go_b (sl))) fl_X8_89 dX8_beginRule_1 p0 hp0 rfl ?_
  refine go_if_eqB C 10 dX8_beginRule_4 (by decide) (fun c_4 => ?_) (fun c_4 => ?_)
  · refine go_aload_n C dX8_beginRule_10 0 rfl rfl ?_
    refine go_get C (v := .ref ru) fl_X8_26 dX8_beginRule_11 p0 hp0 rfl ?_
    refine go_cV C (c_X3_isFull G rs p1 ru rows nth nr hp1 (by omega)) ml_X8_111 mc_X3_isFull dX8_beginRule_14 [] rfl rfl p1 hp1 rfl rfl ⟨Nat.le_of_ble_eq_true rfl, Nat.le_of_ble_eq_true rfl, Nat.zero_le _, Nat.zero_le _, Nat.le_of_ble_eq_true rfl⟩ [.int (go_b (decide (12 ≤ nr)))] rfl ?_
    refine go_if_eqB C 25 dX8_beginRule_17 (by decide) (fun c_17 => ?_) (fun c_17 => ?_)
    · exact hc.elim (fun hc => absurd (c_4.symm.trans hc) (by decide)) (fun hc => absurd (of_decide_eq_false c_17) (by omega))
    · refine go_bipush C ((-3)) dX8_beginRule_20 (by decide) ?_
      refine go_goto C 32 dX8_beginRule_22 (by decide) ?_
      exact go_iret C E dX8_beginRule_32 (by simp [c_4]) rfl
  · refine go_bipush C ((-2)) dX8_beginRule_7 (by decide) ?_
    exact go_iret C E dX8_beginRule_9 (by simp [c_4]) rfl
set_option maxHeartbeats 4000000 in
set_option maxRecDepth 100000 in
theorem c_X8_beginRule (G : go_G) (rs : va_W) (p0 : Nat) (p1 : Nat) (me : Nat) (fi : Nat) (ak : Nat) (bl : Nat) (ru : Nat) (iv : Nat) (ma : Nat) (so : Nat) (tr : Nat) (be : Nat) (af : Nat) (fo : Nat) (sl : Bool) (vi : Bool) (om : Bool) (ex : Nat) (rows : Nat) (nth : Nat) (nr : Nat) (ra : Nat → Nat) (w : Nat) (l : Nat) (hp0 : rs[p0]? = some (me, .inr (7, [.ref fi, .ref ak, .ref bl, .ref ru, .ref iv, .ref ma, .ref so, .ref tr, .ref be, .ref af, .ref fo, .int (go_b (sl)), .int (go_b (vi)), .int (go_b (om)), .int (nI ex)]))) (hp1 : rs[p1]? = some (rows, .inl (G.2.2, 12, .inr (.inr (.inr (.inr (fun r => some (ra r)))))))) (hc : sl = false) (hnr : nr < 12) : go_Fn yX8_beginRule cX8_beginRule 1 (some .int) 2 40 G [.ref me] ((ru, .inr (3, [.ref rows, .ref nth, .int (nI nr)])) :: (ra nr, .inr (6, [.ref w, .int (nI l)])) :: rs) (some (.int (nI nr))) ((ru, .inr (3, [.ref rows, .ref nth, .int (nI (nr + 1))])) :: (ra nr, .inr (6, [.ref w, .int (nI 0)])) :: rs) := by
  refine go_Fn_of (by decide) (Nat.le_of_ble_eq_true rfl) (fun X C E => ?_)
  show go_Go X (0, 0) ((ru, .inr (3, [.ref rows, .ref nth, .int (nI nr)])) :: (ra nr, .inr (6, [.ref w, .int (nI l)])) :: rs) [(0, .ref me)] [] 0
  refine go_aload_n C dX8_beginRule_0 0 rfl rfl ?_
  refine go_get C (v := .int (go_b (sl))) fl_X8_89 dX8_beginRule_1 (p0 + 2) hp0 rfl ?_
  refine go_if_eqB C 10 dX8_beginRule_4 (by decide) (fun c_4 => ?_) (fun c_4 => ?_)
  · refine go_aload_n C dX8_beginRule_10 0 rfl rfl ?_
    refine go_get C (v := .ref ru) fl_X8_26 dX8_beginRule_11 (p0 + 2) hp0 rfl ?_
    refine go_cV C (c_X3_isFull G ((ru, .inr (3, [.ref rows, .ref nth, .int (nI nr)])) :: (ra nr, .inr (6, [.ref w, .int (nI l)])) :: rs) 0 ru rows nth nr rfl (by omega)) ml_X8_111 mc_X3_isFull dX8_beginRule_14 [] rfl rfl 0 rfl rfl rfl ⟨Nat.le_of_ble_eq_true rfl, Nat.le_of_ble_eq_true rfl, Nat.zero_le _, Nat.zero_le _, Nat.le_of_ble_eq_true rfl⟩ [.int (go_b (decide (12 ≤ nr)))] rfl ?_
    refine go_if_eqB C 25 dX8_beginRule_17 (by decide) (fun c_17 => ?_) (fun c_17 => ?_)
    · refine go_aload_n C dX8_beginRule_25 0 rfl rfl ?_
      refine go_get C (v := .ref ru) fl_X8_26 dX8_beginRule_26 (p0 + 2) hp0 rfl ?_
      refine go_cV C (c_X3_begin G rs p1 ru rows nth nr ra w l hp1 (by omega)) ml_X8_115 mc_X3_begin dX8_beginRule_29 [] rfl rfl 0 rfl rfl rfl ⟨Nat.le_of_ble_eq_true rfl, Nat.le_of_ble_eq_true rfl, Nat.zero_le _, Nat.zero_le _, Nat.le_of_ble_eq_true rfl⟩ [.int (nI nr)] rfl ?_
      exact go_iret C E dX8_beginRule_32 rfl rfl
    · exact absurd (of_decide_eq_true c_17) (by omega)
  · rw [hc] at c_4; cases c_4
set_option maxHeartbeats 4000000 in
set_option maxRecDepth 100000 in
theorem c_X8_feedRule0 (G : go_G) (rs : va_W) (p0 : Nat) (p1 : Nat) (me : Nat) (fi : Nat) (ak : Nat) (bl : Nat) (ru : Nat) (iv : Nat) (ma : Nat) (so : Nat) (tr : Nat) (be : Nat) (af : Nat) (fo : Nat) (sl : Bool) (vi : Bool) (om : Bool) (ex : Nat) (rows : Nat) (nth : Nat) (nr : Nat) (x : Int32) (hp0 : rs[p0]? = some (me, .inr (7, [.ref fi, .ref ak, .ref bl, .ref ru, .ref iv, .ref ma, .ref so, .ref tr, .ref be, .ref af, .ref fo, .int (go_b (sl)), .int (go_b (vi)), .int (go_b (om)), .int (nI ex)]))) (hp1 : rs[p1]? = some (ru, .inr (3, [.ref rows, .ref nth, .int (nI nr)]))) (hc : sl = true ∨ nr = 0) (hnr : nr ≤ 12) : go_Fn yX8_feedRule cX8_feedRule 2 (some .int) 3 62 G [.ref me, .int x] rs (some (.int (if sl = true then -2 else -4))) rs := by
  refine go_Fn_of (by decide) (Nat.le_of_ble_eq_true rfl) (fun X C E => ?_)
  show go_Go X (0, 0) rs [(0, .ref me), (1, .int x)] [] 0
  refine go_aload_n C dX8_feedRule_0 0 rfl rfl ?_
  refine go_get C (v := .int (go_b (sl))) fl_X8_89 dX8_feedRule_1 p0 hp0 rfl ?_
  refine go_if_eqB C 10 dX8_feedRule_4 (by decide) (fun c_4 => ?_) (fun c_4 => ?_)
  · refine go_aload_n C dX8_feedRule_10 0 rfl rfl ?_
    refine go_get C (v := .ref ru) fl_X8_26 dX8_feedRule_11 p0 hp0 rfl ?_
    refine go_cV C (c_X3_count G rs p1 ru rows nth nr hp1 ) ml_X8_119 mc_X3_count dX8_feedRule_14 [] rfl rfl p1 hp1 rfl rfl ⟨Nat.le_of_ble_eq_true rfl, Nat.le_of_ble_eq_true rfl, Nat.zero_le _, Nat.zero_le _, Nat.le_of_ble_eq_true rfl⟩ [.int (nI nr)] rfl ?_
    refine go_if_neN C 23 dX8_feedRule_17 (by decide) (by omega) (fun c_17 => ?_) (fun c_17 => ?_)
    · exact hc.elim (fun hc => absurd (c_4.symm.trans hc) (by decide)) (fun hc => absurd hc c_17)
    · refine go_bipush C ((-4)) dX8_feedRule_20 (by decide) ?_
      exact go_iret C E dX8_feedRule_22 (by simp [c_4]) rfl
  · refine go_bipush C ((-2)) dX8_feedRule_7 (by decide) ?_
    exact go_iret C E dX8_feedRule_9 (by simp [c_4]) rfl
set_option maxHeartbeats 4000000 in
set_option maxRecDepth 100000 in
theorem c_X8_feedRule (G : go_G) (rs : va_W) (p0 : Nat) (p1 : Nat) (p2 : Nat) (me : Nat) (fi : Nat) (ak : Nat) (bl : Nat) (ru : Nat) (iv : Nat) (ma : Nat) (so : Nat) (tr : Nat) (be : Nat) (af : Nat) (fo : Nat) (sl : Bool) (vi : Bool) (om : Bool) (ex : Nat) (rows : Nat) (nth : Nat) (nr : Nat) (ra : Nat → Nat) (w : Nat) (l : Nat) (f : Nat → Int32) (x : Int32) (hp0 : rs[p0]? = some (me, .inr (7, [.ref fi, .ref ak, .ref bl, .ref ru, .ref iv, .ref ma, .ref so, .ref tr, .ref be, .ref af, .ref fo, .int (go_b (sl)), .int (go_b (vi)), .int (go_b (om)), .int (nI ex)]))) (hp1 : rs[p1]? = some (ru, .inr (3, [.ref rows, .ref nth, .int (nI nr)]))) (hp2 : rs[p2]? = some (rows, .inl (G.2.2, 12, .inr (.inr (.inr (.inr (fun r => some (ra r)))))))) (hc : sl = false) (hnr : nr ≤ 12) (h1 : 1 ≤ nr) (hl : l ≤ 32) : go_Fn yX8_feedRule cX8_feedRule 2 (some .int) 3 62 G [.ref me, .int x] ((ra (nr - 1), .inr (6, [.ref w, .int (nI l)])) :: (w, .inl (G.2.1, 32, .inl f)) :: rs) (some (.int (pc_fr l x))) ((ra (nr - 1), .inr (6, [.ref w, .int (nI (pc_fl l x))])) :: (w, .inl (G.2.1, 32, .inl (pc_fw l f x))) :: rs) := by
  refine go_Fn_of (by decide) (Nat.le_of_ble_eq_true rfl) (fun X C E => ?_)
  show go_Go X (0, 0) ((ra (nr - 1), .inr (6, [.ref w, .int (nI l)])) :: (w, .inl (G.2.1, 32, .inl f)) :: rs) [(0, .ref me), (1, .int x)] [] 0
  refine go_aload_n C dX8_feedRule_0 0 rfl rfl ?_
  refine go_get C (v := .int (go_b (sl))) fl_X8_89 dX8_feedRule_1 (p0 + 2) hp0 rfl ?_
  refine go_if_eqB C 10 dX8_feedRule_4 (by decide) (fun c_4 => ?_) (fun c_4 => ?_)
  · refine go_aload_n C dX8_feedRule_10 0 rfl rfl ?_
    refine go_get C (v := .ref ru) fl_X8_26 dX8_feedRule_11 (p0 + 2) hp0 rfl ?_
    refine go_cV C (c_X3_count G ((ra (nr - 1), .inr (6, [.ref w, .int (nI l)])) :: (w, .inl (G.2.1, 32, .inl f)) :: rs) (p1 + 2) ru rows nth nr hp1 ) ml_X8_119 mc_X3_count dX8_feedRule_14 [] rfl rfl (p1 + 2) hp1 rfl rfl ⟨Nat.le_of_ble_eq_true rfl, Nat.le_of_ble_eq_true rfl, Nat.zero_le _, Nat.zero_le _, Nat.le_of_ble_eq_true rfl⟩ [.int (nI nr)] rfl ?_
    refine go_if_neN C 23 dX8_feedRule_17 (by decide) (by omega) (fun c_17 => ?_) (fun c_17 => ?_)
    · refine go_aload_n C dX8_feedRule_23 0 rfl rfl ?_
      refine go_get C (v := .ref ru) fl_X8_26 dX8_feedRule_24 (p0 + 2) hp0 rfl ?_
      refine go_aload_n C dX8_feedRule_27 0 rfl rfl ?_
      refine go_get C (v := .ref ru) fl_X8_26 dX8_feedRule_28 (p0 + 2) hp0 rfl ?_
      refine go_cV C (c_X3_count G ((ra (nr - 1), .inr (6, [.ref w, .int (nI l)])) :: (w, .inl (G.2.1, 32, .inl f)) :: rs) (p1 + 2) ru rows nth nr hp1 ) ml_X8_119 mc_X3_count dX8_feedRule_31 [.ref ru] rfl rfl (p1 + 2) hp1 rfl rfl ⟨Nat.le_of_ble_eq_true rfl, Nat.le_of_ble_eq_true rfl, Nat.zero_le _, Nat.zero_le _, Nat.le_of_ble_eq_true rfl⟩ [.int (nI nr), .ref ru] rfl ?_
      refine go_iconst C (1) dX8_feedRule_34 (by decide) ?_
      refine go_isub C (z := nI (nr - 1)) dX8_feedRule_35 (pk_sub (a := nr) (b := 1) (by omega)) ?_
      refine go_cV C (c_X3_at G ((ra (nr - 1), .inr (6, [.ref w, .int (nI l)])) :: (w, .inl (G.2.1, 32, .inl f)) :: rs) (p1 + 2) (p2 + 2) ru rows nth nr ra (nr - 1) hp1 hp2 (by omega) (by omega)) ml_X8_122 mc_X3_at dX8_feedRule_36 [] rfl rfl (p1 + 2) hp1 rfl rfl ⟨Nat.le_of_ble_eq_true rfl, Nat.le_of_ble_eq_true rfl, Nat.zero_le _, Nat.zero_le _, Nat.le_of_ble_eq_true rfl⟩ [.ref (ra (nr - 1))] rfl ?_
      refine go_iload_n C dX8_feedRule_39 1 rfl rfl ?_
      refine go_cS C (c_X8_feed G rs  (ra (nr - 1)) w l f x  (by omega)) ml_X8_126 mc_X8_feed dX8_feedRule_40 [] rfl rfl rfl ⟨Nat.le_of_ble_eq_true rfl, Nat.le_of_ble_eq_true rfl, Nat.zero_le _, Nat.zero_le _, Nat.le_of_ble_eq_true rfl⟩ [.int (pc_fr l x)] rfl ?_
      exact go_iret C E dX8_feedRule_43 rfl rfl
    · exact absurd c_17 (by omega)
  · rw [hc] at c_4; cases c_4
set_option maxHeartbeats 4000000 in
set_option maxRecDepth 100000 in
theorem c_X8_feedInvariant (G : go_G) (rs : va_W) (p0 : Nat) (p1 : Nat) (me : Nat) (fi : Nat) (ak : Nat) (bl : Nat) (ru : Nat) (iv : Nat) (ma : Nat) (so : Nat) (tr : Nat) (be : Nat) (af : Nat) (fo : Nat) (sl : Bool) (vi : Bool) (om : Bool) (ex : Nat) (a : Nat) (w : Nat) (ln : Nat) (f : Nat → Int32) (x : Int32) (hp0 : rs[p0]? = some (me, .inr (7, [.ref fi, .ref ak, .ref bl, .ref ru, .ref iv, .ref ma, .ref so, .ref tr, .ref be, .ref af, .ref fo, .int (go_b (sl)), .int (go_b (vi)), .int (go_b (om)), .int (nI ex)]))) (hp1 : rs[p1]? = some (iv, .inr (1, [.ref a]))) (hl : ln ≤ 32) : go_Fn yX8_feedInvariant cX8_feedInvariant 2 (some .int) 3 62 G [.ref me, .int x] ((a, .inr (6, [.ref w, .int (nI ln)])) :: (w, .inl (G.2.1, 32, .inl f)) :: rs) (some (.int (if sl = true then -2 else pc_fr ln x))) ((a, .inr (6, [.ref w, .int (nI (if sl = true then ln else pc_fl ln x))])) :: (w, .inl (G.2.1, 32, .inl (if sl = true then f else pc_fw ln f x))) :: rs) := by
  refine go_Fn_of (by decide) (Nat.le_of_ble_eq_true rfl) (fun X C E => ?_)
  show go_Go X (0, 0) ((a, .inr (6, [.ref w, .int (nI ln)])) :: (w, .inl (G.2.1, 32, .inl f)) :: rs) [(0, .ref me), (1, .int x)] [] 0
  refine go_aload_n C dX8_feedInvariant_0 0 rfl rfl ?_
  refine go_get C (v := .int (go_b (sl))) fl_X8_89 dX8_feedInvariant_1 (p0 + 2) hp0 rfl ?_
  refine go_if_eqB C 10 dX8_feedInvariant_4 (by decide) (fun c_4 => ?_) (fun c_4 => ?_)
  · refine go_aload_n C dX8_feedInvariant_10 0 rfl rfl ?_
    refine go_get C (v := .ref iv) fl_X8_33 dX8_feedInvariant_11 (p0 + 2) hp0 rfl ?_
    refine go_get C (v := .ref a) fl_X8_80 dX8_feedInvariant_14 (p1 + 2) hp1 rfl ?_
    refine go_iload_n C dX8_feedInvariant_17 1 rfl rfl ?_
    refine go_cS C (c_X8_feed G rs  a w ln f x  (by omega)) ml_X8_126 mc_X8_feed dX8_feedInvariant_18 [] rfl rfl rfl ⟨Nat.le_of_ble_eq_true rfl, Nat.le_of_ble_eq_true rfl, Nat.zero_le _, Nat.zero_le _, Nat.le_of_ble_eq_true rfl⟩ [.int (pc_fr ln x)] rfl ?_
    exact go_iret C E dX8_feedInvariant_21 (by simp [c_4]) (by simp [c_4])
  · refine go_bipush C ((-2)) dX8_feedInvariant_7 (by decide) ?_
    exact go_iret C E dX8_feedInvariant_9 (by simp [c_4]) (by simp [c_4])
set_option maxHeartbeats 4000000 in
set_option maxRecDepth 100000 in
theorem c_X8_allExpanded (G : go_G) (rs : va_W) (p0 : Nat) (p1 : Nat) (me : Nat) (fi : Nat) (ak : Nat) (bl : Nat) (ru : Nat) (iv : Nat) (ma : Nat) (so : Nat) (tr : Nat) (be : Nat) (af : Nat) (fo : Nat) (sl : Bool) (vi : Bool) (om : Bool) (ex : Nat) (va : Nat) (pa : Nat) (ne : Nat) (ol : Nat) (ct : Nat) (hp0 : rs[p0]? = some (me, .inr (7, [.ref fi, .ref ak, .ref bl, .ref ru, .ref iv, .ref ma, .ref so, .ref tr, .ref be, .ref af, .ref fo, .int (go_b (sl)), .int (go_b (vi)), .int (go_b (om)), .int (nI ex)]))) (hp1 : rs[p1]? = some (so, .inr (4, [.ref va, .ref pa, .ref ne, .ref ol, .int (nI ct)]))) (he : ex ≤ 1000) (hc : ct ≤ 400) : go_Fn yX8_allExpanded cX8_allExpanded 1 (some .boolean) 1 20 G [.ref me] rs (some (.int (go_b (decide (ct ≤ ex))))) rs := by
  refine go_Fn_of (by decide) (Nat.le_of_ble_eq_true rfl) (fun X C E => ?_)
  show go_Go X (0, 0) rs [(0, .ref me)] [] 0
  refine go_aload_n C dX8_allExpanded_0 0 rfl rfl ?_
  refine go_get C (v := .int (nI ex)) fl_X8_99 dX8_allExpanded_1 p0 hp0 rfl ?_
  refine go_aload_n C dX8_allExpanded_4 0 rfl rfl ?_
  refine go_get C (v := .ref so) fl_X8_47 dX8_allExpanded_5 p0 hp0 rfl ?_
  refine go_cV C (c_X4_count G rs p1 so va pa ne ol ct hp1 ) ml_X8_166 mc_X4_count dX8_allExpanded_8 [.int (nI ex)] rfl rfl p1 hp1 rfl rfl ⟨Nat.le_of_ble_eq_true rfl, Nat.le_of_ble_eq_true rfl, Nat.zero_le _, Nat.zero_le _, Nat.le_of_ble_eq_true rfl⟩ [.int (nI ct), .int (nI ex)] rfl ?_
  refine go_icmp_ltN (a := ex) (b := ct) C 18 dX8_allExpanded_11 (by decide) (by omega) (by omega) (fun c_11 => ?_) (fun c_11 => ?_)
  · refine go_iconst C (0) dX8_allExpanded_18 (by decide) ?_
    refine go_se [.int (go_b (false))] rfl ?_
    exact go_zret C E dX8_allExpanded_19 (go_bn _) (by first | contradiction | rfl | (simp [decide_eq_true_eq, *]; done) | (rw [decide_eq_true (by omega)]; done) | (rw [decide_eq_false (by omega)]; done) | (simp_all [decide_eq_true_eq]; done) | (simp [decide_eq_true_eq]; omega) | (simp_all [decide_eq_true_eq]; omega) | omega) rfl
  · refine go_iconst C (1) dX8_allExpanded_14 (by decide) ?_
    refine go_goto C 19 dX8_allExpanded_15 (by decide) ?_
    refine go_se [.int (go_b (true))] rfl ?_
    exact go_zret C E dX8_allExpanded_19 (go_bn _) (by first | contradiction | rfl | (simp [decide_eq_true_eq, *]; done) | (rw [decide_eq_true (by omega)]; done) | (rw [decide_eq_false (by omega)]; done) | (simp_all [decide_eq_true_eq]; done) | (simp [decide_eq_true_eq]; omega) | (simp_all [decide_eq_true_eq]; omega) | omega) rfl
set_option maxHeartbeats 4000000 in
set_option maxRecDepth 100000 in
theorem c_X8_verdict (G : go_G) (rs : va_W) (p0 : Nat) (p1 : Nat) (me : Nat) (fi : Nat) (ak : Nat) (bl : Nat) (ru : Nat) (iv : Nat) (ma : Nat) (so : Nat) (tr : Nat) (be : Nat) (af : Nat) (fo : Nat) (sl : Bool) (vi : Bool) (om : Bool) (ex : Nat) (va : Nat) (pa : Nat) (ne : Nat) (ol : Nat) (ct : Nat) (hp0 : rs[p0]? = some (me, .inr (7, [.ref fi, .ref ak, .ref bl, .ref ru, .ref iv, .ref ma, .ref so, .ref tr, .ref be, .ref af, .ref fo, .int (go_b (sl)), .int (go_b (vi)), .int (go_b (om)), .int (nI ex)]))) (hp1 : rs[p1]? = some (so, .inr (4, [.ref va, .ref pa, .ref ne, .ref ol, .int (nI ct)]))) (he : ex ≤ 1000) (hc : ct ≤ 400) : go_Fn yX8_verdict cX8_verdict 1 (some .int) 2 40 G [.ref me] rs (some (.int (if vi = true then 2 else if sl = true ∧ ct ≤ ex then 1 else 0))) rs := by
  refine go_Fn_of (by decide) (Nat.le_of_ble_eq_true rfl) (fun X C E => ?_)
  show go_Go X (0, 0) rs [(0, .ref me)] [] 0
  refine go_aload_n C dX8_verdict_0 0 rfl rfl ?_
  refine go_get C (v := .int (go_b (vi))) fl_X8_93 dX8_verdict_1 p0 hp0 rfl ?_
  refine go_if_eqB C 9 dX8_verdict_4 (by decide) (fun c_4 => ?_) (fun c_4 => ?_)
  · refine go_aload_n C dX8_verdict_9 0 rfl rfl ?_
    refine go_get C (v := .int (go_b (sl))) fl_X8_89 dX8_verdict_10 p0 hp0 rfl ?_
    refine go_if_eqB C 27 dX8_verdict_13 (by decide) (fun c_13 => ?_) (fun c_13 => ?_)
    · refine go_iconst C (0) dX8_verdict_27 (by decide) ?_
      exact go_iret C E dX8_verdict_28 (by first | (simp_all; done) | (simp_all; omega)) rfl
    · refine go_aload_n C dX8_verdict_16 0 rfl rfl ?_
      refine go_cV C (c_X8_allExpanded G rs p0 p1 me fi ak bl ru iv ma so tr be af fo sl vi om ex va pa ne ol ct hp0 hp1 (by omega) (by omega)) ml_X8_160 mc_X8_allExpanded dX8_verdict_17 [] rfl rfl p0 hp0 rfl rfl ⟨Nat.le_of_ble_eq_true rfl, Nat.le_of_ble_eq_true rfl, Nat.zero_le _, Nat.zero_le _, Nat.le_of_ble_eq_true rfl⟩ [.int (go_b (decide (ct ≤ ex)))] rfl ?_
      refine go_if_eqB C 27 dX8_verdict_20 (by decide) (fun c_20 => ?_) (fun c_20 => ?_)
      · refine go_iconst C (0) dX8_verdict_27 (by decide) ?_
        exact go_iret C E dX8_verdict_28 (by first | (simp_all; done) | (simp_all; omega)) rfl
      · refine go_iconst C (1) dX8_verdict_23 (by decide) ?_
        refine go_goto C 28 dX8_verdict_24 (by decide) ?_
        exact go_iret C E dX8_verdict_28 (by first | (simp_all; done) | (simp_all; omega)) rfl
  · refine go_iconst C (2) dX8_verdict_7 (by decide) ?_
    exact go_iret C E dX8_verdict_8 (by first | (simp_all; done) | (simp_all; omega)) rfl
set_option maxHeartbeats 4000000 in
set_option maxRecDepth 100000 in
theorem c_X8_stateCount (G : go_G) (rs : va_W) (p0 : Nat) (p1 : Nat) (me : Nat) (fi : Nat) (ak : Nat) (bl : Nat) (ru : Nat) (iv : Nat) (ma : Nat) (so : Nat) (tr : Nat) (be : Nat) (af : Nat) (fo : Nat) (sl : Bool) (vi : Bool) (om : Bool) (ex : Nat) (va : Nat) (pa : Nat) (ne : Nat) (ol : Nat) (ct : Nat) (hp0 : rs[p0]? = some (me, .inr (7, [.ref fi, .ref ak, .ref bl, .ref ru, .ref iv, .ref ma, .ref so, .ref tr, .ref be, .ref af, .ref fo, .int (go_b (sl)), .int (go_b (vi)), .int (go_b (om)), .int (nI ex)]))) (hp1 : rs[p1]? = some (so, .inr (4, [.ref va, .ref pa, .ref ne, .ref ol, .int (nI ct)])))  : go_Fn yX8_stateCount cX8_stateCount 1 (some .int) 1 20 G [.ref me] rs (some (.int (nI ct))) rs := by
  refine go_Fn_of (by decide) (Nat.le_of_ble_eq_true rfl) (fun X C E => ?_)
  show go_Go X (0, 0) rs [(0, .ref me)] [] 0
  refine go_aload_n C dX8_stateCount_0 0 rfl rfl ?_
  refine go_get C (v := .ref so) fl_X8_47 dX8_stateCount_1 p0 hp0 rfl ?_
  refine go_cV C (c_X4_count G rs p1 so va pa ne ol ct hp1 ) ml_X8_166 mc_X4_count dX8_stateCount_4 [] rfl rfl p1 hp1 rfl rfl ⟨Nat.le_of_ble_eq_true rfl, Nat.le_of_ble_eq_true rfl, Nat.zero_le _, Nat.zero_le _, Nat.le_of_ble_eq_true rfl⟩ [.int (nI ct)] rfl ?_
  exact go_iret C E dX8_stateCount_7 rfl rfl
set_option maxHeartbeats 4000000 in
set_option maxRecDepth 100000 in
theorem c_X8_traceLen (G : go_G) (rs : va_W) (p0 : Nat) (p1 : Nat) (me : Nat) (fi : Nat) (ak : Nat) (bl : Nat) (ru : Nat) (iv : Nat) (ma : Nat) (so : Nat) (tr : Nat) (be : Nat) (af : Nat) (fo : Nat) (sl : Bool) (vi : Bool) (om : Bool) (ex : Nat) (wy : Nat) (fd : Nat) (tv : Nat) (sp : Nat) (hp0 : rs[p0]? = some (me, .inr (7, [.ref fi, .ref ak, .ref bl, .ref ru, .ref iv, .ref ma, .ref so, .ref tr, .ref be, .ref af, .ref fo, .int (go_b (sl)), .int (go_b (vi)), .int (go_b (om)), .int (nI ex)]))) (hp1 : rs[p1]? = some (tr, .inr (5, [.ref wy, .ref fd, .ref tv, .int (nI sp)])))  : go_Fn yX8_traceLen cX8_traceLen 1 (some .int) 1 20 G [.ref me] rs (some (.int (if vi = true then nI sp else -1))) rs := by
  refine go_Fn_of (by decide) (Nat.le_of_ble_eq_true rfl) (fun X C E => ?_)
  show go_Go X (0, 0) rs [(0, .ref me)] [] 0
  refine go_aload_n C dX8_traceLen_0 0 rfl rfl ?_
  refine go_get C (v := .int (go_b (vi))) fl_X8_93 dX8_traceLen_1 p0 hp0 rfl ?_
  refine go_if_eqB C 17 dX8_traceLen_4 (by decide) (fun c_4 => ?_) (fun c_4 => ?_)
  · refine go_iconst C ((-1)) dX8_traceLen_17 (by decide) ?_
    exact go_iret C E dX8_traceLen_18 (by simp [c_4]) rfl
  · refine go_aload_n C dX8_traceLen_7 0 rfl rfl ?_
    refine go_get C (v := .ref tr) fl_X8_54 dX8_traceLen_8 p0 hp0 rfl ?_
    refine go_cV C (c_X5_steps G rs p1 tr wy fd tv sp hp1 ) ml_X8_167 mc_X5_steps dX8_traceLen_11 [] rfl rfl p1 hp1 rfl rfl ⟨Nat.le_of_ble_eq_true rfl, Nat.le_of_ble_eq_true rfl, Nat.zero_le _, Nat.zero_le _, Nat.le_of_ble_eq_true rfl⟩ [.int (nI sp)] rfl ?_
    refine go_goto C 18 dX8_traceLen_14 (by decide) ?_
    exact go_iret C E dX8_traceLen_18 (by simp [c_4]) rfl
set_option maxHeartbeats 4000000 in
set_option maxRecDepth 100000 in
theorem c_X8_traceRule (G : go_G) (rs : va_W) (p0 : Nat) (p1 : Nat) (p2 : Nat) (me : Nat) (fi : Nat) (ak : Nat) (bl : Nat) (ru : Nat) (iv : Nat) (ma : Nat) (so : Nat) (tr : Nat) (be : Nat) (af : Nat) (fo : Nat) (sl : Bool) (vi : Bool) (om : Bool) (ex : Nat) (wy : Nat) (fd : Nat) (tv : Nat) (sp : Nat) (Df : Nat → Int32) (i : Int32) (hp0 : rs[p0]? = some (me, .inr (7, [.ref fi, .ref ak, .ref bl, .ref ru, .ref iv, .ref ma, .ref so, .ref tr, .ref be, .ref af, .ref fo, .int (go_b (sl)), .int (go_b (vi)), .int (go_b (om)), .int (nI ex)]))) (hp1 : rs[p1]? = some (tr, .inr (5, [.ref wy, .ref fd, .ref tv, .int (nI sp)]))) (hp2 : rs[p2]? = some (fd, .inl (G.2.1, 400, .inl Df))) (hs : sp < 400) : go_Fn yX8_traceRule cX8_traceRule 2 (some .int) 1 21 G [.ref me, .int i] rs (some (.int (if vi = true then pc_ra sp Df i else -1))) rs := by
  refine go_Fn_of (by decide) (Nat.le_of_ble_eq_true rfl) (fun X C E => ?_)
  show go_Go X (0, 0) rs [(0, .ref me), (1, .int i)] [] 0
  refine go_aload_n C dX8_traceRule_0 0 rfl rfl ?_
  refine go_get C (v := .int (go_b (vi))) fl_X8_93 dX8_traceRule_1 p0 hp0 rfl ?_
  refine go_if_eqB C 18 dX8_traceRule_4 (by decide) (fun c_4 => ?_) (fun c_4 => ?_)
  · refine go_iconst C ((-1)) dX8_traceRule_18 (by decide) ?_
    exact go_iret C E dX8_traceRule_19 (by simp [c_4]) rfl
  · refine go_aload_n C dX8_traceRule_7 0 rfl rfl ?_
    refine go_get C (v := .ref tr) fl_X8_54 dX8_traceRule_8 p0 hp0 rfl ?_
    refine go_iload_n C dX8_traceRule_11 1 rfl rfl ?_
    refine go_cV C (c_X5_ruleAt G rs p1 p2 tr wy fd tv sp Df i hp1 hp2 (by omega)) ml_X8_170 mc_X5_ruleAt dX8_traceRule_12 [] rfl rfl p1 hp1 rfl rfl ⟨Nat.le_of_ble_eq_true rfl, Nat.le_of_ble_eq_true rfl, Nat.zero_le _, Nat.zero_le _, Nat.le_of_ble_eq_true rfl⟩ [.int (pc_ra sp Df i)] rfl ?_
    refine go_goto C 19 dX8_traceRule_15 (by decide) ?_
    exact go_iret C E dX8_traceRule_19 (by simp [c_4]) rfl
