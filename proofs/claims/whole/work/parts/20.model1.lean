set_option maxHeartbeats 4000000 in
set_option maxRecDepth 100000 in
theorem l_X9_init__2 {X : go_X} (G : go_G) (rs : va_W)  (mo : Nat) (mfi : Nat) (mbl : Nat) (mpb : Nat) (mru : Nat) (mle : Nat) (miv : Nat) (mst : Nat) (mpa : Nat) (mhe : Nat) (maf : Nat) (mno : Nat) (msk : Nat) (nr : Nat) (il : Nat) (ct : Nat) (ex : Nat) (br : Int32) (sl : Bool) (fu : Bool) (f0 : Nat → Int32) (Bf : Nat → Int32) (f1 : Nat → Int32)   {Rr : Option Value} {W1 : va_W}  (C : go_Cx X cX9_init_ RX9 none 2 0 0 0 0 G) (E : go_Ex X Rr W1) (K : go_Go X (0, 0) ((mo, .inr (8, [.ref mfi, .ref mbl, .ref mpb, .ref mru, .ref mle, .ref miv, .ref mst, .ref mpa, .ref mhe, .ref maf, .ref mno, .ref msk, .int (nI nr), .int (nI il), .int (nI ct), .int (nI ex), .int br, .int (go_b (sl)), .int (go_b (fu))])) :: (mfi, .inl (G.2.1, 6, .inl (pc_fill 6 0 f0))) :: (mbl, .inl (G.2.1, 6, .inl (pc_fill 6 0 Bf))) :: (mpb, .inl (G.2.1, 6, .inl (pc_fill 6 0 f1))) :: rs) [(0, .ref mo)] [] 35) : ∀ (n : Nat) (v : Nat) (hin : 6 < v + n) (hv : v ≤ 6), go_Go X (0, 0) ((mo, .inr (8, [.ref mfi, .ref mbl, .ref mpb, .ref mru, .ref mle, .ref miv, .ref mst, .ref mpa, .ref mhe, .ref maf, .ref mno, .ref msk, .int (nI nr), .int (nI il), .int (nI ct), .int (nI ex), .int br, .int (go_b (sl)), .int (go_b (fu))])) :: (mfi, .inl (G.2.1, 6, .inl (pc_fill v 0 f0))) :: (mbl, .inl (G.2.1, 6, .inl (pc_fill v 0 Bf))) :: (mpb, .inl (G.2.1, 6, .inl (pc_fill v 0 f1))) :: rs) [(0, .ref mo), (1, .int (nI v))] [] 2 := by
  intro n
  induction n with
  | zero => intro v hin hv; omega
  | succ n ih =>
    intro v hin hv
    refine go_iload_n C dX9_init__2 1 rfl rfl ?_
    refine go_bipush C (6) dX9_init__3 (by decide) ?_
    refine go_icmp_geN (a := v) (b := 6) C 35 dX9_init__5 (by decide) (by omega) (by omega) (fun c_5 => ?_) (fun c_5 => ?_)
    · refine go_lv [(0, .ref mo)] [0] rfl ?_
      refine go_we ((mo, .inr (8, [.ref mfi, .ref mbl, .ref mpb, .ref mru, .ref mle, .ref miv, .ref mst, .ref mpa, .ref mhe, .ref maf, .ref mno, .ref msk, .int (nI nr), .int (nI il), .int (nI ct), .int (nI ex), .int br, .int (go_b (sl)), .int (go_b (fu))])) :: (mfi, .inl (G.2.1, 6, .inl (pc_fill 6 0 f0))) :: (mbl, .inl (G.2.1, 6, .inl (pc_fill 6 0 Bf))) :: (mpb, .inl (G.2.1, 6, .inl (pc_fill 6 0 f1))) :: rs) (by rw [show v = 6 by omega]) ?_
      exact K
    · refine go_aload_n C dX9_init__8 0 rfl rfl ?_
      refine go_get C (v := .ref mfi) fl_X9_7 dX9_init__9 0 rfl rfl ?_
      refine go_iload_n C dX9_init__12 1 rfl rfl ?_
      refine go_iconst C (0) dX9_init__13 (by decide) ?_
      refine go_iast C dX9_init__14 1 rfl (v) rfl (by omega) (by decide) ((mo, .inr (8, [.ref mfi, .ref mbl, .ref mpb, .ref mru, .ref mle, .ref miv, .ref mst, .ref mpa, .ref mhe, .ref maf, .ref mno, .ref msk, .int (nI nr), .int (nI il), .int (nI ct), .int (nI ex), .int br, .int (go_b (sl)), .int (go_b (fu))])) :: (mfi, .inl (G.2.1, 6, .inl (upd (pc_fill v 0 f0) v 0))) :: (mbl, .inl (G.2.1, 6, .inl (pc_fill v 0 Bf))) :: (mpb, .inl (G.2.1, 6, .inl (pc_fill v 0 f1))) :: rs) rfl ?_
      refine go_aload_n C dX9_init__15 0 rfl rfl ?_
      refine go_get C (v := .ref mbl) fl_X9_13 dX9_init__16 0 rfl rfl ?_
      refine go_iload_n C dX9_init__19 1 rfl rfl ?_
      refine go_iconst C (0) dX9_init__20 (by decide) ?_
      refine go_iast C dX9_init__21 2 rfl (v) rfl (by omega) (by decide) ((mo, .inr (8, [.ref mfi, .ref mbl, .ref mpb, .ref mru, .ref mle, .ref miv, .ref mst, .ref mpa, .ref mhe, .ref maf, .ref mno, .ref msk, .int (nI nr), .int (nI il), .int (nI ct), .int (nI ex), .int br, .int (go_b (sl)), .int (go_b (fu))])) :: (mfi, .inl (G.2.1, 6, .inl (upd (pc_fill v 0 f0) v 0))) :: (mbl, .inl (G.2.1, 6, .inl (upd (pc_fill v 0 Bf) v 0))) :: (mpb, .inl (G.2.1, 6, .inl (pc_fill v 0 f1))) :: rs) rfl ?_
      refine go_aload_n C dX9_init__22 0 rfl rfl ?_
      refine go_get C (v := .ref mpb) fl_X9_16 dX9_init__23 0 rfl rfl ?_
      refine go_iload_n C dX9_init__26 1 rfl rfl ?_
      refine go_iconst C (0) dX9_init__27 (by decide) ?_
      refine go_iast C dX9_init__28 3 rfl (v) rfl (by omega) (by decide) ((mo, .inr (8, [.ref mfi, .ref mbl, .ref mpb, .ref mru, .ref mle, .ref miv, .ref mst, .ref mpa, .ref mhe, .ref maf, .ref mno, .ref msk, .int (nI nr), .int (nI il), .int (nI ct), .int (nI ex), .int br, .int (go_b (sl)), .int (go_b (fu))])) :: (mfi, .inl (G.2.1, 6, .inl (upd (pc_fill v 0 f0) v 0))) :: (mbl, .inl (G.2.1, 6, .inl (upd (pc_fill v 0 Bf) v 0))) :: (mpb, .inl (G.2.1, 6, .inl (upd (pc_fill v 0 f1) v 0))) :: rs) rfl ?_
      refine go_we ((mo, .inr (8, [.ref mfi, .ref mbl, .ref mpb, .ref mru, .ref mle, .ref miv, .ref mst, .ref mpa, .ref mhe, .ref maf, .ref mno, .ref msk, .int (nI nr), .int (nI il), .int (nI ct), .int (nI ex), .int br, .int (go_b (sl)), .int (go_b (fu))])) :: (mfi, .inl (G.2.1, 6, .inl (pc_fill (v + 1) 0 f0))) :: (mbl, .inl (G.2.1, 6, .inl (pc_fill (v + 1) 0 Bf))) :: (mpb, .inl (G.2.1, 6, .inl (pc_fill (v + 1) 0 f1))) :: rs) (by simp only [pc_fill_s]) ?_
      refine go_iinc C (nI (v + 1)) [(0, .ref mo), (1, .int (nI (v + 1)))] dX9_init__29 1 [1, 0] rfl (nI_add v 1) (by decide) rfl ?_
      refine go_goto C 2 dX9_init__32 (by decide) ?_
      exact ih (v + 1) (by omega) (by omega)
set_option maxHeartbeats 4000000 in
set_option maxRecDepth 100000 in
theorem c_X9_init_ (G : go_G) (rs : va_W)  (mo : Nat) (mfi : Nat) (mbl : Nat) (mpb : Nat) (mru : Nat) (mle : Nat) (miv : Nat) (mst : Nat) (mpa : Nat) (mhe : Nat) (maf : Nat) (mno : Nat) (msk : Nat) (nr : Nat) (il : Nat) (ct : Nat) (ex : Nat) (br : Int32) (sl : Bool) (fu : Bool) (f0 : Nat → Int32) (Bf : Nat → Int32) (f1 : Nat → Int32)   : go_Fn yX9_init_ cX9_init_ 2 none 0 0 G [.ref mo] ((mo, .inr (8, [.ref mfi, .ref mbl, .ref mpb, .ref mru, .ref mle, .ref miv, .ref mst, .ref mpa, .ref mhe, .ref maf, .ref mno, .ref msk, .int (nI nr), .int (nI il), .int (nI ct), .int (nI ex), .int br, .int (go_b (sl)), .int (go_b (fu))])) :: (mfi, .inl (G.2.1, 6, .inl f0)) :: (mbl, .inl (G.2.1, 6, .inl Bf)) :: (mpb, .inl (G.2.1, 6, .inl f1)) :: rs) (none) ((mo, .inr (8, [.ref mfi, .ref mbl, .ref mpb, .ref mru, .ref mle, .ref miv, .ref mst, .ref mpa, .ref mhe, .ref maf, .ref mno, .ref msk, .int (nI 0), .int (nI 0), .int (nI 0), .int (nI 0), .int (-1), .int (go_b (false)), .int (go_b (false))])) :: (mfi, .inl (G.2.1, 6, .inl (pc_fill 6 0 f0))) :: (mbl, .inl (G.2.1, 6, .inl (pc_fill 6 0 Bf))) :: (mpb, .inl (G.2.1, 6, .inl (pc_fill 6 0 f1))) :: rs) := by
  refine go_Fn_of (by decide) (Nat.le_of_ble_eq_true rfl) (fun X C E => ?_)
  show go_Go X (0, 0) ((mo, .inr (8, [.ref mfi, .ref mbl, .ref mpb, .ref mru, .ref mle, .ref miv, .ref mst, .ref mpa, .ref mhe, .ref maf, .ref mno, .ref msk, .int (nI nr), .int (nI il), .int (nI ct), .int (nI ex), .int br, .int (go_b (sl)), .int (go_b (fu))])) :: (mfi, .inl (G.2.1, 6, .inl f0)) :: (mbl, .inl (G.2.1, 6, .inl Bf)) :: (mpb, .inl (G.2.1, 6, .inl f1)) :: rs) [(0, .ref mo)] [] 0
  refine go_iconst C (0) dX9_init__0 (by decide) ?_
  refine go_we ((mo, .inr (8, [.ref mfi, .ref mbl, .ref mpb, .ref mru, .ref mle, .ref miv, .ref mst, .ref mpa, .ref mhe, .ref maf, .ref mno, .ref msk, .int (nI nr), .int (nI il), .int (nI ct), .int (nI ex), .int br, .int (go_b (sl)), .int (go_b (fu))])) :: (mfi, .inl (G.2.1, 6, .inl (pc_fill 0 0 f0))) :: (mbl, .inl (G.2.1, 6, .inl (pc_fill 0 0 Bf))) :: (mpb, .inl (G.2.1, 6, .inl (pc_fill 0 0 f1))) :: rs) (by simp only [pc_fill_0]) ?_
  refine go_istore_n C [(0, .ref mo), (1, .int 0)] dX9_init__1 [1, 0] rfl (by decide) rfl ?_
  refine l_X9_init__2 G rs  mo mfi mbl mpb mru mle miv mst mpa mhe maf mno msk nr il ct ex br sl fu f0 Bf f1    C E ?_ 7 0 (by omega) (by omega)
  show go_Go X (0, 0) ((mo, .inr (8, [.ref mfi, .ref mbl, .ref mpb, .ref mru, .ref mle, .ref miv, .ref mst, .ref mpa, .ref mhe, .ref maf, .ref mno, .ref msk, .int (nI nr), .int (nI il), .int (nI ct), .int (nI ex), .int br, .int (go_b (sl)), .int (go_b (fu))])) :: (mfi, .inl (G.2.1, 6, .inl (pc_fill 6 0 f0))) :: (mbl, .inl (G.2.1, 6, .inl (pc_fill 6 0 Bf))) :: (mpb, .inl (G.2.1, 6, .inl (pc_fill 6 0 f1))) :: rs) [(0, .ref mo)] [] 35
  refine go_aload_n C dX9_init__35 0 rfl rfl ?_
  refine go_iconst C (0) dX9_init__36 (by decide) ?_
  refine go_put C fp_X9_50 dX9_init__37 0 rfl rfl rfl (Nat.le_of_ble_eq_true rfl) ((mo, .inr (8, [.ref mfi, .ref mbl, .ref mpb, .ref mru, .ref mle, .ref miv, .ref mst, .ref mpa, .ref mhe, .ref maf, .ref mno, .ref msk, .int 0, .int (nI il), .int (nI ct), .int (nI ex), .int br, .int (go_b (sl)), .int (go_b (fu))])) :: (mfi, .inl (G.2.1, 6, .inl (pc_fill 6 0 f0))) :: (mbl, .inl (G.2.1, 6, .inl (pc_fill 6 0 Bf))) :: (mpb, .inl (G.2.1, 6, .inl (pc_fill 6 0 f1))) :: rs) rfl ?_
  refine go_aload_n C dX9_init__40 0 rfl rfl ?_
  refine go_iconst C (0) dX9_init__41 (by decide) ?_
  refine go_put C fp_X9_53 dX9_init__42 0 rfl rfl rfl (Nat.le_of_ble_eq_true rfl) ((mo, .inr (8, [.ref mfi, .ref mbl, .ref mpb, .ref mru, .ref mle, .ref miv, .ref mst, .ref mpa, .ref mhe, .ref maf, .ref mno, .ref msk, .int 0, .int 0, .int (nI ct), .int (nI ex), .int br, .int (go_b (sl)), .int (go_b (fu))])) :: (mfi, .inl (G.2.1, 6, .inl (pc_fill 6 0 f0))) :: (mbl, .inl (G.2.1, 6, .inl (pc_fill 6 0 Bf))) :: (mpb, .inl (G.2.1, 6, .inl (pc_fill 6 0 f1))) :: rs) rfl ?_
  refine go_aload_n C dX9_init__45 0 rfl rfl ?_
  refine go_iconst C (0) dX9_init__46 (by decide) ?_
  refine go_put C fp_X9_56 dX9_init__47 0 rfl rfl rfl (Nat.le_of_ble_eq_true rfl) ((mo, .inr (8, [.ref mfi, .ref mbl, .ref mpb, .ref mru, .ref mle, .ref miv, .ref mst, .ref mpa, .ref mhe, .ref maf, .ref mno, .ref msk, .int 0, .int 0, .int 0, .int (nI ex), .int br, .int (go_b (sl)), .int (go_b (fu))])) :: (mfi, .inl (G.2.1, 6, .inl (pc_fill 6 0 f0))) :: (mbl, .inl (G.2.1, 6, .inl (pc_fill 6 0 Bf))) :: (mpb, .inl (G.2.1, 6, .inl (pc_fill 6 0 f1))) :: rs) rfl ?_
  refine go_aload_n C dX9_init__50 0 rfl rfl ?_
  refine go_iconst C (0) dX9_init__51 (by decide) ?_
  refine go_put C fp_X9_59 dX9_init__52 0 rfl rfl rfl (Nat.le_of_ble_eq_true rfl) ((mo, .inr (8, [.ref mfi, .ref mbl, .ref mpb, .ref mru, .ref mle, .ref miv, .ref mst, .ref mpa, .ref mhe, .ref maf, .ref mno, .ref msk, .int 0, .int 0, .int 0, .int 0, .int br, .int (go_b (sl)), .int (go_b (fu))])) :: (mfi, .inl (G.2.1, 6, .inl (pc_fill 6 0 f0))) :: (mbl, .inl (G.2.1, 6, .inl (pc_fill 6 0 Bf))) :: (mpb, .inl (G.2.1, 6, .inl (pc_fill 6 0 f1))) :: rs) rfl ?_
  refine go_aload_n C dX9_init__55 0 rfl rfl ?_
  refine go_iconst C ((-1)) dX9_init__56 (by decide) ?_
  refine go_put C fp_X9_46 dX9_init__57 0 rfl rfl rfl (Nat.le_of_ble_eq_true rfl) ((mo, .inr (8, [.ref mfi, .ref mbl, .ref mpb, .ref mru, .ref mle, .ref miv, .ref mst, .ref mpa, .ref mhe, .ref maf, .ref mno, .ref msk, .int 0, .int 0, .int 0, .int 0, .int (-1), .int (go_b (sl)), .int (go_b (fu))])) :: (mfi, .inl (G.2.1, 6, .inl (pc_fill 6 0 f0))) :: (mbl, .inl (G.2.1, 6, .inl (pc_fill 6 0 Bf))) :: (mpb, .inl (G.2.1, 6, .inl (pc_fill 6 0 f1))) :: rs) rfl ?_
  refine go_aload_n C dX9_init__60 0 rfl rfl ?_
  refine go_iconst C (0) dX9_init__61 (by decide) ?_
  refine go_se [.int (go_b (false)), .ref mo] rfl ?_
  refine go_put C fp_X9_62 dX9_init__62 0 rfl (go_bn _) (go_bf _) (Nat.le_of_ble_eq_true rfl) ((mo, .inr (8, [.ref mfi, .ref mbl, .ref mpb, .ref mru, .ref mle, .ref miv, .ref mst, .ref mpa, .ref mhe, .ref maf, .ref mno, .ref msk, .int 0, .int 0, .int 0, .int 0, .int (-1), .int (go_b (false)), .int (go_b (fu))])) :: (mfi, .inl (G.2.1, 6, .inl (pc_fill 6 0 f0))) :: (mbl, .inl (G.2.1, 6, .inl (pc_fill 6 0 Bf))) :: (mpb, .inl (G.2.1, 6, .inl (pc_fill 6 0 f1))) :: rs) rfl ?_
  refine go_aload_n C dX9_init__65 0 rfl rfl ?_
  refine go_iconst C (0) dX9_init__66 (by decide) ?_
  refine go_se [.int (go_b (false)), .ref mo] rfl ?_
  refine go_put C fp_X9_66 dX9_init__67 0 rfl (go_bn _) (go_bf _) (Nat.le_of_ble_eq_true rfl) ((mo, .inr (8, [.ref mfi, .ref mbl, .ref mpb, .ref mru, .ref mle, .ref miv, .ref mst, .ref mpa, .ref mhe, .ref maf, .ref mno, .ref msk, .int 0, .int 0, .int 0, .int 0, .int (-1), .int (go_b (false)), .int (go_b (false))])) :: (mfi, .inl (G.2.1, 6, .inl (pc_fill 6 0 f0))) :: (mbl, .inl (G.2.1, 6, .inl (pc_fill 6 0 Bf))) :: (mpb, .inl (G.2.1, 6, .inl (pc_fill 6 0 f1))) :: rs) rfl ?_
  exact go_vret C E dX9_init__70 rfl rfl
set_option maxHeartbeats 4000000 in
set_option maxRecDepth 100000 in
theorem c_X9_isVariable (G : go_G) (rs : va_W)  (v : Int32)   : go_Fn yX9_isVariable cX9_isVariable 1 (some .boolean) 0 0 G [.int v] rs (some (.int (go_b (pc_isV v)))) rs := by
  refine go_Fn_of (by decide) (Nat.le_of_ble_eq_true rfl) (fun X C E => ?_)
  show go_Go X (0, 0) rs [(0, .int v)] [] 0
  refine go_iload_n C dX9_isVariable_0 0 rfl rfl ?_
  refine go_if_lt C 14 dX9_isVariable_1 (by decide) (fun c_1 => ?_) (fun c_1 => ?_)
  · refine go_iconst C (0) dX9_isVariable_14 (by decide) ?_
    refine go_se [.int (go_b (false))] rfl ?_
    exact go_zret C E dX9_isVariable_15 (go_bn _) (by first | contradiction | rfl | (simp [pc_isV, *]; done) | (rw [decide_eq_true (by omega)]; done) | (rw [decide_eq_false (by omega)]; done) | (simp_all [pc_isV]; done) | (simp [pc_isV]; omega) | (simp_all [pc_isV]; omega) | omega) rfl
  · refine go_iload_n C dX9_isVariable_4 0 rfl rfl ?_
    refine go_bipush C (6) dX9_isVariable_5 (by decide) ?_
    refine go_icmp_ge C 14 dX9_isVariable_7 (by decide) (fun c_7 => ?_) (fun c_7 => ?_)
    · refine go_iconst C (0) dX9_isVariable_14 (by decide) ?_
      refine go_se [.int (go_b (false))] rfl ?_
      exact go_zret C E dX9_isVariable_15 (go_bn _) (by first | contradiction | rfl | (simp [pc_isV, *]; done) | (rw [decide_eq_true (by omega)]; done) | (rw [decide_eq_false (by omega)]; done) | (simp_all [pc_isV]; done) | (simp [pc_isV]; omega) | (simp_all [pc_isV]; omega) | omega) rfl
    · refine go_iconst C (1) dX9_isVariable_10 (by decide) ?_
      refine go_goto C 15 dX9_isVariable_11 (by decide) ?_
      refine go_se [.int (go_b (true))] rfl ?_
      exact go_zret C E dX9_isVariable_15 (go_bn _) (by first | contradiction | rfl | (simp [pc_isV, *]; done) | (rw [decide_eq_true (by omega)]; done) | (rw [decide_eq_false (by omega)]; done) | (simp_all [pc_isV]; done) | (simp [pc_isV]; omega) | (simp_all [pc_isV]; omega) | omega) rfl
set_option maxHeartbeats 4000000 in
set_option maxRecDepth 100000 in
theorem c_X9_setInit (G : go_G) (rs : va_W) (p0 : Nat) (mo : Nat) (mfi : Nat) (mbl : Nat) (mpb : Nat) (mru : Nat) (mle : Nat) (miv : Nat) (mst : Nat) (mpa : Nat) (mhe : Nat) (maf : Nat) (mno : Nat) (msk : Nat) (nr : Nat) (il : Nat) (ct : Nat) (ex : Nat) (br : Int32) (sl : Bool) (fu : Bool) (f0 : Nat → Int32) (v : Int32) (x : Int32) (hp0 : rs[p0]? = some (mo, .inr (8, [.ref mfi, .ref mbl, .ref mpb, .ref mru, .ref mle, .ref miv, .ref mst, .ref mpa, .ref mhe, .ref maf, .ref mno, .ref msk, .int (nI nr), .int (nI il), .int (nI ct), .int (nI ex), .int br, .int (go_b (sl)), .int (go_b (fu))])))  : go_Fn yX9_setInit cX9_setInit 3 (some .int) 1 20 G [.ref mo, .int v, .int x] ((mfi, .inl (G.2.1, 6, .inl f0)) :: rs) (some (.int (if pc_isV v = true then (if sl = true then -2 else 0) else -1))) ((mfi, .inl (G.2.1, 6, .inl (if pc_isV v = true ∧ sl = false then upd f0 v.toNatClampNeg x else f0))) :: rs) := by
  refine go_Fn_of (by decide) (Nat.le_of_ble_eq_true rfl) (fun X C E => ?_)
  show go_Go X (0, 0) ((mfi, .inl (G.2.1, 6, .inl f0)) :: rs) [(0, .ref mo), (1, .int v), (2, .int x)] [] 0
  refine go_iload_n C dX9_setInit_0 1 rfl rfl ?_
  refine go_cS C (c_X9_isVariable G ((mfi, .inl (G.2.1, 6, .inl f0)) :: rs)  v  ) ml_X9_69 mc_X9_isVariable dX9_setInit_1 [] rfl rfl rfl ⟨Nat.le_of_ble_eq_true rfl, Nat.le_of_ble_eq_true rfl, Nat.zero_le _, Nat.zero_le _, Nat.le_of_ble_eq_true rfl⟩ [.int (go_b (pc_isV v))] rfl ?_
  refine go_if_neB C 9 dX9_setInit_4 (by decide) (fun c_4 => ?_) (fun c_4 => ?_)
  · refine go_aload_n C dX9_setInit_9 0 rfl rfl ?_
    refine go_get C (v := .int (go_b (sl))) fl_X9_62 dX9_setInit_10 (p0 + 1) hp0 rfl ?_
    refine go_if_eqB C 19 dX9_setInit_13 (by decide) (fun c_13 => ?_) (fun c_13 => ?_)
    · obtain ⟨hv1, hv2⟩ := pc_isV_nI c_4
      refine go_aload_n C dX9_setInit_19 0 rfl rfl ?_
      refine go_get C (v := .ref mfi) fl_X9_7 dX9_setInit_20 (p0 + 1) hp0 rfl ?_
      refine go_iload_n C dX9_setInit_23 1 rfl rfl ?_
      refine go_iload_n C dX9_setInit_24 2 rfl rfl ?_
      refine go_iast C dX9_setInit_25 0 rfl (v.toNatClampNeg) hv1 hv2 (by decide) ((mfi, .inl (G.2.1, 6, .inl (upd f0 v.toNatClampNeg x))) :: rs) rfl ?_
      refine go_iconst C (0) dX9_setInit_26 (by decide) ?_
      exact go_iret C E dX9_setInit_27 (by simp [c_4, c_13]) (by simp [c_4, c_13])
    · refine go_bipush C ((-2)) dX9_setInit_16 (by decide) ?_
      exact go_iret C E dX9_setInit_18 (by simp [c_4, c_13]) (by simp [c_4, c_13])
  · refine go_iconst C ((-1)) dX9_setInit_7 (by decide) ?_
    exact go_iret C E dX9_setInit_8 (by simp [c_4]) (by simp [c_4])
set_option maxHeartbeats 4000000 in
set_option maxRecDepth 100000 in
theorem c_X9_probeVar (G : go_G) (rs : va_W) (p0 : Nat) (mo : Nat) (mfi : Nat) (mbl : Nat) (mpb : Nat) (mru : Nat) (mle : Nat) (miv : Nat) (mst : Nat) (mpa : Nat) (mhe : Nat) (maf : Nat) (mno : Nat) (msk : Nat) (nr : Nat) (il : Nat) (ct : Nat) (ex : Nat) (br : Int32) (sl : Bool) (fu : Bool) (f0 : Nat → Int32) (v : Int32) (x : Int32) (hp0 : rs[p0]? = some (mo, .inr (8, [.ref mfi, .ref mbl, .ref mpb, .ref mru, .ref mle, .ref miv, .ref mst, .ref mpa, .ref mhe, .ref maf, .ref mno, .ref msk, .int (nI nr), .int (nI il), .int (nI ct), .int (nI ex), .int br, .int (go_b (sl)), .int (go_b (fu))])))  : go_Fn yX9_probeVar cX9_probeVar 3 (some .int) 1 20 G [.ref mo, .int v, .int x] ((mpb, .inl (G.2.1, 6, .inl f0)) :: rs) (some (.int (if pc_isV v = true then 0 else -1))) ((mpb, .inl (G.2.1, 6, .inl (if pc_isV v = true then upd f0 v.toNatClampNeg x else f0))) :: rs) := by
  refine go_Fn_of (by decide) (Nat.le_of_ble_eq_true rfl) (fun X C E => ?_)
  show go_Go X (0, 0) ((mpb, .inl (G.2.1, 6, .inl f0)) :: rs) [(0, .ref mo), (1, .int v), (2, .int x)] [] 0
  refine go_iload_n C dX9_probeVar_0 1 rfl rfl ?_
  refine go_cS C (c_X9_isVariable G ((mpb, .inl (G.2.1, 6, .inl f0)) :: rs)  v  ) ml_X9_69 mc_X9_isVariable dX9_probeVar_1 [] rfl rfl rfl ⟨Nat.le_of_ble_eq_true rfl, Nat.le_of_ble_eq_true rfl, Nat.zero_le _, Nat.zero_le _, Nat.le_of_ble_eq_true rfl⟩ [.int (go_b (pc_isV v))] rfl ?_
  refine go_if_neB C 9 dX9_probeVar_4 (by decide) (fun c_4 => ?_) (fun c_4 => ?_)
  · obtain ⟨hv1, hv2⟩ := pc_isV_nI c_4
    refine go_aload_n C dX9_probeVar_9 0 rfl rfl ?_
    refine go_get C (v := .ref mpb) fl_X9_16 dX9_probeVar_10 (p0 + 1) hp0 rfl ?_
    refine go_iload_n C dX9_probeVar_13 1 rfl rfl ?_
    refine go_iload_n C dX9_probeVar_14 2 rfl rfl ?_
    refine go_iast C dX9_probeVar_15 0 rfl (v.toNatClampNeg) hv1 hv2 (by decide) ((mpb, .inl (G.2.1, 6, .inl (upd f0 v.toNatClampNeg x))) :: rs) rfl ?_
    refine go_iconst C (0) dX9_probeVar_16 (by decide) ?_
    exact go_iret C E dX9_probeVar_17 (by simp [c_4]) (by simp [c_4])
  · refine go_iconst C ((-1)) dX9_probeVar_7 (by decide) ?_
    exact go_iret C E dX9_probeVar_8 (by simp [c_4]) (by simp [c_4])
set_option maxHeartbeats 4000000 in
set_option maxRecDepth 100000 in
theorem c_X9_setSymGroup (G : go_G) (rs : va_W) (p0 : Nat) (mo : Nat) (mfi : Nat) (mbl : Nat) (mpb : Nat) (mru : Nat) (mle : Nat) (miv : Nat) (mst : Nat) (mpa : Nat) (mhe : Nat) (maf : Nat) (mno : Nat) (msk : Nat) (nr : Nat) (il : Nat) (ct : Nat) (ex : Nat) (br : Int32) (sl : Bool) (fu : Bool) (Bf : Nat → Int32) (v : Int32) (g : Int32) (hp0 : rs[p0]? = some (mo, .inr (8, [.ref mfi, .ref mbl, .ref mpb, .ref mru, .ref mle, .ref miv, .ref mst, .ref mpa, .ref mhe, .ref maf, .ref mno, .ref msk, .int (nI nr), .int (nI il), .int (nI ct), .int (nI ex), .int br, .int (go_b (sl)), .int (go_b (fu))])))  : go_Fn yX9_setSymGroup cX9_setSymGroup 3 (some .int) 1 20 G [.ref mo, .int v, .int g] ((mbl, .inl (G.2.1, 6, .inl Bf)) :: rs) (some (.int (if pc_isV v = true ∧ ¬ g < 0 ∧ g ≤ 3 then (if sl = true then -2 else 0) else -1))) ((mbl, .inl (G.2.1, 6, .inl (if pc_isV v = true ∧ ¬ g < 0 ∧ g ≤ 3 ∧ sl = false then upd Bf v.toNatClampNeg g else Bf))) :: rs) := by
  refine go_Fn_of (by decide) (Nat.le_of_ble_eq_true rfl) (fun X C E => ?_)
  show go_Go X (0, 0) ((mbl, .inl (G.2.1, 6, .inl Bf)) :: rs) [(0, .ref mo), (1, .int v), (2, .int g)] [] 0
  refine go_iload_n C dX9_setSymGroup_0 1 rfl rfl ?_
  refine go_cS C (c_X9_isVariable G ((mbl, .inl (G.2.1, 6, .inl Bf)) :: rs)  v  ) ml_X9_69 mc_X9_isVariable dX9_setSymGroup_1 [] rfl rfl rfl ⟨Nat.le_of_ble_eq_true rfl, Nat.le_of_ble_eq_true rfl, Nat.zero_le _, Nat.zero_le _, Nat.le_of_ble_eq_true rfl⟩ [.int (go_b (pc_isV v))] rfl ?_
  refine go_if_eqB C 16 dX9_setSymGroup_4 (by decide) (fun c_4 => ?_) (fun c_4 => ?_)
  · refine go_iconst C ((-1)) dX9_setSymGroup_16 (by decide) ?_
    exact go_iret C E dX9_setSymGroup_17 (by first | (simp [c_4, c_8, c_13, c_22]; done) | (simp [c_4, c_8, c_13]; done) | (simp [c_4, c_8]; done) | (simp [c_4]; done)) (by first | (simp [c_4, c_8, c_13, c_22]; done) | (simp [c_4, c_8, c_13]; done) | (simp [c_4, c_8]; done) | (simp [c_4]; done))
  · refine go_iload_n C dX9_setSymGroup_7 2 rfl rfl ?_
    refine go_if_lt C 16 dX9_setSymGroup_8 (by decide) (fun c_8 => ?_) (fun c_8 => ?_)
    · refine go_iconst C ((-1)) dX9_setSymGroup_16 (by decide) ?_
      exact go_iret C E dX9_setSymGroup_17 (by first | (simp [c_4, c_8, c_13, c_22]; done) | (simp [c_4, c_8, c_13]; done) | (simp [c_4, c_8]; done) | (simp [c_4]; done)) (by first | (simp [c_4, c_8, c_13, c_22]; done) | (simp [c_4, c_8, c_13]; done) | (simp [c_4, c_8]; done) | (simp [c_4]; done))
    · refine go_iload_n C dX9_setSymGroup_11 2 rfl rfl ?_
      refine go_iconst C (3) dX9_setSymGroup_12 (by decide) ?_
      refine go_icmp_le C 18 dX9_setSymGroup_13 (by decide) (fun c_13 => ?_) (fun c_13 => ?_)
      · refine go_aload_n C dX9_setSymGroup_18 0 rfl rfl ?_
        refine go_get C (v := .int (go_b (sl))) fl_X9_62 dX9_setSymGroup_19 (p0 + 1) hp0 rfl ?_
        refine go_if_eqB C 28 dX9_setSymGroup_22 (by decide) (fun c_22 => ?_) (fun c_22 => ?_)
        · obtain ⟨hv1, hv2⟩ := pc_isV_nI c_4
          refine go_aload_n C dX9_setSymGroup_28 0 rfl rfl ?_
          refine go_get C (v := .ref mbl) fl_X9_13 dX9_setSymGroup_29 (p0 + 1) hp0 rfl ?_
          refine go_iload_n C dX9_setSymGroup_32 1 rfl rfl ?_
          refine go_iload_n C dX9_setSymGroup_33 2 rfl rfl ?_
          refine go_iast C dX9_setSymGroup_34 0 rfl (v.toNatClampNeg) hv1 hv2 (by decide) ((mbl, .inl (G.2.1, 6, .inl (upd Bf v.toNatClampNeg g))) :: rs) rfl ?_
          refine go_iconst C (0) dX9_setSymGroup_35 (by decide) ?_
          exact go_iret C E dX9_setSymGroup_36 (by first | (simp [c_4, c_8, c_13, c_22]; done) | (simp [c_4, c_8, c_13]; done) | (simp [c_4, c_8]; done) | (simp [c_4]; done)) (by first | (simp [c_4, c_8, c_13, c_22]; done) | (simp [c_4, c_8, c_13]; done) | (simp [c_4, c_8]; done) | (simp [c_4]; done))
        · refine go_bipush C ((-2)) dX9_setSymGroup_25 (by decide) ?_
          exact go_iret C E dX9_setSymGroup_27 (by first | (simp [c_4, c_8, c_13, c_22]; done) | (simp [c_4, c_8, c_13]; done) | (simp [c_4, c_8]; done) | (simp [c_4]; done)) (by first | (simp [c_4, c_8, c_13, c_22]; done) | (simp [c_4, c_8, c_13]; done) | (simp [c_4, c_8]; done) | (simp [c_4]; done))
      · refine go_iconst C ((-1)) dX9_setSymGroup_16 (by decide) ?_
        exact go_iret C E dX9_setSymGroup_17 (by first | (simp [c_4, c_8, c_13, c_22]; done) | (simp [c_4, c_8, c_13]; done) | (simp [c_4, c_8]; done) | (simp [c_4]; done)) (by first | (simp [c_4, c_8, c_13, c_22]; done) | (simp [c_4, c_8, c_13]; done) | (simp [c_4, c_8]; done) | (simp [c_4]; done))
set_option maxHeartbeats 4000000 in
set_option maxRecDepth 100000 in
theorem c_X9_beginRule (G : go_G) (rs : va_W)  (mo : Nat) (mfi : Nat) (mbl : Nat) (mpb : Nat) (mru : Nat) (mle : Nat) (miv : Nat) (mst : Nat) (mpa : Nat) (mhe : Nat) (maf : Nat) (mno : Nat) (msk : Nat) (nr : Nat) (il : Nat) (ct : Nat) (ex : Nat) (br : Int32) (sl : Bool) (fu : Bool) (ln : Nat → Nat)  (hnr : nr ≤ 12) : go_Fn yX9_beginRule cX9_beginRule 1 (some .int) 0 0 G [.ref mo] ((mo, .inr (8, [.ref mfi, .ref mbl, .ref mpb, .ref mru, .ref mle, .ref miv, .ref mst, .ref mpa, .ref mhe, .ref maf, .ref mno, .ref msk, .int (nI nr), .int (nI il), .int (nI ct), .int (nI ex), .int br, .int (go_b (sl)), .int (go_b (fu))])) :: (mle, .inl (G.2.1, 12, .inl (pc_lf ln))) :: rs) (some (.int (if sl = true then -2 else if nr = 12 then -3 else nI nr))) ((mo, .inr (8, [.ref mfi, .ref mbl, .ref mpb, .ref mru, .ref mle, .ref miv, .ref mst, .ref mpa, .ref mhe, .ref maf, .ref mno, .ref msk, .int (nI (if sl = false ∧ ¬ nr = 12 then nr + 1 else nr)), .int (nI il), .int (nI ct), .int (nI ex), .int br, .int (go_b (sl)), .int (go_b (fu))])) :: (mle, .inl (G.2.1, 12, .inl (pc_lf (if sl = false ∧ ¬ nr = 12 then pc_ul ln nr 0 else ln)))) :: rs) := by
  refine go_Fn_of (by decide) (Nat.le_of_ble_eq_true rfl) (fun X C E => ?_)
  show go_Go X (0, 0) ((mo, .inr (8, [.ref mfi, .ref mbl, .ref mpb, .ref mru, .ref mle, .ref miv, .ref mst, .ref mpa, .ref mhe, .ref maf, .ref mno, .ref msk, .int (nI nr), .int (nI il), .int (nI ct), .int (nI ex), .int br, .int (go_b (sl)), .int (go_b (fu))])) :: (mle, .inl (G.2.1, 12, .inl (pc_lf ln))) :: rs) [(0, .ref mo)] [] 0
  refine go_aload_n C dX9_beginRule_0 0 rfl rfl ?_
  refine go_get C (v := .int (go_b (sl))) fl_X9_62 dX9_beginRule_1 0 rfl rfl ?_
  refine go_if_eqB C 10 dX9_beginRule_4 (by decide) (fun c_4 => ?_) (fun c_4 => ?_)
  · refine go_aload_n C dX9_beginRule_10 0 rfl rfl ?_
    refine go_get C (v := .int (nI nr)) fl_X9_50 dX9_beginRule_11 0 rfl rfl ?_
    refine go_bipush C (12) dX9_beginRule_14 (by decide) ?_
    refine go_icmp_neN (a := nr) (b := 12) C 22 dX9_beginRule_16 (by decide) (by omega) (by omega) (fun c_16 => ?_) (fun c_16 => ?_)
    · refine go_aload_n C dX9_beginRule_22 0 rfl rfl ?_
      refine go_get C (v := .ref mle) fl_X9_22 dX9_beginRule_23 0 rfl rfl ?_
      refine go_aload_n C dX9_beginRule_26 0 rfl rfl ?_
      refine go_get C (v := .int (nI nr)) fl_X9_50 dX9_beginRule_27 0 rfl rfl ?_
      refine go_iconst C (0) dX9_beginRule_30 (by decide) ?_
      refine go_iast C dX9_beginRule_31 1 rfl (nr) rfl (by omega) (by decide) ((mo, .inr (8, [.ref mfi, .ref mbl, .ref mpb, .ref mru, .ref mle, .ref miv, .ref mst, .ref mpa, .ref mhe, .ref maf, .ref mno, .ref msk, .int (nI nr), .int (nI il), .int (nI ct), .int (nI ex), .int br, .int (go_b (sl)), .int (go_b (fu))])) :: (mle, .inl (G.2.1, 12, .inl (upd (pc_lf ln) nr 0))) :: rs) rfl ?_
      refine go_aload_n C dX9_beginRule_32 0 rfl rfl ?_
      refine go_dup C dX9_beginRule_33 rfl ?_
      refine go_get C (v := .int (nI nr)) fl_X9_50 dX9_beginRule_34 0 rfl rfl ?_
      refine go_iconst C (1) dX9_beginRule_37 (by decide) ?_
      refine go_iadd C (z := nI (nr + 1)) dX9_beginRule_38 (nI_add nr 1) ?_
      refine go_put C fp_X9_50 dX9_beginRule_39 0 rfl rfl rfl (Nat.le_of_ble_eq_true rfl) ((mo, .inr (8, [.ref mfi, .ref mbl, .ref mpb, .ref mru, .ref mle, .ref miv, .ref mst, .ref mpa, .ref mhe, .ref maf, .ref mno, .ref msk, .int (nI (nr + 1)), .int (nI il), .int (nI ct), .int (nI ex), .int br, .int (go_b (sl)), .int (go_b (fu))])) :: (mle, .inl (G.2.1, 12, .inl (upd (pc_lf ln) nr 0))) :: rs) rfl ?_
      refine go_aload_n C dX9_beginRule_42 0 rfl rfl ?_
      refine go_get C (v := .int (nI (nr + 1))) fl_X9_50 dX9_beginRule_43 0 rfl rfl ?_
      refine go_iconst C (1) dX9_beginRule_46 (by decide) ?_
      refine go_isub C (z := nI ((nr + 1) - 1)) dX9_beginRule_47 (pk_sub (a := nr + 1) (b := 1) (by omega)) ?_
      exact go_iret C E dX9_beginRule_48 (by first | (simp [c_4, c_16]; done) | (simp [c_4]; done)) (by first | (simp [c_4, c_16, pc_ul_eq ln nr 0 0 rfl]; done) | (simp [c_4]; done))
    · refine go_bipush C ((-3)) dX9_beginRule_19 (by decide) ?_
      exact go_iret C E dX9_beginRule_21 (by first | (simp [c_4, c_16]; done) | (simp [c_4]; done)) (by first | (simp [c_4, c_16, pc_ul_eq ln nr 0 0 rfl]; done) | (simp [c_4]; done))
  · refine go_bipush C ((-2)) dX9_beginRule_7 (by decide) ?_
    exact go_iret C E dX9_beginRule_9 (by first | (simp [c_4, c_16]; done) | (simp [c_4]; done)) (by first | (simp [c_4, c_16, pc_ul_eq ln nr 0 0 rfl]; done) | (simp [c_4]; done))
set_option maxHeartbeats 4000000 in
set_option maxRecDepth 100000 in
theorem c_X9_isWord (G : go_G) (rs : va_W)  (w : Int32)   : go_Fn yX9_isWord cX9_isWord 3 (some .boolean) 1 20 G [.int w] rs (some (.int (go_b (pc_isW w)))) rs := by
  refine go_Fn_of (by decide) (Nat.le_of_ble_eq_true rfl) (fun X C E => ?_)
  show go_Go X (0, 0) rs [(0, .int w)] [] 0
  refine go_iload_n C dX9_isWord_0 0 rfl rfl ?_
  refine go_sipush C (255) dX9_isWord_1 (by decide) ?_
  refine go_iand C (z := pc_op w) dX9_isWord_4 rfl ?_
  refine go_istore_n C [(0, .int w), (1, .int (pc_op w))] dX9_isWord_5 [1, 0] rfl (by decide) rfl ?_
  refine go_iload_n C dX9_isWord_6 0 rfl rfl ?_
  refine go_bipush C (8) dX9_isWord_7 (by decide) ?_
  refine go_ishr C (z := pc_k w) dX9_isWord_9 rfl ?_
  refine go_istore_n C [(0, .int w), (1, .int (pc_op w)), (2, .int (pc_k w))] dX9_isWord_10 [1, 2, 0] rfl (by decide) rfl ?_
  refine go_iload_n C dX9_isWord_11 1 rfl rfl ?_
  refine go_if_ne C 17 dX9_isWord_12 (by decide) (fun c_12 => ?_) (fun c_12 => ?_)
  · refine go_iload_n C dX9_isWord_17 1 rfl rfl ?_
    refine go_iconst C (1) dX9_isWord_18 (by decide) ?_
    refine go_icmp_eq C 28 dX9_isWord_19 (by decide) (fun c_19 => ?_) (fun c_19 => ?_)
    · refine go_iload_n C dX9_isWord_28 2 rfl rfl ?_
      refine go_cS C (c_X9_isVariable G rs  (pc_k w)  ) ml_X9_69 mc_X9_isVariable dX9_isWord_29 [] rfl rfl rfl ⟨Nat.le_of_ble_eq_true rfl, Nat.le_of_ble_eq_true rfl, Nat.zero_le _, Nat.zero_le _, Nat.le_of_ble_eq_true rfl⟩ [.int (go_b (pc_isV (pc_k w)))] rfl ?_
      exact go_zret C E dX9_isWord_32 (go_bn _) (by first | contradiction | rfl | (simp [pc_isW, *]; done) | (rw [decide_eq_true (by omega)]; done) | (rw [decide_eq_false (by omega)]; done) | (simp_all [pc_isW]; done) | (simp [pc_isW]; omega) | (simp_all [pc_isW]; omega) | omega) rfl
    · refine go_iload_n C dX9_isWord_22 1 rfl rfl ?_
      refine go_bipush C (11) dX9_isWord_23 (by decide) ?_
      refine go_icmp_ne C 33 dX9_isWord_25 (by decide) (fun c_25 => ?_) (fun c_25 => ?_)
      · refine go_iload_n C dX9_isWord_33 1 rfl rfl ?_
        refine go_bipush C (12) dX9_isWord_34 (by decide) ?_
        refine go_icmp_gt C 47 dX9_isWord_36 (by decide) (fun c_36 => ?_) (fun c_36 => ?_)
        · refine go_iconst C (0) dX9_isWord_47 (by decide) ?_
          refine go_se [.int (go_b (false))] rfl ?_
          exact go_zret C E dX9_isWord_48 (go_bn _) (by first | contradiction | rfl | (simp [pc_isW, *]; done) | (rw [decide_eq_true (by omega)]; done) | (rw [decide_eq_false (by omega)]; done) | (simp_all [pc_isW]; done) | (simp [pc_isW]; omega) | (simp_all [pc_isW]; omega) | omega) rfl
        · refine go_iload_n C dX9_isWord_39 2 rfl rfl ?_
          refine go_if_ne C 47 dX9_isWord_40 (by decide) (fun c_40 => ?_) (fun c_40 => ?_)
          · refine go_iconst C (0) dX9_isWord_47 (by decide) ?_
            refine go_se [.int (go_b (false))] rfl ?_
            exact go_zret C E dX9_isWord_48 (go_bn _) (by first | contradiction | rfl | (simp [pc_isW, *]; done) | (rw [decide_eq_true (by omega)]; done) | (rw [decide_eq_false (by omega)]; done) | (simp_all [pc_isW]; done) | (simp [pc_isW]; omega) | (simp_all [pc_isW]; omega) | omega) rfl
          · refine go_iconst C (1) dX9_isWord_43 (by decide) ?_
            refine go_goto C 48 dX9_isWord_44 (by decide) ?_
            refine go_se [.int (go_b (true))] rfl ?_
            exact go_zret C E dX9_isWord_48 (go_bn _) (by first | contradiction | rfl | (simp [pc_isW, *]; done) | (rw [decide_eq_true (by omega)]; done) | (rw [decide_eq_false (by omega)]; done) | (simp_all [pc_isW]; done) | (simp [pc_isW]; omega) | (simp_all [pc_isW]; omega) | omega) rfl
      · refine go_iload_n C dX9_isWord_28 2 rfl rfl ?_
        refine go_cS C (c_X9_isVariable G rs  (pc_k w)  ) ml_X9_69 mc_X9_isVariable dX9_isWord_29 [] rfl rfl rfl ⟨Nat.le_of_ble_eq_true rfl, Nat.le_of_ble_eq_true rfl, Nat.zero_le _, Nat.zero_le _, Nat.le_of_ble_eq_true rfl⟩ [.int (go_b (pc_isV (pc_k w)))] rfl ?_
        exact go_zret C E dX9_isWord_32 (go_bn _) (by first | contradiction | rfl | (simp [pc_isW, *]; done) | (rw [decide_eq_true (by omega)]; done) | (rw [decide_eq_false (by omega)]; done) | (simp_all [pc_isW]; done) | (simp [pc_isW]; omega) | (simp_all [pc_isW]; omega) | omega) rfl
  · refine go_iconst C (1) dX9_isWord_15 (by decide) ?_
    refine go_se [.int (go_b (true))] rfl ?_
    exact go_zret C E dX9_isWord_16 (go_bn _) (by first | contradiction | rfl | (simp [pc_isW, *]; done) | (rw [decide_eq_true (by omega)]; done) | (rw [decide_eq_false (by omega)]; done) | (simp_all [pc_isW]; done) | (simp [pc_isW]; omega) | (simp_all [pc_isW]; omega) | omega) rfl
set_option maxHeartbeats 4000000 in
set_option maxRecDepth 100000 in
theorem c_X9_feedRule (G : go_G) (rs : va_W) (p0 : Nat) (mo : Nat) (mfi : Nat) (mbl : Nat) (mpb : Nat) (mru : Nat) (mle : Nat) (miv : Nat) (mst : Nat) (mpa : Nat) (mhe : Nat) (maf : Nat) (mno : Nat) (msk : Nat) (nr : Nat) (il : Nat) (ct : Nat) (ex : Nat) (br : Int32) (sl : Bool) (fu : Bool) (Rf : Nat → Int32) (ln : Nat → Nat) (x : Int32) (hp0 : rs[p0]? = some (mo, .inr (8, [.ref mfi, .ref mbl, .ref mpb, .ref mru, .ref mle, .ref miv, .ref mst, .ref mpa, .ref mhe, .ref maf, .ref mno, .ref msk, .int (nI nr), .int (nI il), .int (nI ct), .int (nI ex), .int br, .int (go_b (sl)), .int (go_b (fu))]))) (hnr : nr ≤ 12) (hln : ∀ r, r < 12 → ln r ≤ 32) : go_Fn yX9_feedRule cX9_feedRule 3 (some .int) 2 42 G [.ref mo, .int x] ((mru, .inl (G.2.1, 384, .inl Rf)) :: (mle, .inl (G.2.1, 12, .inl (pc_lf ln))) :: rs) (some (.int (if sl = true then -2 else if nr = 0 then -4 else pc_fr (ln (nr - 1)) x))) ((mru, .inl (G.2.1, 384, .inl (if sl = false ∧ ¬ nr = 0 ∧ pc_isW x = true ∧ ¬ 32 ≤ ln (nr - 1) then upd Rf (32 * (nr - 1) + ln (nr - 1)) x else Rf))) :: (mle, .inl (G.2.1, 12, .inl (pc_lf (if sl = false ∧ ¬ nr = 0 ∧ pc_isW x = true ∧ ¬ 32 ≤ ln (nr - 1) then pc_ul ln (nr - 1) (ln (nr - 1) + 1) else ln)))) :: rs) := by
  refine go_Fn_of (by decide) (Nat.le_of_ble_eq_true rfl) (fun X C E => ?_)
  show go_Go X (0, 0) ((mru, .inl (G.2.1, 384, .inl Rf)) :: (mle, .inl (G.2.1, 12, .inl (pc_lf ln))) :: rs) [(0, .ref mo), (1, .int x)] [] 0
  refine go_aload_n C dX9_feedRule_0 0 rfl rfl ?_
  refine go_get C (v := .int (go_b (sl))) fl_X9_62 dX9_feedRule_1 (p0 + 2) hp0 rfl ?_
  refine go_if_eqB C 10 dX9_feedRule_4 (by decide) (fun c_4 => ?_) (fun c_4 => ?_)
  · refine go_aload_n C dX9_feedRule_10 0 rfl rfl ?_
    refine go_get C (v := .int (nI nr)) fl_X9_50 dX9_feedRule_11 (p0 + 2) hp0 rfl ?_
    refine go_if_neN C 20 dX9_feedRule_14 (by decide) (by omega) (fun c_14 => ?_) (fun c_14 => ?_)
    · refine go_iload_n C dX9_feedRule_20 1 rfl rfl ?_
      refine go_cS C (c_X9_isWord G ((mru, .inl (G.2.1, 384, .inl Rf)) :: (mle, .inl (G.2.1, 12, .inl (pc_lf ln))) :: rs)  x  ) ml_X9_73 mc_X9_isWord dX9_feedRule_21 [] rfl rfl rfl ⟨Nat.le_of_ble_eq_true rfl, Nat.le_of_ble_eq_true rfl, Nat.zero_le _, Nat.zero_le _, Nat.le_of_ble_eq_true rfl⟩ [.int (go_b (pc_isW x))] rfl ?_
      refine go_if_neB C 29 dX9_feedRule_24 (by decide) (fun c_24 => ?_) (fun c_24 => ?_)
      · have hl1 := hln (nr - 1) (by omega)
        refine go_aload_n C dX9_feedRule_29 0 rfl rfl ?_
        refine go_get C (v := .int (nI nr)) fl_X9_50 dX9_feedRule_30 (p0 + 2) hp0 rfl ?_
        refine go_iconst C (1) dX9_feedRule_33 (by decide) ?_
        refine go_isub C (z := nI (nr - 1)) dX9_feedRule_34 (pk_sub (a := nr) (b := 1) (by omega)) ?_
        refine go_istore_n C [(0, .ref mo), (1, .int x), (2, .int (nI (nr - 1)))] dX9_feedRule_35 [1, 2, 0] rfl (by decide) rfl ?_
        refine go_aload_n C dX9_feedRule_36 0 rfl rfl ?_
        refine go_get C (v := .ref mle) fl_X9_22 dX9_feedRule_37 (p0 + 2) hp0 rfl ?_
        refine go_iload_n C dX9_feedRule_40 2 rfl rfl ?_
        refine go_iald C dX9_feedRule_41 1 rfl (nr - 1) rfl (by omega) (by decide) ?_
        refine go_se [.int (nI (ln (nr - 1)))] rfl ?_
        refine go_bipush C (32) dX9_feedRule_42 (by decide) ?_
        refine go_icmp_neN (a := ln (nr - 1)) (b := 32) C 50 dX9_feedRule_44 (by decide) (by omega) (by omega) (fun c_44 => ?_) (fun c_44 => ?_)
        · refine go_aload_n C dX9_feedRule_50 0 rfl rfl ?_
          refine go_get C (v := .ref mru) fl_X9_19 dX9_feedRule_51 (p0 + 2) hp0 rfl ?_
          refine go_bipush C (32) dX9_feedRule_54 (by decide) ?_
          refine go_iload_n C dX9_feedRule_56 2 rfl rfl ?_
          refine go_imul C (z := nI (32 * (nr - 1))) dX9_feedRule_57 (pk_mul 32 (nr - 1)) ?_
          refine go_aload_n C dX9_feedRule_58 0 rfl rfl ?_
          refine go_get C (v := .ref mle) fl_X9_22 dX9_feedRule_59 (p0 + 2) hp0 rfl ?_
          refine go_iload_n C dX9_feedRule_62 2 rfl rfl ?_
          refine go_iald C dX9_feedRule_63 1 rfl (nr - 1) rfl (by omega) (by decide) ?_
          refine go_se [.int (nI (ln (nr - 1))), .int (nI (32 * (nr - 1))), .ref mru] rfl ?_
          refine go_iadd C (z := nI ((32 * (nr - 1)) + (ln (nr - 1)))) dX9_feedRule_64 (nI_add (32 * (nr - 1)) (ln (nr - 1))) ?_
          refine go_iload_n C dX9_feedRule_65 1 rfl rfl ?_
          refine go_iast C dX9_feedRule_66 0 rfl ((32 * (nr - 1)) + (ln (nr - 1))) rfl (by omega) (by decide) ((mru, .inl (G.2.1, 384, .inl (upd Rf ((32 * (nr - 1)) + (ln (nr - 1))) x))) :: (mle, .inl (G.2.1, 12, .inl (pc_lf ln))) :: rs) rfl ?_
          refine go_aload_n C dX9_feedRule_67 0 rfl rfl ?_
          refine go_get C (v := .ref mle) fl_X9_22 dX9_feedRule_68 (p0 + 2) hp0 rfl ?_
          refine go_iload_n C dX9_feedRule_71 2 rfl rfl ?_
          refine go_dup2 C dX9_feedRule_72 rfl rfl ?_
          refine go_iald C dX9_feedRule_73 1 rfl (nr - 1) rfl (by omega) (by decide) ?_
          refine go_se [.int (nI (ln (nr - 1))), .int (nI (nr - 1)), .ref mle] rfl ?_
          refine go_iconst C (1) dX9_feedRule_74 (by decide) ?_
          refine go_iadd C (z := nI ((ln (nr - 1)) + 1)) dX9_feedRule_75 (nI_add (ln (nr - 1)) 1) ?_
          refine go_iast C dX9_feedRule_76 1 rfl (nr - 1) rfl (by omega) (by decide) ((mru, .inl (G.2.1, 384, .inl (upd Rf ((32 * (nr - 1)) + (ln (nr - 1))) x))) :: (mle, .inl (G.2.1, 12, .inl (upd (pc_lf ln) (nr - 1) (nI ((ln (nr - 1)) + 1))))) :: rs) rfl ?_
          refine go_iconst C (0) dX9_feedRule_77 (by decide) ?_
          exact go_iret C E dX9_feedRule_78 (by first | (simp [c_4, c_14, c_24, pc_fr, show 32 ≤ ln (nr - 1) by omega]; done) | (simp [c_4, c_14, c_24, pc_fr, show ¬ 32 ≤ ln (nr - 1) by omega]; done) | (simp [c_4, c_14, c_24, pc_fr]; done) | (simp [c_4, c_14]; done) | (simp [c_4]; done)) (by first | (simp [c_4, c_14, c_24, show 32 ≤ ln (nr - 1) by omega]; done) | (simp [c_4, c_14, c_24, show ¬ 32 ≤ ln (nr - 1) by omega, pc_ul_eq ln (nr - 1) (ln (nr - 1) + 1) _ rfl]; done) | (simp [c_4, c_14, c_24]; done) | (simp [c_4, c_14]; done) | (simp [c_4]; done))
        · refine go_bipush C ((-3)) dX9_feedRule_47 (by decide) ?_
          exact go_iret C E dX9_feedRule_49 (by first | (simp [c_4, c_14, c_24, pc_fr, show 32 ≤ ln (nr - 1) by omega]; done) | (simp [c_4, c_14, c_24, pc_fr, show ¬ 32 ≤ ln (nr - 1) by omega]; done) | (simp [c_4, c_14, c_24, pc_fr]; done) | (simp [c_4, c_14]; done) | (simp [c_4]; done)) (by first | (simp [c_4, c_14, c_24, show 32 ≤ ln (nr - 1) by omega]; done) | (simp [c_4, c_14, c_24, show ¬ 32 ≤ ln (nr - 1) by omega, pc_ul_eq ln (nr - 1) (ln (nr - 1) + 1) _ rfl]; done) | (simp [c_4, c_14, c_24]; done) | (simp [c_4, c_14]; done) | (simp [c_4]; done))
      · refine go_iconst C ((-1)) dX9_feedRule_27 (by decide) ?_
        exact go_iret C E dX9_feedRule_28 (by first | (simp [c_4, c_14, c_24, pc_fr, show 32 ≤ ln (nr - 1) by omega]; done) | (simp [c_4, c_14, c_24, pc_fr, show ¬ 32 ≤ ln (nr - 1) by omega]; done) | (simp [c_4, c_14, c_24, pc_fr]; done) | (simp [c_4, c_14]; done) | (simp [c_4]; done)) (by first | (simp [c_4, c_14, c_24, show 32 ≤ ln (nr - 1) by omega]; done) | (simp [c_4, c_14, c_24, show ¬ 32 ≤ ln (nr - 1) by omega, pc_ul_eq ln (nr - 1) (ln (nr - 1) + 1) _ rfl]; done) | (simp [c_4, c_14, c_24]; done) | (simp [c_4, c_14]; done) | (simp [c_4]; done))
    · refine go_bipush C ((-4)) dX9_feedRule_17 (by decide) ?_
      exact go_iret C E dX9_feedRule_19 (by first | (simp [c_4, c_14, c_24, pc_fr, show 32 ≤ ln (nr - 1) by omega]; done) | (simp [c_4, c_14, c_24, pc_fr, show ¬ 32 ≤ ln (nr - 1) by omega]; done) | (simp [c_4, c_14, c_24, pc_fr]; done) | (simp [c_4, c_14]; done) | (simp [c_4]; done)) (by first | (simp [c_4, c_14, c_24, show 32 ≤ ln (nr - 1) by omega]; done) | (simp [c_4, c_14, c_24, show ¬ 32 ≤ ln (nr - 1) by omega, pc_ul_eq ln (nr - 1) (ln (nr - 1) + 1) _ rfl]; done) | (simp [c_4, c_14, c_24]; done) | (simp [c_4, c_14]; done) | (simp [c_4]; done))
  · refine go_bipush C ((-2)) dX9_feedRule_7 (by decide) ?_
    exact go_iret C E dX9_feedRule_9 (by first | (simp [c_4, c_14, c_24, pc_fr, show 32 ≤ ln (nr - 1) by omega]; done) | (simp [c_4, c_14, c_24, pc_fr, show ¬ 32 ≤ ln (nr - 1) by omega]; done) | (simp [c_4, c_14, c_24, pc_fr]; done) | (simp [c_4, c_14]; done) | (simp [c_4]; done)) (by first | (simp [c_4, c_14, c_24, show 32 ≤ ln (nr - 1) by omega]; done) | (simp [c_4, c_14, c_24, show ¬ 32 ≤ ln (nr - 1) by omega, pc_ul_eq ln (nr - 1) (ln (nr - 1) + 1) _ rfl]; done) | (simp [c_4, c_14, c_24]; done) | (simp [c_4, c_14]; done) | (simp [c_4]; done))
set_option maxHeartbeats 4000000 in
set_option maxRecDepth 100000 in
theorem c_X9_feedInvariant (G : go_G) (rs : va_W)  (mo : Nat) (mfi : Nat) (mbl : Nat) (mpb : Nat) (mru : Nat) (mle : Nat) (miv : Nat) (mst : Nat) (mpa : Nat) (mhe : Nat) (maf : Nat) (mno : Nat) (msk : Nat) (nr : Nat) (il : Nat) (ct : Nat) (ex : Nat) (br : Int32) (sl : Bool) (fu : Bool) (If : Nat → Int32) (x : Int32)  (hil : il ≤ 32) : go_Fn yX9_feedInvariant cX9_feedInvariant 2 (some .int) 2 42 G [.ref mo, .int x] ((mo, .inr (8, [.ref mfi, .ref mbl, .ref mpb, .ref mru, .ref mle, .ref miv, .ref mst, .ref mpa, .ref mhe, .ref maf, .ref mno, .ref msk, .int (nI nr), .int (nI il), .int (nI ct), .int (nI ex), .int br, .int (go_b (sl)), .int (go_b (fu))])) :: (miv, .inl (G.2.1, 32, .inl If)) :: rs) (some (.int (if sl = true then -2 else pc_fr il x))) ((mo, .inr (8, [.ref mfi, .ref mbl, .ref mpb, .ref mru, .ref mle, .ref miv, .ref mst, .ref mpa, .ref mhe, .ref maf, .ref mno, .ref msk, .int (nI nr), .int (nI (if sl = true then il else pc_fl il x)), .int (nI ct), .int (nI ex), .int br, .int (go_b (sl)), .int (go_b (fu))])) :: (miv, .inl (G.2.1, 32, .inl (if sl = true then If else pc_fw il If x))) :: rs) := by
  refine go_Fn_of (by decide) (Nat.le_of_ble_eq_true rfl) (fun X C E => ?_)
  show go_Go X (0, 0) ((mo, .inr (8, [.ref mfi, .ref mbl, .ref mpb, .ref mru, .ref mle, .ref miv, .ref mst, .ref mpa, .ref mhe, .ref maf, .ref mno, .ref msk, .int (nI nr), .int (nI il), .int (nI ct), .int (nI ex), .int br, .int (go_b (sl)), .int (go_b (fu))])) :: (miv, .inl (G.2.1, 32, .inl If)) :: rs) [(0, .ref mo), (1, .int x)] [] 0
  refine go_aload_n C dX9_feedInvariant_0 0 rfl rfl ?_
  refine go_get C (v := .int (go_b (sl))) fl_X9_62 dX9_feedInvariant_1 0 rfl rfl ?_
  refine go_if_eqB C 10 dX9_feedInvariant_4 (by decide) (fun c_4 => ?_) (fun c_4 => ?_)
  · refine go_iload_n C dX9_feedInvariant_10 1 rfl rfl ?_
    refine go_cS C (c_X9_isWord G ((mo, .inr (8, [.ref mfi, .ref mbl, .ref mpb, .ref mru, .ref mle, .ref miv, .ref mst, .ref mpa, .ref mhe, .ref maf, .ref mno, .ref msk, .int (nI nr), .int (nI il), .int (nI ct), .int (nI ex), .int br, .int (go_b (sl)), .int (go_b (fu))])) :: (miv, .inl (G.2.1, 32, .inl If)) :: rs)  x  ) ml_X9_73 mc_X9_isWord dX9_feedInvariant_11 [] rfl rfl rfl ⟨Nat.le_of_ble_eq_true rfl, Nat.le_of_ble_eq_true rfl, Nat.zero_le _, Nat.zero_le _, Nat.le_of_ble_eq_true rfl⟩ [.int (go_b (pc_isW x))] rfl ?_
    refine go_if_neB C 19 dX9_feedInvariant_14 (by decide) (fun c_14 => ?_) (fun c_14 => ?_)
    · refine go_aload_n C dX9_feedInvariant_19 0 rfl rfl ?_
      refine go_get C (v := .int (nI il)) fl_X9_53 dX9_feedInvariant_20 0 rfl rfl ?_
      refine go_bipush C (32) dX9_feedInvariant_23 (by decide) ?_
      refine go_icmp_neN (a := il) (b := 32) C 31 dX9_feedInvariant_25 (by decide) (by omega) (by omega) (fun c_25 => ?_) (fun c_25 => ?_)
      · refine go_aload_n C dX9_feedInvariant_31 0 rfl rfl ?_
        refine go_get C (v := .ref miv) fl_X9_25 dX9_feedInvariant_32 0 rfl rfl ?_
        refine go_aload_n C dX9_feedInvariant_35 0 rfl rfl ?_
        refine go_get C (v := .int (nI il)) fl_X9_53 dX9_feedInvariant_36 0 rfl rfl ?_
        refine go_iload_n C dX9_feedInvariant_39 1 rfl rfl ?_
        refine go_iast C dX9_feedInvariant_40 1 rfl (il) rfl (by omega) (by decide) ((mo, .inr (8, [.ref mfi, .ref mbl, .ref mpb, .ref mru, .ref mle, .ref miv, .ref mst, .ref mpa, .ref mhe, .ref maf, .ref mno, .ref msk, .int (nI nr), .int (nI il), .int (nI ct), .int (nI ex), .int br, .int (go_b (sl)), .int (go_b (fu))])) :: (miv, .inl (G.2.1, 32, .inl (upd If il x))) :: rs) rfl ?_
        refine go_aload_n C dX9_feedInvariant_41 0 rfl rfl ?_
        refine go_dup C dX9_feedInvariant_42 rfl ?_
        refine go_get C (v := .int (nI il)) fl_X9_53 dX9_feedInvariant_43 0 rfl rfl ?_
        refine go_iconst C (1) dX9_feedInvariant_46 (by decide) ?_
        refine go_iadd C (z := nI (il + 1)) dX9_feedInvariant_47 (nI_add il 1) ?_
        refine go_put C fp_X9_53 dX9_feedInvariant_48 0 rfl rfl rfl (Nat.le_of_ble_eq_true rfl) ((mo, .inr (8, [.ref mfi, .ref mbl, .ref mpb, .ref mru, .ref mle, .ref miv, .ref mst, .ref mpa, .ref mhe, .ref maf, .ref mno, .ref msk, .int (nI nr), .int (nI (il + 1)), .int (nI ct), .int (nI ex), .int br, .int (go_b (sl)), .int (go_b (fu))])) :: (miv, .inl (G.2.1, 32, .inl (upd If il x))) :: rs) rfl ?_
        refine go_iconst C (0) dX9_feedInvariant_51 (by decide) ?_
        exact go_iret C E dX9_feedInvariant_52 (by first | (simp [c_4, c_14, pc_fr, show 32 ≤ il by omega]; done) | (simp [c_4, c_14, pc_fr, show ¬ 32 ≤ il by omega]; done) | (simp [c_4, c_14, pc_fr]; done) | (simp [c_4]; done)) (by first | (simp [c_4, c_14, pc_fl, pc_fw, show 32 ≤ il by omega]; done) | (simp [c_4, c_14, pc_fl, pc_fw, show ¬ 32 ≤ il by omega]; done) | (simp [c_4, c_14, pc_fl, pc_fw]; done) | (simp [c_4]; done))
      · refine go_bipush C ((-3)) dX9_feedInvariant_28 (by decide) ?_
        exact go_iret C E dX9_feedInvariant_30 (by first | (simp [c_4, c_14, pc_fr, show 32 ≤ il by omega]; done) | (simp [c_4, c_14, pc_fr, show ¬ 32 ≤ il by omega]; done) | (simp [c_4, c_14, pc_fr]; done) | (simp [c_4]; done)) (by first | (simp [c_4, c_14, pc_fl, pc_fw, show 32 ≤ il by omega]; done) | (simp [c_4, c_14, pc_fl, pc_fw, show ¬ 32 ≤ il by omega]; done) | (simp [c_4, c_14, pc_fl, pc_fw]; done) | (simp [c_4]; done))
    · refine go_iconst C ((-1)) dX9_feedInvariant_17 (by decide) ?_
      exact go_iret C E dX9_feedInvariant_18 (by first | (simp [c_4, c_14, pc_fr, show 32 ≤ il by omega]; done) | (simp [c_4, c_14, pc_fr, show ¬ 32 ≤ il by omega]; done) | (simp [c_4, c_14, pc_fr]; done) | (simp [c_4]; done)) (by first | (simp [c_4, c_14, pc_fl, pc_fw, show 32 ≤ il by omega]; done) | (simp [c_4, c_14, pc_fl, pc_fw, show ¬ 32 ≤ il by omega]; done) | (simp [c_4, c_14, pc_fl, pc_fw]; done) | (simp [c_4]; done))
  · refine go_bipush C ((-2)) dX9_feedInvariant_7 (by decide) ?_
    exact go_iret C E dX9_feedInvariant_9 (by first | (simp [c_4, c_14, pc_fr, show 32 ≤ il by omega]; done) | (simp [c_4, c_14, pc_fr, show ¬ 32 ≤ il by omega]; done) | (simp [c_4, c_14, pc_fr]; done) | (simp [c_4]; done)) (by first | (simp [c_4, c_14, pc_fl, pc_fw, show 32 ≤ il by omega]; done) | (simp [c_4, c_14, pc_fl, pc_fw, show ¬ 32 ≤ il by omega]; done) | (simp [c_4, c_14, pc_fl, pc_fw]; done) | (simp [c_4]; done))
set_option maxHeartbeats 4000000 in
set_option maxRecDepth 100000 in
theorem c_X9_height (G : go_G) (rs : va_W)  (o : Int32) (h : Nat)  (hh : h ≤ 8) : go_Fn yX9_height cX9_height 2 (some .int) 0 0 G [.int o, .int (nI h)] rs (some (.int (pc_oi (pc_hB h o)))) rs := by
  refine go_Fn_of (by decide) (Nat.le_of_ble_eq_true rfl) (fun X C E => ?_)
  show go_Go X (0, 0) rs [(0, .int o), (1, .int (nI h))] [] 0
  refine go_iload_n C dX9_height_0 0 rfl rfl ?_
  refine go_iconst C (1) dX9_height_1 (by decide) ?_
  refine go_icmp_gt C 19 dX9_height_2 (by decide) (fun c_2 => ?_) (fun c_2 => ?_)
  · refine go_iload_n C dX9_height_19 0 rfl rfl ?_
    refine go_bipush C (8) dX9_height_20 (by decide) ?_
    refine go_icmp_gt C 38 dX9_height_22 (by decide) (fun c_22 => ?_) (fun c_22 => ?_)
    · refine go_iload_n C dX9_height_38 0 rfl rfl ?_
      refine go_bipush C (9) dX9_height_39 (by decide) ?_
      refine go_icmp_ne C 53 dX9_height_41 (by decide) (fun c_41 => ?_) (fun c_41 => ?_)
      · refine go_iconst C ((-1)) dX9_height_53 (by decide) ?_
        exact go_iret C E dX9_height_54 (by first | (simp [pc_oi, pc_hB, c_2, c_8]; done) | (simp [pc_oi, pc_hB, c_2, c_22, c_27]; done) | (simp [pc_oi, pc_hB, c_2, c_22, c_41, c_46]; done) | (simp [pc_oi, pc_hB, c_2, c_22, c_41]; done)) rfl
      · refine go_iload_n C dX9_height_44 1 rfl rfl ?_
        refine go_iconst C (1) dX9_height_45 (by decide) ?_
        refine go_icmp_ltN (a := h) (b := 1) C 53 dX9_height_46 (by decide) (by omega) (by omega) (fun c_46 => ?_) (fun c_46 => ?_)
        · refine go_iconst C ((-1)) dX9_height_53 (by decide) ?_
          exact go_iret C E dX9_height_54 (by first | (simp [pc_oi, pc_hB, c_2, c_8]; done) | (simp [pc_oi, pc_hB, c_2, c_22, c_27]; done) | (simp [pc_oi, pc_hB, c_2, c_22, c_41, c_46]; done) | (simp [pc_oi, pc_hB, c_2, c_22, c_41]; done)) rfl
        · refine go_iload_n C dX9_height_49 1 rfl rfl ?_
          refine go_goto C 54 dX9_height_50 (by decide) ?_
          exact go_iret C E dX9_height_54 (by first | (simp [pc_oi, pc_hB, c_2, c_8]; done) | (simp [pc_oi, pc_hB, c_2, c_22, c_27]; done) | (simp [pc_oi, pc_hB, c_2, c_22, c_41, c_46]; done) | (simp [pc_oi, pc_hB, c_2, c_22, c_41]; done)) rfl
    · refine go_iload_n C dX9_height_25 1 rfl rfl ?_
      refine go_iconst C (2) dX9_height_26 (by decide) ?_
      refine go_icmp_ltN (a := h) (b := 2) C 36 dX9_height_27 (by decide) (by omega) (by omega) (fun c_27 => ?_) (fun c_27 => ?_)
      · refine go_iconst C ((-1)) dX9_height_36 (by decide) ?_
        exact go_iret C E dX9_height_37 (by first | (simp [pc_oi, pc_hB, c_2, c_8]; done) | (simp [pc_oi, pc_hB, c_2, c_22, c_27]; done) | (simp [pc_oi, pc_hB, c_2, c_22, c_41, c_46]; done) | (simp [pc_oi, pc_hB, c_2, c_22, c_41]; done)) rfl
      · refine go_iload_n C dX9_height_30 1 rfl rfl ?_
        refine go_iconst C (1) dX9_height_31 (by decide) ?_
        refine go_isub C (z := nI (h - 1)) dX9_height_32 (pk_sub (a := h) (b := 1) (by omega)) ?_
        refine go_goto C 37 dX9_height_33 (by decide) ?_
        exact go_iret C E dX9_height_37 (by first | (simp [pc_oi, pc_hB, c_2, c_8]; done) | (simp [pc_oi, pc_hB, c_2, c_22, c_27]; done) | (simp [pc_oi, pc_hB, c_2, c_22, c_41, c_46]; done) | (simp [pc_oi, pc_hB, c_2, c_22, c_41]; done)) rfl
  · refine go_iload_n C dX9_height_5 1 rfl rfl ?_
    refine go_bipush C (8) dX9_height_6 (by decide) ?_
    refine go_icmp_geN (a := h) (b := 8) C 17 dX9_height_8 (by decide) (by omega) (by omega) (fun c_8 => ?_) (fun c_8 => ?_)
    · refine go_iconst C ((-1)) dX9_height_17 (by decide) ?_
      exact go_iret C E dX9_height_18 (by first | (simp [pc_oi, pc_hB, c_2, c_8]; done) | (simp [pc_oi, pc_hB, c_2, c_22, c_27]; done) | (simp [pc_oi, pc_hB, c_2, c_22, c_41, c_46]; done) | (simp [pc_oi, pc_hB, c_2, c_22, c_41]; done)) rfl
    · refine go_iload_n C dX9_height_11 1 rfl rfl ?_
      refine go_iconst C (1) dX9_height_12 (by decide) ?_
      refine go_iadd C (z := nI (h + 1)) dX9_height_13 (nI_add h 1) ?_
      refine go_goto C 18 dX9_height_14 (by decide) ?_
      exact go_iret C E dX9_height_18 (by first | (simp [pc_oi, pc_hB, c_2, c_8]; done) | (simp [pc_oi, pc_hB, c_2, c_22, c_27]; done) | (simp [pc_oi, pc_hB, c_2, c_22, c_41, c_46]; done) | (simp [pc_oi, pc_hB, c_2, c_22, c_41]; done)) rfl
set_option maxHeartbeats 4000000 in
set_option maxRecDepth 100000 in
theorem l_X9_ruleIsRight_7 {X : go_X} (G : go_G) (rs : va_W) (p0 : Nat) (p1 : Nat) (p2 : Nat) (mo : Nat) (mfi : Nat) (mbl : Nat) (mpb : Nat) (mru : Nat) (mle : Nat) (miv : Nat) (mst : Nat) (mpa : Nat) (mhe : Nat) (maf : Nat) (mno : Nat) (msk : Nat) (nr : Nat) (il : Nat) (ct : Nat) (ex : Nat) (br : Int32) (sl : Bool) (fu : Bool) (Rf : Nat → Int32) (ln : Nat → Nat) (r : Nat) (hp0 : rs[p0]? = some (mo, .inr (8, [.ref mfi, .ref mbl, .ref mpb, .ref mru, .ref mle, .ref miv, .ref mst, .ref mpa, .ref mhe, .ref maf, .ref mno, .ref msk, .int (nI nr), .int (nI il), .int (nI ct), .int (nI ex), .int br, .int (go_b (sl)), .int (go_b (fu))]))) (hp1 : rs[p1]? = some (mru, .inl (G.2.1, 384, .inl Rf))) (hp2 : rs[p2]? = some (mle, .inl (G.2.1, 12, .inl (pc_lf ln)))) (hr : r < 12) (hln : ∀ r, r < 12 → ln r ≤ 32) {Rr : Option Value}  (C : go_Cx X cX9_ruleIsRight RX9 (some .boolean) 6 1 21 0 0 G) (E : go_Ex X Rr rs)  : ∀ (n : Nat) (i : Nat) (th : Nat) (h : Nat) (hin : ln r < i + n) (hi : i ≤ ln r) (hh : h ≤ 8) (ht : th ≤ 1) (hR : some (.int (go_b (pc_mR (ln r) (pc_rr Rf r) n i th h))) = Rr), go_Go X (0, 0) rs [(0, .ref mo), (1, .int (nI r)), (2, .int (nI h)), (3, .int (nI th)), (4, .int (nI i))] [] 7 := by
  intro n
  induction n with
  | zero => intro i th h hin hi hh ht hR; omega
  | succ n ih =>
    intro i th h hin hi hh ht hR
    have hlr := hln r hr
    refine go_iload C dX9_ruleIsRight_7 4 rfl ?_
    refine go_aload_n C dX9_ruleIsRight_9 0 rfl rfl ?_
    refine go_get C (v := .ref mle) fl_X9_22 dX9_ruleIsRight_10 p0 hp0 rfl ?_
    refine go_iload_n C dX9_ruleIsRight_13 1 rfl rfl ?_
    refine go_iald C dX9_ruleIsRight_14 p2 hp2 (r) rfl (by omega) (by decide) ?_
    refine go_se [.int (nI (ln r)), .int (nI i)] rfl ?_
    refine go_icmp_geN (a := i) (b := ln r) C 105 dX9_ruleIsRight_15 (by decide) (by omega) (by omega) (fun c_15 => ?_) (fun c_15 => ?_)
    · refine go_iload_n C dX9_ruleIsRight_105 3 rfl rfl ?_
      refine go_iconst C (1) dX9_ruleIsRight_106 (by decide) ?_
      refine go_icmp_neN (a := th) (b := 1) C 118 dX9_ruleIsRight_107 (by decide) (by omega) (by omega) (fun c_107 => ?_) (fun c_107 => ?_)
      · refine go_iconst C (0) dX9_ruleIsRight_118 (by decide) ?_
        refine go_se [.int (go_b (false))] rfl ?_
        exact go_zret C E dX9_ruleIsRight_119 (go_bn _) (by rw [← hR]; first | contradiction | rfl | (simp [pc_mR, *]; done) | (rw [decide_eq_true (by omega)]; done) | (rw [decide_eq_false (by omega)]; done) | (simp_all [pc_mR]; done) | (simp [pc_mR]; omega) | (simp_all [pc_mR]; omega) | omega) rfl
      · refine go_iload_n C dX9_ruleIsRight_110 2 rfl rfl ?_
        refine go_if_neN C 118 dX9_ruleIsRight_111 (by decide) (by omega) (fun c_111 => ?_) (fun c_111 => ?_)
        · refine go_iconst C (0) dX9_ruleIsRight_118 (by decide) ?_
          refine go_se [.int (go_b (false))] rfl ?_
          exact go_zret C E dX9_ruleIsRight_119 (go_bn _) (by rw [← hR]; first | contradiction | rfl | (simp [pc_mR, *]; done) | (rw [decide_eq_true (by omega)]; done) | (rw [decide_eq_false (by omega)]; done) | (simp_all [pc_mR]; done) | (simp [pc_mR]; omega) | (simp_all [pc_mR]; omega) | omega) rfl
        · refine go_iconst C (1) dX9_ruleIsRight_114 (by decide) ?_
          refine go_goto C 119 dX9_ruleIsRight_115 (by decide) ?_
          refine go_se [.int (go_b (true))] rfl ?_
          exact go_zret C E dX9_ruleIsRight_119 (go_bn _) (by rw [← hR]; first | contradiction | rfl | (simp [pc_mR, *]; done) | (rw [decide_eq_true (by omega)]; done) | (rw [decide_eq_false (by omega)]; done) | (simp_all [pc_mR]; done) | (simp [pc_mR]; omega) | (simp_all [pc_mR]; omega) | omega) rfl
    · refine go_aload_n C dX9_ruleIsRight_18 0 rfl rfl ?_
      refine go_get C (v := .ref mru) fl_X9_19 dX9_ruleIsRight_19 p0 hp0 rfl ?_
      refine go_bipush C (32) dX9_ruleIsRight_22 (by decide) ?_
      refine go_iload_n C dX9_ruleIsRight_24 1 rfl rfl ?_
      refine go_imul C (z := nI (32 * r)) dX9_ruleIsRight_25 (pk_mul 32 r) ?_
      refine go_iload C dX9_ruleIsRight_26 4 rfl ?_
      refine go_iadd C (z := nI ((32 * r) + i)) dX9_ruleIsRight_28 (nI_add (32 * r) i) ?_
      refine go_iald C dX9_ruleIsRight_29 p1 hp1 ((32 * r) + i) rfl (by omega) (by decide) ?_
      refine go_se [.int (pc_rr Rf r i)] rfl ?_
      refine go_sipush C (255) dX9_ruleIsRight_30 (by decide) ?_
      refine go_iand C (z := pc_op (pc_rr Rf r i)) dX9_ruleIsRight_33 rfl ?_
      refine go_istore C [(0, .ref mo), (1, .int (nI r)), (2, .int (nI h)), (3, .int (nI th)), (4, .int (nI i)), (5, .int (pc_op (pc_rr Rf r i)))] dX9_ruleIsRight_34 [1, 2, 3, 4, 5, 0] (by decide) rfl ?_
      refine go_iload C dX9_ruleIsRight_36 5 rfl ?_
      refine go_bipush C (10) dX9_ruleIsRight_38 (by decide) ?_
      refine go_icmp_ne C 62 dX9_ruleIsRight_40 (by decide) (fun c_40 => ?_) (fun c_40 => ?_)
      · refine go_iload C dX9_ruleIsRight_62 5 rfl ?_
        refine go_bipush C (11) dX9_ruleIsRight_64 (by decide) ?_
        refine go_icmp_ne C 86 dX9_ruleIsRight_66 (by decide) (fun c_66 => ?_) (fun c_66 => ?_)
        · refine go_iload C dX9_ruleIsRight_86 5 rfl ?_
          refine go_iload_n C dX9_ruleIsRight_88 2 rfl rfl ?_
          refine go_cS C (c_X9_height G rs  (pc_op (pc_rr Rf r i)) h  (by omega)) ml_X9_76 mc_X9_height dX9_ruleIsRight_89 [] rfl rfl rfl ⟨Nat.le_of_ble_eq_true rfl, Nat.le_of_ble_eq_true rfl, Nat.zero_le _, Nat.zero_le _, Nat.le_of_ble_eq_true rfl⟩ [.int (pc_oi (pc_hB h (pc_op (pc_rr Rf r i))))] rfl ?_
          refine go_istore_n C [(0, .ref mo), (1, .int (nI r)), (2, .int (pc_oi (pc_hB h (pc_op (pc_rr Rf r i))))), (3, .int (nI th)), (4, .int (nI i)), (5, .int (pc_op (pc_rr Rf r i)))] dX9_ruleIsRight_92 [1, 2, 0, 3, 4, 5] rfl (by decide) rfl ?_
          refine go_iload_n C dX9_ruleIsRight_93 2 rfl rfl ?_
          refine go_if_ge C 99 dX9_ruleIsRight_94 (by decide) (fun c_94 => ?_) (fun c_94 => ?_)
          · obtain ⟨h_1, hh_1, hb_1⟩ := pc_oiB_some (by omega) c_94
            refine go_le [(0, .ref mo), (1, .int (nI r)), (2, .int (nI h_1)), (3, .int (nI th)), (4, .int (nI i)), (5, .int (pc_op (pc_rr Rf r i)))] (by rw [hh_1]; rfl) ?_
            refine go_iinc C (nI (i + 1)) [(0, .ref mo), (1, .int (nI r)), (2, .int (nI h_1)), (3, .int (nI th)), (4, .int (nI (i + 1))), (5, .int (pc_op (pc_rr Rf r i)))] dX9_ruleIsRight_99 4 [1, 2, 3, 4, 0, 5] rfl (nI_add i 1) (by decide) rfl ?_
            refine go_goto C 7 dX9_ruleIsRight_102 (by decide) ?_
            refine go_lv [(0, .ref mo), (1, .int (nI r)), (2, .int (nI h_1)), (3, .int (nI th)), (4, .int (nI (i + 1)))] [0, 1, 2, 3, 4] rfl ?_
            exact ih (i + 1) th h_1 (by omega) (by omega) (by omega) (by omega) (by rw [← hR]; first | contradiction | rfl | (simp [pc_mR, *]; done) | (rw [decide_eq_true (by omega)]; done) | (rw [decide_eq_false (by omega)]; done) | (simp_all [pc_mR]; done) | (simp [pc_mR]; omega) | (simp_all [pc_mR]; omega) | omega)
          · refine go_iconst C (0) dX9_ruleIsRight_97 (by decide) ?_
            refine go_se [.int (go_b (false))] rfl ?_
            exact go_zret C E dX9_ruleIsRight_98 (go_bn _) (by rw [← hR]; simp [pc_mR, c_15, c_40, c_66, pc_oiB_none hh c_94]) rfl
        · refine go_iload_n C dX9_ruleIsRight_69 3 rfl rfl ?_
          refine go_if_eqN C 78 dX9_ruleIsRight_70 (by decide) (by omega) (fun c_70 => ?_) (fun c_70 => ?_)
          · refine go_iconst C (0) dX9_ruleIsRight_78 (by decide) ?_
            refine go_se [.int (go_b (false))] rfl ?_
            exact go_zret C E dX9_ruleIsRight_79 (go_bn _) (by rw [← hR]; first | contradiction | rfl | (simp [pc_mR, *]; done) | (rw [decide_eq_true (by omega)]; done) | (rw [decide_eq_false (by omega)]; done) | (simp_all [pc_mR]; done) | (simp [pc_mR]; omega) | (simp_all [pc_mR]; omega) | omega) rfl
          · refine go_iload_n C dX9_ruleIsRight_73 2 rfl rfl ?_
            refine go_iconst C (1) dX9_ruleIsRight_74 (by decide) ?_
            refine go_icmp_geN (a := h) (b := 1) C 80 dX9_ruleIsRight_75 (by decide) (by omega) (by omega) (fun c_75 => ?_) (fun c_75 => ?_)
            · refine go_iinc C (nI (h - 1)) [(0, .ref mo), (1, .int (nI r)), (2, .int (nI (h - 1))), (3, .int (nI th)), (4, .int (nI i)), (5, .int (pc_op (pc_rr Rf r i)))] dX9_ruleIsRight_80 2 [1, 2, 0, 3, 4, 5] rfl (pc_dec (by omega)) (by decide) rfl ?_
              refine go_goto C 99 dX9_ruleIsRight_83 (by decide) ?_
              refine go_iinc C (nI (i + 1)) [(0, .ref mo), (1, .int (nI r)), (2, .int (nI (h - 1))), (3, .int (nI th)), (4, .int (nI (i + 1))), (5, .int (pc_op (pc_rr Rf r i)))] dX9_ruleIsRight_99 4 [1, 2, 3, 4, 0, 5] rfl (nI_add i 1) (by decide) rfl ?_
              refine go_goto C 7 dX9_ruleIsRight_102 (by decide) ?_
              refine go_lv [(0, .ref mo), (1, .int (nI r)), (2, .int (nI (h - 1))), (3, .int (nI th)), (4, .int (nI (i + 1)))] [0, 1, 2, 3, 4] rfl ?_
              exact ih (i + 1) th (h - 1) (by omega) (by omega) (by omega) (by omega) (by rw [← hR]; first | contradiction | rfl | (simp [pc_mR, *]; done) | (rw [decide_eq_true (by omega)]; done) | (rw [decide_eq_false (by omega)]; done) | (simp_all [pc_mR]; done) | (simp [pc_mR]; omega) | (simp_all [pc_mR]; omega) | omega)
            · refine go_iconst C (0) dX9_ruleIsRight_78 (by decide) ?_
              refine go_se [.int (go_b (false))] rfl ?_
              exact go_zret C E dX9_ruleIsRight_79 (go_bn _) (by rw [← hR]; first | contradiction | rfl | (simp [pc_mR, *]; done) | (rw [decide_eq_true (by omega)]; done) | (rw [decide_eq_false (by omega)]; done) | (simp_all [pc_mR]; done) | (simp [pc_mR]; omega) | (simp_all [pc_mR]; omega) | omega) rfl
      · refine go_iload_n C dX9_ruleIsRight_43 3 rfl rfl ?_
        refine go_iconst C (1) dX9_ruleIsRight_44 (by decide) ?_
        refine go_icmp_eqN (a := th) (b := 1) C 53 dX9_ruleIsRight_45 (by decide) (by omega) (by omega) (fun c_45 => ?_) (fun c_45 => ?_)
        · refine go_iconst C (0) dX9_ruleIsRight_53 (by decide) ?_
          refine go_se [.int (go_b (false))] rfl ?_
          exact go_zret C E dX9_ruleIsRight_54 (go_bn _) (by rw [← hR]; first | contradiction | rfl | (simp [pc_mR, *]; done) | (rw [decide_eq_true (by omega)]; done) | (rw [decide_eq_false (by omega)]; done) | (simp_all [pc_mR]; done) | (simp [pc_mR]; omega) | (simp_all [pc_mR]; omega) | omega) rfl
        · refine go_iload_n C dX9_ruleIsRight_48 2 rfl rfl ?_
          refine go_iconst C (1) dX9_ruleIsRight_49 (by decide) ?_
          refine go_icmp_eqN (a := h) (b := 1) C 55 dX9_ruleIsRight_50 (by decide) (by omega) (by omega) (fun c_50 => ?_) (fun c_50 => ?_)
          · refine go_iconst C (1) dX9_ruleIsRight_55 (by decide) ?_
            refine go_istore_n C [(0, .ref mo), (1, .int (nI r)), (2, .int (nI h)), (3, .int 1), (4, .int (nI i)), (5, .int (pc_op (pc_rr Rf r i)))] dX9_ruleIsRight_56 [1, 2, 3, 0, 4, 5] rfl (by decide) rfl ?_
            refine go_iconst C (0) dX9_ruleIsRight_57 (by decide) ?_
            refine go_istore_n C [(0, .ref mo), (1, .int (nI r)), (2, .int 0), (3, .int 1), (4, .int (nI i)), (5, .int (pc_op (pc_rr Rf r i)))] dX9_ruleIsRight_58 [1, 2, 0, 3, 4, 5] rfl (by decide) rfl ?_
            refine go_goto C 99 dX9_ruleIsRight_59 (by decide) ?_
            refine go_iinc C (nI (i + 1)) [(0, .ref mo), (1, .int (nI r)), (2, .int 0), (3, .int 1), (4, .int (nI (i + 1))), (5, .int (pc_op (pc_rr Rf r i)))] dX9_ruleIsRight_99 4 [1, 2, 3, 4, 0, 5] rfl (nI_add i 1) (by decide) rfl ?_
            refine go_goto C 7 dX9_ruleIsRight_102 (by decide) ?_
            refine go_lv [(0, .ref mo), (1, .int (nI r)), (2, .int 0), (3, .int 1), (4, .int (nI (i + 1)))] [0, 1, 2, 3, 4] rfl ?_
            exact ih (i + 1) 1 0 (by omega) (by omega) (by omega) (by omega) (by rw [← hR]; first | contradiction | rfl | (simp [pc_mR, *]; done) | (rw [decide_eq_true (by omega)]; done) | (rw [decide_eq_false (by omega)]; done) | (simp_all [pc_mR]; done) | (simp [pc_mR]; omega) | (simp_all [pc_mR]; omega) | omega)
          · refine go_iconst C (0) dX9_ruleIsRight_53 (by decide) ?_
            refine go_se [.int (go_b (false))] rfl ?_
            exact go_zret C E dX9_ruleIsRight_54 (go_bn _) (by rw [← hR]; first | contradiction | rfl | (simp [pc_mR, *]; done) | (rw [decide_eq_true (by omega)]; done) | (rw [decide_eq_false (by omega)]; done) | (simp_all [pc_mR]; done) | (simp [pc_mR]; omega) | (simp_all [pc_mR]; omega) | omega) rfl
set_option maxHeartbeats 4000000 in
set_option maxRecDepth 100000 in
theorem c_X9_ruleIsRight (G : go_G) (rs : va_W) (p0 : Nat) (p1 : Nat) (p2 : Nat) (mo : Nat) (mfi : Nat) (mbl : Nat) (mpb : Nat) (mru : Nat) (mle : Nat) (miv : Nat) (mst : Nat) (mpa : Nat) (mhe : Nat) (maf : Nat) (mno : Nat) (msk : Nat) (nr : Nat) (il : Nat) (ct : Nat) (ex : Nat) (br : Int32) (sl : Bool) (fu : Bool) (Rf : Nat → Int32) (ln : Nat → Nat) (r : Nat) (hp0 : rs[p0]? = some (mo, .inr (8, [.ref mfi, .ref mbl, .ref mpb, .ref mru, .ref mle, .ref miv, .ref mst, .ref mpa, .ref mhe, .ref maf, .ref mno, .ref msk, .int (nI nr), .int (nI il), .int (nI ct), .int (nI ex), .int br, .int (go_b (sl)), .int (go_b (fu))]))) (hp1 : rs[p1]? = some (mru, .inl (G.2.1, 384, .inl Rf))) (hp2 : rs[p2]? = some (mle, .inl (G.2.1, 12, .inl (pc_lf ln)))) (hr : r < 12) (hln : ∀ r, r < 12 → ln r ≤ 32) : go_Fn yX9_ruleIsRight cX9_ruleIsRight 6 (some .boolean) 1 21 G [.ref mo, .int (nI r)] rs (some (.int (go_b (pc_mR (ln r) (pc_rr Rf r) (ln r + 1) 0 0 0)))) rs := by
  refine go_Fn_of (by decide) (Nat.le_of_ble_eq_true rfl) (fun X C E => ?_)
  show go_Go X (0, 0) rs [(0, .ref mo), (1, .int (nI r))] [] 0
  have hlr := hln r hr
  refine go_iconst C (0) dX9_ruleIsRight_0 (by decide) ?_
  refine go_istore_n C [(0, .ref mo), (1, .int (nI r)), (2, .int 0)] dX9_ruleIsRight_1 [1, 2, 0] rfl (by decide) rfl ?_
  refine go_iconst C (0) dX9_ruleIsRight_2 (by decide) ?_
  refine go_istore_n C [(0, .ref mo), (1, .int (nI r)), (2, .int 0), (3, .int 0)] dX9_ruleIsRight_3 [1, 2, 3, 0] rfl (by decide) rfl ?_
  refine go_iconst C (0) dX9_ruleIsRight_4 (by decide) ?_
  refine go_istore C [(0, .ref mo), (1, .int (nI r)), (2, .int 0), (3, .int 0), (4, .int 0)] dX9_ruleIsRight_5 [1, 2, 3, 4, 0] (by decide) rfl ?_
  exact l_X9_ruleIsRight_7 G rs p0 p1 p2 mo mfi mbl mpb mru mle miv mst mpa mhe maf mno msk nr il ct ex br sl fu Rf ln r hp0 hp1 hp2 hr hln  C E (ln r + 1) 0 0 0 (by omega) (by omega) (by omega) (by omega) rfl
set_option maxHeartbeats 4000000 in
set_option maxRecDepth 100000 in
theorem l_X9_invariantIsRight_4 {X : go_X} (G : go_G) (rs : va_W) (p0 : Nat) (p1 : Nat) (mo : Nat) (mfi : Nat) (mbl : Nat) (mpb : Nat) (mru : Nat) (mle : Nat) (miv : Nat) (mst : Nat) (mpa : Nat) (mhe : Nat) (maf : Nat) (mno : Nat) (msk : Nat) (nr : Nat) (il : Nat) (ct : Nat) (ex : Nat) (br : Int32) (sl : Bool) (fu : Bool) (If : Nat → Int32) (hp0 : rs[p0]? = some (mo, .inr (8, [.ref mfi, .ref mbl, .ref mpb, .ref mru, .ref mle, .ref miv, .ref mst, .ref mpa, .ref mhe, .ref maf, .ref mno, .ref msk, .int (nI nr), .int (nI il), .int (nI ct), .int (nI ex), .int br, .int (go_b (sl)), .int (go_b (fu))]))) (hp1 : rs[p1]? = some (miv, .inl (G.2.1, 32, .inl If))) (hil : il ≤ 32) {Rr : Option Value}  (C : go_Cx X cX9_invariantIsRight RX9 (some .boolean) 4 1 21 0 0 G) (E : go_Ex X Rr rs)  : ∀ (n : Nat) (i : Nat) (h : Nat) (hin : il < i + n) (hi : i ≤ il) (hh : h ≤ 8) (hR : some (.int (go_b (pc_mI il If n i h))) = Rr), go_Go X (0, 0) rs [(0, .ref mo), (1, .int (nI h)), (2, .int (nI i))] [] 4 := by
  intro n
  induction n with
  | zero => intro i h hin hi hh hR; omega
  | succ n ih =>
    intro i h hin hi hh hR
    refine go_iload_n C dX9_invariantIsRight_4 2 rfl rfl ?_
    refine go_aload_n C dX9_invariantIsRight_5 0 rfl rfl ?_
    refine go_get C (v := .int (nI il)) fl_X9_53 dX9_invariantIsRight_6 p0 hp0 rfl ?_
    refine go_icmp_geN (a := i) (b := il) C 59 dX9_invariantIsRight_9 (by decide) (by omega) (by omega) (fun c_9 => ?_) (fun c_9 => ?_)
    · refine go_iload_n C dX9_invariantIsRight_59 1 rfl rfl ?_
      refine go_iconst C (1) dX9_invariantIsRight_60 (by decide) ?_
      refine go_icmp_neN (a := h) (b := 1) C 68 dX9_invariantIsRight_61 (by decide) (by omega) (by omega) (fun c_61 => ?_) (fun c_61 => ?_)
      · refine go_iconst C (0) dX9_invariantIsRight_68 (by decide) ?_
        refine go_se [.int (go_b (false))] rfl ?_
        exact go_zret C E dX9_invariantIsRight_69 (go_bn _) (by rw [← hR]; first | contradiction | rfl | (simp [pc_mI, *]; done) | (rw [decide_eq_true (by omega)]; done) | (rw [decide_eq_false (by omega)]; done) | (simp_all [pc_mI]; done) | (simp [pc_mI]; omega) | (simp_all [pc_mI]; omega) | omega) rfl
      · refine go_iconst C (1) dX9_invariantIsRight_64 (by decide) ?_
        refine go_goto C 69 dX9_invariantIsRight_65 (by decide) ?_
        refine go_se [.int (go_b (true))] rfl ?_
        exact go_zret C E dX9_invariantIsRight_69 (go_bn _) (by rw [← hR]; first | contradiction | rfl | (simp [pc_mI, *]; done) | (rw [decide_eq_true (by omega)]; done) | (rw [decide_eq_false (by omega)]; done) | (simp_all [pc_mI]; done) | (simp [pc_mI]; omega) | (simp_all [pc_mI]; omega) | omega) rfl
    · refine go_aload_n C dX9_invariantIsRight_12 0 rfl rfl ?_
      refine go_get C (v := .ref miv) fl_X9_25 dX9_invariantIsRight_13 p0 hp0 rfl ?_
      refine go_iload_n C dX9_invariantIsRight_16 2 rfl rfl ?_
      refine go_iald C dX9_invariantIsRight_17 p1 hp1 (i) rfl (by omega) (by decide) ?_
      refine go_sipush C (255) dX9_invariantIsRight_18 (by decide) ?_
      refine go_iand C (z := pc_op (If i)) dX9_invariantIsRight_21 rfl ?_
      refine go_istore_n C [(0, .ref mo), (1, .int (nI h)), (2, .int (nI i)), (3, .int (pc_op (If i)))] dX9_invariantIsRight_22 [1, 2, 3, 0] rfl (by decide) rfl ?_
      refine go_iload_n C dX9_invariantIsRight_23 3 rfl rfl ?_
      refine go_bipush C (12) dX9_invariantIsRight_24 (by decide) ?_
      refine go_icmp_ne C 41 dX9_invariantIsRight_26 (by decide) (fun c_26 => ?_) (fun c_26 => ?_)
      · refine go_iload_n C dX9_invariantIsRight_41 3 rfl rfl ?_
        refine go_iload_n C dX9_invariantIsRight_42 1 rfl rfl ?_
        refine go_cS C (c_X9_height G rs  (pc_op (If i)) h  (by omega)) ml_X9_76 mc_X9_height dX9_invariantIsRight_43 [] rfl rfl rfl ⟨Nat.le_of_ble_eq_true rfl, Nat.le_of_ble_eq_true rfl, Nat.zero_le _, Nat.zero_le _, Nat.le_of_ble_eq_true rfl⟩ [.int (pc_oi (pc_hB h (pc_op (If i))))] rfl ?_
        refine go_istore_n C [(0, .ref mo), (1, .int (pc_oi (pc_hB h (pc_op (If i))))), (2, .int (nI i)), (3, .int (pc_op (If i)))] dX9_invariantIsRight_46 [1, 0, 2, 3] rfl (by decide) rfl ?_
        refine go_iload_n C dX9_invariantIsRight_47 1 rfl rfl ?_
        refine go_if_ge C 53 dX9_invariantIsRight_48 (by decide) (fun c_48 => ?_) (fun c_48 => ?_)
        · obtain ⟨h_1, hh_1, hb_1⟩ := pc_oiB_some (by omega) c_48
          refine go_le [(0, .ref mo), (1, .int (nI h_1)), (2, .int (nI i)), (3, .int (pc_op (If i)))] (by rw [hh_1]; rfl) ?_
          refine go_iinc C (nI (i + 1)) [(0, .ref mo), (1, .int (nI h_1)), (2, .int (nI (i + 1))), (3, .int (pc_op (If i)))] dX9_invariantIsRight_53 2 [1, 2, 0, 3] rfl (nI_add i 1) (by decide) rfl ?_
          refine go_goto C 4 dX9_invariantIsRight_56 (by decide) ?_
          refine go_lv [(0, .ref mo), (1, .int (nI h_1)), (2, .int (nI (i + 1)))] [0, 1, 2] rfl ?_
          exact ih (i + 1) h_1 (by omega) (by omega) (by omega) (by rw [← hR]; first | contradiction | rfl | (simp [pc_mI, *]; done) | (rw [decide_eq_true (by omega)]; done) | (rw [decide_eq_false (by omega)]; done) | (simp_all [pc_mI]; done) | (simp [pc_mI]; omega) | (simp_all [pc_mI]; omega) | omega)
        · refine go_iconst C (0) dX9_invariantIsRight_51 (by decide) ?_
          refine go_se [.int (go_b (false))] rfl ?_
          exact go_zret C E dX9_invariantIsRight_52 (go_bn _) (by rw [← hR]; simp [pc_mI, c_9, c_26, pc_oiB_none hh c_48]) rfl
      · refine go_iload_n C dX9_invariantIsRight_29 1 rfl rfl ?_
        refine go_iconst C (1) dX9_invariantIsRight_30 (by decide) ?_
        refine go_icmp_eqN (a := h) (b := 1) C 36 dX9_invariantIsRight_31 (by decide) (by omega) (by omega) (fun c_31 => ?_) (fun c_31 => ?_)
        · refine go_iconst C (0) dX9_invariantIsRight_36 (by decide) ?_
          refine go_istore_n C [(0, .ref mo), (1, .int 0), (2, .int (nI i)), (3, .int (pc_op (If i)))] dX9_invariantIsRight_37 [1, 0, 2, 3] rfl (by decide) rfl ?_
          refine go_goto C 53 dX9_invariantIsRight_38 (by decide) ?_
          refine go_iinc C (nI (i + 1)) [(0, .ref mo), (1, .int 0), (2, .int (nI (i + 1))), (3, .int (pc_op (If i)))] dX9_invariantIsRight_53 2 [1, 2, 0, 3] rfl (nI_add i 1) (by decide) rfl ?_
          refine go_goto C 4 dX9_invariantIsRight_56 (by decide) ?_
          refine go_lv [(0, .ref mo), (1, .int 0), (2, .int (nI (i + 1)))] [0, 1, 2] rfl ?_
          exact ih (i + 1) 0 (by omega) (by omega) (by omega) (by rw [← hR]; first | contradiction | rfl | (simp [pc_mI, *]; done) | (rw [decide_eq_true (by omega)]; done) | (rw [decide_eq_false (by omega)]; done) | (simp_all [pc_mI]; done) | (simp [pc_mI]; omega) | (simp_all [pc_mI]; omega) | omega)
        · refine go_iconst C (0) dX9_invariantIsRight_34 (by decide) ?_
          refine go_se [.int (go_b (false))] rfl ?_
          exact go_zret C E dX9_invariantIsRight_35 (go_bn _) (by rw [← hR]; first | contradiction | rfl | (simp [pc_mI, *]; done) | (rw [decide_eq_true (by omega)]; done) | (rw [decide_eq_false (by omega)]; done) | (simp_all [pc_mI]; done) | (simp [pc_mI]; omega) | (simp_all [pc_mI]; omega) | omega) rfl
set_option maxHeartbeats 4000000 in
set_option maxRecDepth 100000 in
theorem c_X9_invariantIsRight (G : go_G) (rs : va_W) (p0 : Nat) (p1 : Nat) (mo : Nat) (mfi : Nat) (mbl : Nat) (mpb : Nat) (mru : Nat) (mle : Nat) (miv : Nat) (mst : Nat) (mpa : Nat) (mhe : Nat) (maf : Nat) (mno : Nat) (msk : Nat) (nr : Nat) (il : Nat) (ct : Nat) (ex : Nat) (br : Int32) (sl : Bool) (fu : Bool) (If : Nat → Int32) (hp0 : rs[p0]? = some (mo, .inr (8, [.ref mfi, .ref mbl, .ref mpb, .ref mru, .ref mle, .ref miv, .ref mst, .ref mpa, .ref mhe, .ref maf, .ref mno, .ref msk, .int (nI nr), .int (nI il), .int (nI ct), .int (nI ex), .int br, .int (go_b (sl)), .int (go_b (fu))]))) (hp1 : rs[p1]? = some (miv, .inl (G.2.1, 32, .inl If))) (hil : il ≤ 32) : go_Fn yX9_invariantIsRight cX9_invariantIsRight 4 (some .boolean) 1 21 G [.ref mo] rs (some (.int (go_b (pc_mI il If (il + 1) 0 0)))) rs := by
  refine go_Fn_of (by decide) (Nat.le_of_ble_eq_true rfl) (fun X C E => ?_)
  show go_Go X (0, 0) rs [(0, .ref mo)] [] 0
  refine go_iconst C (0) dX9_invariantIsRight_0 (by decide) ?_
  refine go_istore_n C [(0, .ref mo), (1, .int 0)] dX9_invariantIsRight_1 [1, 0] rfl (by decide) rfl ?_
  refine go_iconst C (0) dX9_invariantIsRight_2 (by decide) ?_
  refine go_istore_n C [(0, .ref mo), (1, .int 0), (2, .int 0)] dX9_invariantIsRight_3 [1, 2, 0] rfl (by decide) rfl ?_
  exact l_X9_invariantIsRight_4 G rs p0 p1 mo mfi mbl mpb mru mle miv mst mpa mhe maf mno msk nr il ct ex br sl fu If hp0 hp1 hil  C E (il + 1) 0 0 (by omega) (by omega) (by omega) rfl
set_option maxHeartbeats 4000000 in
set_option maxRecDepth 100000 in
theorem c_X9_exchanged (G : go_G) (rs : va_W)  (w : Int32) (a : Int32) (b : Int32)   : go_Fn yX9_exchanged cX9_exchanged 5 (some .int) 0 0 G [.int w, .int a, .int b] rs (some (.int (pc_ex w a b))) rs := by
  refine go_Fn_of (by decide) (Nat.le_of_ble_eq_true rfl) (fun X C E => ?_)
  show go_Go X (0, 0) rs [(0, .int w), (1, .int a), (2, .int b)] [] 0
  refine go_iload_n C dX9_exchanged_0 0 rfl rfl ?_
  refine go_sipush C (255) dX9_exchanged_1 (by decide) ?_
  refine go_iand C (z := pc_op w) dX9_exchanged_4 rfl ?_
  refine go_istore_n C [(0, .int w), (1, .int a), (2, .int b), (3, .int (pc_op w))] dX9_exchanged_5 [1, 2, 3, 0] rfl (by decide) rfl ?_
  refine go_iload_n C dX9_exchanged_6 3 rfl rfl ?_
  refine go_iconst C (1) dX9_exchanged_7 (by decide) ?_
  refine go_icmp_eq C 19 dX9_exchanged_8 (by decide) (fun c_8 => ?_) (fun c_8 => ?_)
  · refine go_iload_n C dX9_exchanged_19 0 rfl rfl ?_
    refine go_bipush C (8) dX9_exchanged_20 (by decide) ?_
    refine go_ishr C (z := pc_k w) dX9_exchanged_22 rfl ?_
    refine go_istore C [(0, .int w), (1, .int a), (2, .int b), (3, .int (pc_op w)), (4, .int (pc_k w))] dX9_exchanged_23 [1, 2, 3, 4, 0] (by decide) rfl ?_
    refine go_iload C dX9_exchanged_25 4 rfl ?_
    refine go_iload_n C dX9_exchanged_27 1 rfl rfl ?_
    refine go_icmp_ne C 40 dX9_exchanged_28 (by decide) (fun c_28 => ?_) (fun c_28 => ?_)
    · refine go_iload C dX9_exchanged_40 4 rfl ?_
      refine go_iload_n C dX9_exchanged_42 2 rfl rfl ?_
      refine go_icmp_ne C 55 dX9_exchanged_43 (by decide) (fun c_43 => ?_) (fun c_43 => ?_)
      · refine go_iload_n C dX9_exchanged_55 0 rfl rfl ?_
        exact go_iret C E dX9_exchanged_56 (by first | contradiction | rfl | (simp [pc_ex, *]; done) | (rw [decide_eq_true (by omega)]; done) | (rw [decide_eq_false (by omega)]; done) | (simp_all [pc_ex]; done) | (simp [pc_ex]; omega) | (simp_all [pc_ex]; omega) | omega) rfl
      · refine go_iload_n C dX9_exchanged_46 1 rfl rfl ?_
        refine go_bipush C (8) dX9_exchanged_47 (by decide) ?_
        refine go_ishl C (z := a <<< 8) dX9_exchanged_49 rfl ?_
        refine go_iload_n C dX9_exchanged_50 3 rfl rfl ?_
        refine go_ior C (z := (a <<< 8) ||| (pc_op w)) dX9_exchanged_51 rfl ?_
        refine go_goto C 56 dX9_exchanged_52 (by decide) ?_
        exact go_iret C E dX9_exchanged_56 (by first | contradiction | rfl | (simp [pc_ex, *]; done) | (rw [decide_eq_true (by omega)]; done) | (rw [decide_eq_false (by omega)]; done) | (simp_all [pc_ex]; done) | (simp [pc_ex]; omega) | (simp_all [pc_ex]; omega) | omega) rfl
    · refine go_iload_n C dX9_exchanged_31 2 rfl rfl ?_
      refine go_bipush C (8) dX9_exchanged_32 (by decide) ?_
      refine go_ishl C (z := b <<< 8) dX9_exchanged_34 rfl ?_
      refine go_iload_n C dX9_exchanged_35 3 rfl rfl ?_
      refine go_ior C (z := (b <<< 8) ||| (pc_op w)) dX9_exchanged_36 rfl ?_
      refine go_goto C 56 dX9_exchanged_37 (by decide) ?_
      exact go_iret C E dX9_exchanged_56 (by first | contradiction | rfl | (simp [pc_ex, *]; done) | (rw [decide_eq_true (by omega)]; done) | (rw [decide_eq_false (by omega)]; done) | (simp_all [pc_ex]; done) | (simp [pc_ex]; omega) | (simp_all [pc_ex]; omega) | omega) rfl
  · refine go_iload_n C dX9_exchanged_11 3 rfl rfl ?_
    refine go_bipush C (11) dX9_exchanged_12 (by decide) ?_
    refine go_icmp_eq C 19 dX9_exchanged_14 (by decide) (fun c_14 => ?_) (fun c_14 => ?_)
    · refine go_iload_n C dX9_exchanged_19 0 rfl rfl ?_
      refine go_bipush C (8) dX9_exchanged_20 (by decide) ?_
      refine go_ishr C (z := pc_k w) dX9_exchanged_22 rfl ?_
      refine go_istore C [(0, .int w), (1, .int a), (2, .int b), (3, .int (pc_op w)), (4, .int (pc_k w))] dX9_exchanged_23 [1, 2, 3, 4, 0] (by decide) rfl ?_
      refine go_iload C dX9_exchanged_25 4 rfl ?_
      refine go_iload_n C dX9_exchanged_27 1 rfl rfl ?_
      refine go_icmp_ne C 40 dX9_exchanged_28 (by decide) (fun c_28 => ?_) (fun c_28 => ?_)
      · refine go_iload C dX9_exchanged_40 4 rfl ?_
        refine go_iload_n C dX9_exchanged_42 2 rfl rfl ?_
        refine go_icmp_ne C 55 dX9_exchanged_43 (by decide) (fun c_43 => ?_) (fun c_43 => ?_)
        · refine go_iload_n C dX9_exchanged_55 0 rfl rfl ?_
          exact go_iret C E dX9_exchanged_56 (by first | contradiction | rfl | (simp [pc_ex, *]; done) | (rw [decide_eq_true (by omega)]; done) | (rw [decide_eq_false (by omega)]; done) | (simp_all [pc_ex]; done) | (simp [pc_ex]; omega) | (simp_all [pc_ex]; omega) | omega) rfl
        · refine go_iload_n C dX9_exchanged_46 1 rfl rfl ?_
          refine go_bipush C (8) dX9_exchanged_47 (by decide) ?_
          refine go_ishl C (z := a <<< 8) dX9_exchanged_49 rfl ?_
          refine go_iload_n C dX9_exchanged_50 3 rfl rfl ?_
          refine go_ior C (z := (a <<< 8) ||| (pc_op w)) dX9_exchanged_51 rfl ?_
          refine go_goto C 56 dX9_exchanged_52 (by decide) ?_
          exact go_iret C E dX9_exchanged_56 (by first | contradiction | rfl | (simp [pc_ex, *]; done) | (rw [decide_eq_true (by omega)]; done) | (rw [decide_eq_false (by omega)]; done) | (simp_all [pc_ex]; done) | (simp [pc_ex]; omega) | (simp_all [pc_ex]; omega) | omega) rfl
      · refine go_iload_n C dX9_exchanged_31 2 rfl rfl ?_
        refine go_bipush C (8) dX9_exchanged_32 (by decide) ?_
        refine go_ishl C (z := b <<< 8) dX9_exchanged_34 rfl ?_
        refine go_iload_n C dX9_exchanged_35 3 rfl rfl ?_
        refine go_ior C (z := (b <<< 8) ||| (pc_op w)) dX9_exchanged_36 rfl ?_
        refine go_goto C 56 dX9_exchanged_37 (by decide) ?_
        exact go_iret C E dX9_exchanged_56 (by first | contradiction | rfl | (simp [pc_ex, *]; done) | (rw [decide_eq_true (by omega)]; done) | (rw [decide_eq_false (by omega)]; done) | (simp_all [pc_ex]; done) | (simp [pc_ex]; omega) | (simp_all [pc_ex]; omega) | omega) rfl
    · refine go_iload_n C dX9_exchanged_17 0 rfl rfl ?_
      exact go_iret C E dX9_exchanged_18 (by first | contradiction | rfl | (simp [pc_ex, *]; done) | (rw [decide_eq_true (by omega)]; done) | (rw [decide_eq_false (by omega)]; done) | (simp_all [pc_ex]; done) | (simp [pc_ex]; omega) | (simp_all [pc_ex]; omega) | omega) rfl
set_option maxHeartbeats 4000000 in
set_option maxRecDepth 100000 in
theorem l_X9_becomesRule_20 {X : go_X} (G : go_G) (rs : va_W) (p0 : Nat) (p1 : Nat) (p2 : Nat) (mo : Nat) (mfi : Nat) (mbl : Nat) (mpb : Nat) (mru : Nat) (mle : Nat) (miv : Nat) (mst : Nat) (mpa : Nat) (mhe : Nat) (maf : Nat) (mno : Nat) (msk : Nat) (nr : Nat) (il : Nat) (ct : Nat) (ex : Nat) (br : Int32) (sl : Bool) (fu : Bool) (Rf : Nat → Int32) (ln : Nat → Nat) (r : Nat) (q : Nat) (u : Int32) (v : Int32) (hp0 : rs[p0]? = some (mo, .inr (8, [.ref mfi, .ref mbl, .ref mpb, .ref mru, .ref mle, .ref miv, .ref mst, .ref mpa, .ref mhe, .ref maf, .ref mno, .ref msk, .int (nI nr), .int (nI il), .int (nI ct), .int (nI ex), .int br, .int (go_b (sl)), .int (go_b (fu))]))) (hp1 : rs[p1]? = some (mru, .inl (G.2.1, 384, .inl Rf))) (hp2 : rs[p2]? = some (mle, .inl (G.2.1, 12, .inl (pc_lf ln)))) (hr : r < 12) (hln : ∀ r, r < 12 → ln r ≤ 32) (hq : q < 12) {Rr : Option Value} (heq : ln r = ln q) (C : go_Cx X cX9_becomesRule RX9 (some .boolean) 6 1 24 0 0 G) (E : go_Ex X Rr rs)  : ∀ (n : Nat) (i : Nat) (hin : ln r < i + n) (hi : i ≤ ln r) (hR : some (.int (go_b (pc_mb (ln r) (pc_rr Rf r) (pc_rr Rf q) u v n i))) = Rr), go_Go X (0, 0) rs [(0, .ref mo), (1, .int (nI r)), (2, .int (nI q)), (3, .int u), (4, .int v), (5, .int (nI i))] [] 20 := by
  intro n
  induction n with
  | zero => intro i hin hi hR; omega
  | succ n ih =>
    intro i hin hi hR
    have hlr := hln r hr
    have hlq := hln q hq
    refine go_iload C dX9_becomesRule_20 5 rfl ?_
    refine go_aload_n C dX9_becomesRule_22 0 rfl rfl ?_
    refine go_get C (v := .ref mle) fl_X9_22 dX9_becomesRule_23 p0 hp0 rfl ?_
    refine go_iload_n C dX9_becomesRule_26 1 rfl rfl ?_
    refine go_iald C dX9_becomesRule_27 p2 hp2 (r) rfl (by omega) (by decide) ?_
    refine go_se [.int (nI (ln r)), .int (nI i)] rfl ?_
    refine go_icmp_geN (a := i) (b := ln r) C 72 dX9_becomesRule_28 (by decide) (by omega) (by omega) (fun c_28 => ?_) (fun c_28 => ?_)
    · refine go_iconst C (1) dX9_becomesRule_72 (by decide) ?_
      refine go_se [.int (go_b (true))] rfl ?_
      exact go_zret C E dX9_becomesRule_73 (go_bn _) (by rw [← hR]; first | (simp [pc_mb, c_28, c_61]; done) | (simp [pc_mb, c_28]; done)) rfl
    · refine go_aload_n C dX9_becomesRule_31 0 rfl rfl ?_
      refine go_get C (v := .ref mru) fl_X9_19 dX9_becomesRule_32 p0 hp0 rfl ?_
      refine go_bipush C (32) dX9_becomesRule_35 (by decide) ?_
      refine go_iload_n C dX9_becomesRule_37 1 rfl rfl ?_
      refine go_imul C (z := nI (32 * r)) dX9_becomesRule_38 (pk_mul 32 r) ?_
      refine go_iload C dX9_becomesRule_39 5 rfl ?_
      refine go_iadd C (z := nI ((32 * r) + i)) dX9_becomesRule_41 (nI_add (32 * r) i) ?_
      refine go_iald C dX9_becomesRule_42 p1 hp1 ((32 * r) + i) rfl (by omega) (by decide) ?_
      refine go_se [.int (pc_rr Rf r i)] rfl ?_
      refine go_iload_n C dX9_becomesRule_43 3 rfl rfl ?_
      refine go_iload C dX9_becomesRule_44 4 rfl ?_
      refine go_cS C (c_X9_exchanged G rs  (pc_rr Rf r i) u v  ) ml_X9_80 mc_X9_exchanged dX9_becomesRule_46 [] rfl rfl rfl ⟨Nat.le_of_ble_eq_true rfl, Nat.le_of_ble_eq_true rfl, Nat.zero_le _, Nat.zero_le _, Nat.le_of_ble_eq_true rfl⟩ [.int (pc_ex (pc_rr Rf r i) u v)] rfl ?_
      refine go_aload_n C dX9_becomesRule_49 0 rfl rfl ?_
      refine go_get C (v := .ref mru) fl_X9_19 dX9_becomesRule_50 p0 hp0 rfl ?_
      refine go_bipush C (32) dX9_becomesRule_53 (by decide) ?_
      refine go_iload_n C dX9_becomesRule_55 2 rfl rfl ?_
      refine go_imul C (z := nI (32 * q)) dX9_becomesRule_56 (pk_mul 32 q) ?_
      refine go_iload C dX9_becomesRule_57 5 rfl ?_
      refine go_iadd C (z := nI ((32 * q) + i)) dX9_becomesRule_59 (nI_add (32 * q) i) ?_
      refine go_iald C dX9_becomesRule_60 p1 hp1 ((32 * q) + i) rfl (by omega) (by decide) ?_
      refine go_se [.int (pc_rr Rf q i), .int (pc_ex (pc_rr Rf r i) u v)] rfl ?_
      refine go_icmp_eq C 66 dX9_becomesRule_61 (by decide) (fun c_61 => ?_) (fun c_61 => ?_)
      · refine go_iinc C (nI (i + 1)) [(0, .ref mo), (1, .int (nI r)), (2, .int (nI q)), (3, .int u), (4, .int v), (5, .int (nI (i + 1)))] dX9_becomesRule_66 5 [1, 2, 3, 4, 5, 0] rfl (nI_add i 1) (by decide) rfl ?_
        refine go_goto C 20 dX9_becomesRule_69 (by decide) ?_
        exact ih (i + 1) (by omega) (by omega) (by rw [← hR]; simp [pc_mb, c_28, c_61])
      · refine go_iconst C (0) dX9_becomesRule_64 (by decide) ?_
        refine go_se [.int (go_b (false))] rfl ?_
        exact go_zret C E dX9_becomesRule_65 (go_bn _) (by rw [← hR]; first | (simp [pc_mb, c_28, c_61]; done) | (simp [pc_mb, c_28]; done)) rfl
set_option maxHeartbeats 4000000 in
set_option maxRecDepth 100000 in
theorem c_X9_becomesRule (G : go_G) (rs : va_W) (p0 : Nat) (p1 : Nat) (p2 : Nat) (mo : Nat) (mfi : Nat) (mbl : Nat) (mpb : Nat) (mru : Nat) (mle : Nat) (miv : Nat) (mst : Nat) (mpa : Nat) (mhe : Nat) (maf : Nat) (mno : Nat) (msk : Nat) (nr : Nat) (il : Nat) (ct : Nat) (ex : Nat) (br : Int32) (sl : Bool) (fu : Bool) (Rf : Nat → Int32) (ln : Nat → Nat) (r : Nat) (q : Nat) (u : Int32) (v : Int32) (hp0 : rs[p0]? = some (mo, .inr (8, [.ref mfi, .ref mbl, .ref mpb, .ref mru, .ref mle, .ref miv, .ref mst, .ref mpa, .ref mhe, .ref maf, .ref mno, .ref msk, .int (nI nr), .int (nI il), .int (nI ct), .int (nI ex), .int br, .int (go_b (sl)), .int (go_b (fu))]))) (hp1 : rs[p1]? = some (mru, .inl (G.2.1, 384, .inl Rf))) (hp2 : rs[p2]? = some (mle, .inl (G.2.1, 12, .inl (pc_lf ln)))) (hr : r < 12) (hln : ∀ r, r < 12 → ln r ≤ 32) (hq : q < 12) : go_Fn yX9_becomesRule cX9_becomesRule 6 (some .boolean) 1 24 G [.ref mo, .int (nI r), .int (nI q), .int u, .int v] rs (some (.int (go_b (pc_mB ln Rf r q u v)))) rs := by
  refine go_Fn_of (by decide) (Nat.le_of_ble_eq_true rfl) (fun X C E => ?_)
  show go_Go X (0, 0) rs [(0, .ref mo), (1, .int (nI r)), (2, .int (nI q)), (3, .int u), (4, .int v)] [] 0
  have hlr := hln r hr
  have hlq := hln q hq
  refine go_aload_n C dX9_becomesRule_0 0 rfl rfl ?_
  refine go_get C (v := .ref mle) fl_X9_22 dX9_becomesRule_1 p0 hp0 rfl ?_
  refine go_iload_n C dX9_becomesRule_4 1 rfl rfl ?_
  refine go_iald C dX9_becomesRule_5 p2 hp2 (r) rfl (by omega) (by decide) ?_
  refine go_se [.int (nI (ln r))] rfl ?_
  refine go_aload_n C dX9_becomesRule_6 0 rfl rfl ?_
  refine go_get C (v := .ref mle) fl_X9_22 dX9_becomesRule_7 p0 hp0 rfl ?_
  refine go_iload_n C dX9_becomesRule_10 2 rfl rfl ?_
  refine go_iald C dX9_becomesRule_11 p2 hp2 (q) rfl (by omega) (by decide) ?_
  refine go_se [.int (nI (ln q)), .int (nI (ln r))] rfl ?_
  refine go_icmp_eqN (a := ln r) (b := ln q) C 17 dX9_becomesRule_12 (by decide) (by omega) (by omega) (fun c_12 => ?_) (fun c_12 => ?_)
  · refine go_iconst C (0) dX9_becomesRule_17 (by decide) ?_
    refine go_istore C [(0, .ref mo), (1, .int (nI r)), (2, .int (nI q)), (3, .int u), (4, .int v), (5, .int 0)] dX9_becomesRule_18 [1, 2, 3, 4, 5, 0] (by decide) rfl ?_
    exact l_X9_becomesRule_20 G rs p0 p1 p2 mo mfi mbl mpb mru mle miv mst mpa mhe maf mno msk nr il ct ex br sl fu Rf ln r q u v hp0 hp1 hp2 hr hln hq c_12 C E (ln r + 1) 0 (by omega) (by omega) (by simp [pc_mB, c_12])
  · refine go_iconst C (0) dX9_becomesRule_15 (by decide) ?_
    refine go_se [.int (go_b (false))] rfl ?_
    exact go_zret C E dX9_becomesRule_16 (go_bn _) (by simp [pc_mB, c_12]) rfl
set_option maxHeartbeats 4000000 in
set_option maxRecDepth 100000 in
theorem l_X9_isRuleAgain_3 {X : go_X} (G : go_G) (rs : va_W) (p0 : Nat) (p1 : Nat) (p2 : Nat) (mo : Nat) (mfi : Nat) (mbl : Nat) (mpb : Nat) (mru : Nat) (mle : Nat) (miv : Nat) (mst : Nat) (mpa : Nat) (mhe : Nat) (maf : Nat) (mno : Nat) (msk : Nat) (nr : Nat) (il : Nat) (ct : Nat) (ex : Nat) (br : Int32) (sl : Bool) (fu : Bool) (Rf : Nat → Int32) (ln : Nat → Nat) (r : Nat) (u : Int32) (v : Int32) (hp0 : rs[p0]? = some (mo, .inr (8, [.ref mfi, .ref mbl, .ref mpb, .ref mru, .ref mle, .ref miv, .ref mst, .ref mpa, .ref mhe, .ref maf, .ref mno, .ref msk, .int (nI nr), .int (nI il), .int (nI ct), .int (nI ex), .int br, .int (go_b (sl)), .int (go_b (fu))]))) (hp1 : rs[p1]? = some (mru, .inl (G.2.1, 384, .inl Rf))) (hp2 : rs[p2]? = some (mle, .inl (G.2.1, 12, .inl (pc_lf ln)))) (hr : r < 12) (hln : ∀ r, r < 12 → ln r ≤ 32) (hnr : nr ≤ 12) {Rr : Option Value}  (C : go_Cx X cX9_isRuleAgain RX9 (some .boolean) 5 2 49 0 0 G) (E : go_Ex X Rr rs)  : ∀ (n : Nat) (q : Nat) (hin : nr < q + n) (hi : q ≤ nr) (hR : some (.int (go_b (pc_mA nr ln Rf r u v n q))) = Rr), go_Go X (0, 0) rs [(0, .ref mo), (1, .int (nI r)), (2, .int u), (3, .int v), (4, .int (nI q))] [] 3 := by
  intro n
  induction n with
  | zero => intro q hin hi hR; omega
  | succ n ih =>
    intro q hin hi hR
    refine go_iload C dX9_isRuleAgain_3 4 rfl ?_
    refine go_aload_n C dX9_isRuleAgain_5 0 rfl rfl ?_
    refine go_get C (v := .int (nI nr)) fl_X9_50 dX9_isRuleAgain_6 p0 hp0 rfl ?_
    refine go_icmp_geN (a := q) (b := nr) C 32 dX9_isRuleAgain_9 (by decide) (by omega) (by omega) (fun c_9 => ?_) (fun c_9 => ?_)
    · refine go_iconst C (0) dX9_isRuleAgain_32 (by decide) ?_
      refine go_se [.int (go_b (false))] rfl ?_
      exact go_zret C E dX9_isRuleAgain_33 (go_bn _) (by rw [← hR]; first | contradiction | rfl | (simp [pc_mA, *]; done) | (rw [decide_eq_true (by omega)]; done) | (rw [decide_eq_false (by omega)]; done) | (simp_all [pc_mA]; done) | (simp [pc_mA]; omega) | (simp_all [pc_mA]; omega) | omega) rfl
    · refine go_aload_n C dX9_isRuleAgain_12 0 rfl rfl ?_
      refine go_iload_n C dX9_isRuleAgain_13 1 rfl rfl ?_
      refine go_iload C dX9_isRuleAgain_14 4 rfl ?_
      refine go_iload_n C dX9_isRuleAgain_16 2 rfl rfl ?_
      refine go_iload_n C dX9_isRuleAgain_17 3 rfl rfl ?_
      refine go_cV C (c_X9_becomesRule G rs p0 p1 p2 mo mfi mbl mpb mru mle miv mst mpa mhe maf mno msk nr il ct ex br sl fu Rf ln r q u v hp0 hp1 hp2 (by omega) hln (by omega)) ml_X9_84 mc_X9_becomesRule dX9_isRuleAgain_18 [] rfl rfl p0 hp0 rfl rfl ⟨Nat.le_of_ble_eq_true rfl, Nat.le_of_ble_eq_true rfl, Nat.zero_le _, Nat.zero_le _, Nat.le_of_ble_eq_true rfl⟩ [.int (go_b (pc_mB ln Rf r q u v))] rfl ?_
      refine go_if_eqB C 26 dX9_isRuleAgain_21 (by decide) (fun c_21 => ?_) (fun c_21 => ?_)
      · refine go_iinc C (nI (q + 1)) [(0, .ref mo), (1, .int (nI r)), (2, .int u), (3, .int v), (4, .int (nI (q + 1)))] dX9_isRuleAgain_26 4 [1, 2, 3, 4, 0] rfl (nI_add q 1) (by decide) rfl ?_
        refine go_goto C 3 dX9_isRuleAgain_29 (by decide) ?_
        exact ih (q + 1) (by omega) (by omega) (by rw [← hR]; first | contradiction | rfl | (simp [pc_mA, *]; done) | (rw [decide_eq_true (by omega)]; done) | (rw [decide_eq_false (by omega)]; done) | (simp_all [pc_mA]; done) | (simp [pc_mA]; omega) | (simp_all [pc_mA]; omega) | omega)
      · refine go_iconst C (1) dX9_isRuleAgain_24 (by decide) ?_
        refine go_se [.int (go_b (true))] rfl ?_
        exact go_zret C E dX9_isRuleAgain_25 (go_bn _) (by rw [← hR]; first | contradiction | rfl | (simp [pc_mA, *]; done) | (rw [decide_eq_true (by omega)]; done) | (rw [decide_eq_false (by omega)]; done) | (simp_all [pc_mA]; done) | (simp [pc_mA]; omega) | (simp_all [pc_mA]; omega) | omega) rfl
set_option maxHeartbeats 4000000 in
set_option maxRecDepth 100000 in
theorem c_X9_isRuleAgain (G : go_G) (rs : va_W) (p0 : Nat) (p1 : Nat) (p2 : Nat) (mo : Nat) (mfi : Nat) (mbl : Nat) (mpb : Nat) (mru : Nat) (mle : Nat) (miv : Nat) (mst : Nat) (mpa : Nat) (mhe : Nat) (maf : Nat) (mno : Nat) (msk : Nat) (nr : Nat) (il : Nat) (ct : Nat) (ex : Nat) (br : Int32) (sl : Bool) (fu : Bool) (Rf : Nat → Int32) (ln : Nat → Nat) (r : Nat) (u : Int32) (v : Int32) (hp0 : rs[p0]? = some (mo, .inr (8, [.ref mfi, .ref mbl, .ref mpb, .ref mru, .ref mle, .ref miv, .ref mst, .ref mpa, .ref mhe, .ref maf, .ref mno, .ref msk, .int (nI nr), .int (nI il), .int (nI ct), .int (nI ex), .int br, .int (go_b (sl)), .int (go_b (fu))]))) (hp1 : rs[p1]? = some (mru, .inl (G.2.1, 384, .inl Rf))) (hp2 : rs[p2]? = some (mle, .inl (G.2.1, 12, .inl (pc_lf ln)))) (hr : r < 12) (hln : ∀ r, r < 12 → ln r ≤ 32) (hnr : nr ≤ 12) : go_Fn yX9_isRuleAgain cX9_isRuleAgain 5 (some .boolean) 2 49 G [.ref mo, .int (nI r), .int u, .int v] rs (some (.int (go_b (pc_mA nr ln Rf r u v (nr + 1) 0)))) rs := by
  refine go_Fn_of (by decide) (Nat.le_of_ble_eq_true rfl) (fun X C E => ?_)
  show go_Go X (0, 0) rs [(0, .ref mo), (1, .int (nI r)), (2, .int u), (3, .int v)] [] 0
  refine go_iconst C (0) dX9_isRuleAgain_0 (by decide) ?_
  refine go_istore C [(0, .ref mo), (1, .int (nI r)), (2, .int u), (3, .int v), (4, .int 0)] dX9_isRuleAgain_1 [1, 2, 3, 4, 0] (by decide) rfl ?_
  exact l_X9_isRuleAgain_3 G rs p0 p1 p2 mo mfi mbl mpb mru mle miv mst mpa mhe maf mno msk nr il ct ex br sl fu Rf ln r u v hp0 hp1 hp2 hr hln hnr  C E (nr + 1) 0 (by omega) (by omega) rfl
set_option maxHeartbeats 4000000 in
set_option maxRecDepth 100000 in
theorem l_X9_end_2 {X : go_X} (G : go_G) (rs : va_W) (p0 : Nat) (p1 : Nat) (mo : Nat) (mfi : Nat) (mbl : Nat) (mpb : Nat) (mru : Nat) (mle : Nat) (miv : Nat) (mst : Nat) (mpa : Nat) (mhe : Nat) (maf : Nat) (mno : Nat) (msk : Nat) (nr : Nat) (il : Nat) (ct : Nat) (ex : Nat) (br : Int32) (sl : Bool) (fu : Bool) (If : Nat → Int32) (j : Nat) (hp0 : rs[p0]? = some (mo, .inr (8, [.ref mfi, .ref mbl, .ref mpb, .ref mru, .ref mle, .ref miv, .ref mst, .ref mpa, .ref mhe, .ref maf, .ref mno, .ref msk, .int (nI nr), .int (nI il), .int (nI ct), .int (nI ex), .int br, .int (go_b (sl)), .int (go_b (fu))]))) (hp1 : rs[p1]? = some (miv, .inl (G.2.1, 32, .inl If))) (hil : il ≤ 32) (hj : j ≤ il) {Rr : Option Value}  (C : go_Cx X cX9_end RX9 (some .int) 3 0 0 0 0 G) (E : go_Ex X Rr rs)  : ∀ (n : Nat) (i : Nat) (hin : il < i + n) (hi : i ≤ il) (hR : some (.int (nI (pc_next il If 12 n i))) = Rr), go_Go X (0, 0) rs [(0, .ref mo), (1, .int (nI j)), (2, .int (nI i))] [] 2 := by
  intro n
  induction n with
  | zero => intro i hin hi hR; omega
  | succ n ih =>
    intro i hin hi hR
    refine go_iload_n C dX9_end_2 2 rfl rfl ?_
    refine go_aload_n C dX9_end_3 0 rfl rfl ?_
    refine go_get C (v := .int (nI il)) fl_X9_53 dX9_end_4 p0 hp0 rfl ?_
    refine go_icmp_geN (a := i) (b := il) C 33 dX9_end_7 (by decide) (by omega) (by omega) (fun c_7 => ?_) (fun c_7 => ?_)
    · refine go_aload_n C dX9_end_33 0 rfl rfl ?_
      refine go_get C (v := .int (nI il)) fl_X9_53 dX9_end_34 p0 hp0 rfl ?_
      exact go_iret C E dX9_end_37 (by rw [← hR]; first | contradiction | rfl | (simp [pc_next, *]; done) | (rw [decide_eq_true (by omega)]; done) | (rw [decide_eq_false (by omega)]; done) | (simp_all [pc_next]; done) | (simp [pc_next]; omega) | (simp_all [pc_next]; omega) | omega) rfl
    · refine go_aload_n C dX9_end_10 0 rfl rfl ?_
      refine go_get C (v := .ref miv) fl_X9_25 dX9_end_11 p0 hp0 rfl ?_
      refine go_iload_n C dX9_end_14 2 rfl rfl ?_
      refine go_iald C dX9_end_15 p1 hp1 (i) rfl (by omega) (by decide) ?_
      refine go_sipush C (255) dX9_end_16 (by decide) ?_
      refine go_iand C (z := pc_op (If i)) dX9_end_19 rfl ?_
      refine go_bipush C (12) dX9_end_20 (by decide) ?_
      refine go_icmp_ne C 27 dX9_end_22 (by decide) (fun c_22 => ?_) (fun c_22 => ?_)
      · refine go_iinc C (nI (i + 1)) [(0, .ref mo), (1, .int (nI j)), (2, .int (nI (i + 1)))] dX9_end_27 2 [1, 2, 0] rfl (nI_add i 1) (by decide) rfl ?_
        refine go_goto C 2 dX9_end_30 (by decide) ?_
        exact ih (i + 1) (by omega) (by omega) (by rw [← hR]; first | contradiction | rfl | (simp [pc_next, *]; done) | (rw [decide_eq_true (by omega)]; done) | (rw [decide_eq_false (by omega)]; done) | (simp_all [pc_next]; done) | (simp [pc_next]; omega) | (simp_all [pc_next]; omega) | omega)
      · refine go_iload_n C dX9_end_25 2 rfl rfl ?_
        exact go_iret C E dX9_end_26 (by rw [← hR]; first | contradiction | rfl | (simp [pc_next, *]; done) | (rw [decide_eq_true (by omega)]; done) | (rw [decide_eq_false (by omega)]; done) | (simp_all [pc_next]; done) | (simp [pc_next]; omega) | (simp_all [pc_next]; omega) | omega) rfl
set_option maxHeartbeats 4000000 in
set_option maxRecDepth 100000 in
theorem c_X9_end (G : go_G) (rs : va_W) (p0 : Nat) (p1 : Nat) (mo : Nat) (mfi : Nat) (mbl : Nat) (mpb : Nat) (mru : Nat) (mle : Nat) (miv : Nat) (mst : Nat) (mpa : Nat) (mhe : Nat) (maf : Nat) (mno : Nat) (msk : Nat) (nr : Nat) (il : Nat) (ct : Nat) (ex : Nat) (br : Int32) (sl : Bool) (fu : Bool) (If : Nat → Int32) (j : Nat) (hp0 : rs[p0]? = some (mo, .inr (8, [.ref mfi, .ref mbl, .ref mpb, .ref mru, .ref mle, .ref miv, .ref mst, .ref mpa, .ref mhe, .ref maf, .ref mno, .ref msk, .int (nI nr), .int (nI il), .int (nI ct), .int (nI ex), .int br, .int (go_b (sl)), .int (go_b (fu))]))) (hp1 : rs[p1]? = some (miv, .inl (G.2.1, 32, .inl If))) (hil : il ≤ 32) (hj : j ≤ il) : go_Fn yX9_end cX9_end 3 (some .int) 0 0 G [.ref mo, .int (nI j)] rs (some (.int (nI (pc_pe il If j)))) rs := by
  refine go_Fn_of (by decide) (Nat.le_of_ble_eq_true rfl) (fun X C E => ?_)
  show go_Go X (0, 0) rs [(0, .ref mo), (1, .int (nI j))] [] 0
  refine go_iload_n C dX9_end_0 1 rfl rfl ?_
  refine go_istore_n C [(0, .ref mo), (1, .int (nI j)), (2, .int (nI j))] dX9_end_1 [1, 2, 0] rfl (by decide) rfl ?_
  exact l_X9_end_2 G rs p0 p1 mo mfi mbl mpb mru mle miv mst mpa mhe maf mno msk nr il ct ex br sl fu If j hp0 hp1 hil hj  C E (il + 1) j (by omega) (by omega) rfl
set_option maxHeartbeats 4000000 in
set_option maxRecDepth 100000 in
theorem c_X9_begins (G : go_G) (rs : va_W) (p0 : Nat) (p1 : Nat) (mo : Nat) (mfi : Nat) (mbl : Nat) (mpb : Nat) (mru : Nat) (mle : Nat) (miv : Nat) (mst : Nat) (mpa : Nat) (mhe : Nat) (maf : Nat) (mno : Nat) (msk : Nat) (nr : Nat) (il : Nat) (ct : Nat) (ex : Nat) (br : Int32) (sl : Bool) (fu : Bool) (If : Nat → Int32) (i : Nat) (hp0 : rs[p0]? = some (mo, .inr (8, [.ref mfi, .ref mbl, .ref mpb, .ref mru, .ref mle, .ref miv, .ref mst, .ref mpa, .ref mhe, .ref maf, .ref mno, .ref msk, .int (nI nr), .int (nI il), .int (nI ct), .int (nI ex), .int br, .int (go_b (sl)), .int (go_b (fu))]))) (hp1 : rs[p1]? = some (miv, .inl (G.2.1, 32, .inl If))) (hil : il ≤ 32) (hi : i ≤ il) : go_Fn yX9_begins cX9_begins 2 (some .boolean) 0 0 G [.ref mo, .int (nI i)] rs (some (.int (go_b (pc_ps If i)))) rs := by
  refine go_Fn_of (by decide) (Nat.le_of_ble_eq_true rfl) (fun X C E => ?_)
  show go_Go X (0, 0) rs [(0, .ref mo), (1, .int (nI i))] [] 0
  refine go_iload_n C dX9_begins_0 1 rfl rfl ?_
  refine go_if_eqN C 21 dX9_begins_1 (by decide) (by omega) (fun c_1 => ?_) (fun c_1 => ?_)
  · refine go_iconst C (1) dX9_begins_21 (by decide) ?_
    refine go_goto C 26 dX9_begins_22 (by decide) ?_
    refine go_se [.int (go_b (true))] rfl ?_
    exact go_zret C E dX9_begins_26 (go_bn _) (by first | contradiction | rfl | (simp [pc_ps, *]; done) | (rw [decide_eq_true (by omega)]; done) | (rw [decide_eq_false (by omega)]; done) | (simp_all [pc_ps]; done) | (simp [pc_ps]; omega) | (simp_all [pc_ps]; omega) | omega) rfl
  · refine go_aload_n C dX9_begins_4 0 rfl rfl ?_
    refine go_get C (v := .ref miv) fl_X9_25 dX9_begins_5 p0 hp0 rfl ?_
    refine go_iload_n C dX9_begins_8 1 rfl rfl ?_
    refine go_iconst C (1) dX9_begins_9 (by decide) ?_
    refine go_isub C (z := nI (i - 1)) dX9_begins_10 (pk_sub (a := i) (b := 1) (by omega)) ?_
    refine go_iald C dX9_begins_11 p1 hp1 (i - 1) rfl (by omega) (by decide) ?_
    refine go_sipush C (255) dX9_begins_12 (by decide) ?_
    refine go_iand C (z := pc_op (If (i - 1))) dX9_begins_15 rfl ?_
    refine go_bipush C (12) dX9_begins_16 (by decide) ?_
    refine go_icmp_ne C 25 dX9_begins_18 (by decide) (fun c_18 => ?_) (fun c_18 => ?_)
    · refine go_iconst C (0) dX9_begins_25 (by decide) ?_
      refine go_se [.int (go_b (false))] rfl ?_
      exact go_zret C E dX9_begins_26 (go_bn _) (by first | contradiction | rfl | (simp [pc_ps, *]; done) | (rw [decide_eq_true (by omega)]; done) | (rw [decide_eq_false (by omega)]; done) | (simp_all [pc_ps]; done) | (simp [pc_ps]; omega) | (simp_all [pc_ps]; omega) | omega) rfl
    · refine go_iconst C (1) dX9_begins_21 (by decide) ?_
      refine go_goto C 26 dX9_begins_22 (by decide) ?_
      refine go_se [.int (go_b (true))] rfl ?_
      exact go_zret C E dX9_begins_26 (go_bn _) (by first | contradiction | rfl | (simp [pc_ps, *]; done) | (rw [decide_eq_true (by omega)]; done) | (rw [decide_eq_false (by omega)]; done) | (simp_all [pc_ps]; done) | (simp [pc_ps]; omega) | (simp_all [pc_ps]; omega) | omega) rfl
set_option maxHeartbeats 4000000 in
set_option maxRecDepth 100000 in
theorem l_X9_becomesPart_26 {X : go_X} (G : go_G) (rs : va_W) (p0 : Nat) (p1 : Nat) (mo : Nat) (mfi : Nat) (mbl : Nat) (mpb : Nat) (mru : Nat) (mle : Nat) (miv : Nat) (mst : Nat) (mpa : Nat) (mhe : Nat) (maf : Nat) (mno : Nat) (msk : Nat) (nr : Nat) (il : Nat) (ct : Nat) (ex : Nat) (br : Int32) (sl : Bool) (fu : Bool) (If : Nat → Int32) (p : Nat) (q : Nat) (u : Int32) (v : Int32) (hp0 : rs[p0]? = some (mo, .inr (8, [.ref mfi, .ref mbl, .ref mpb, .ref mru, .ref mle, .ref miv, .ref mst, .ref mpa, .ref mhe, .ref maf, .ref mno, .ref msk, .int (nI nr), .int (nI il), .int (nI ct), .int (nI ex), .int br, .int (go_b (sl)), .int (go_b (fu))]))) (hp1 : rs[p1]? = some (miv, .inl (G.2.1, 32, .inl If))) (hil : il ≤ 32) (hp : p ≤ il) (hq : q ≤ il) {Rr : Option Value} (heq : pc_pe il If q - q = pc_pe il If p - p) (C : go_Cx X cX9_becomesPart RX9 (some .boolean) 7 1 24 0 0 G) (E : go_Ex X Rr rs)  : ∀ (n : Nat) (i : Nat) (hin : pc_pe il If p - p < i + n) (hi : i ≤ pc_pe il If p - p) (hR : some (.int (go_b (pc_mp (pc_pe il If p - p) p q If u v n i))) = Rr), go_Go X (0, 0) rs [(0, .ref mo), (1, .int (nI p)), (2, .int (nI q)), (3, .int u), (4, .int v), (5, .int (nI (pc_pe il If p - p))), (6, .int (nI i))] [] 26 := by
  intro n
  induction n with
  | zero => intro i hin hi hR; omega
  | succ n ih =>
    intro i hin hi hR
    have hb1 := pc_pe_bd (ln := il) (f := If) hp
    have hb2 := pc_pe_bd (ln := il) (f := If) hq
    refine go_iload C dX9_becomesPart_26 6 rfl ?_
    refine go_iload C dX9_becomesPart_28 5 rfl ?_
    refine go_icmp_geN (a := i) (b := pc_pe il If p - p) C 68 dX9_becomesPart_30 (by decide) (by omega) (by omega) (fun c_30 => ?_) (fun c_30 => ?_)
    · refine go_iconst C (1) dX9_becomesPart_68 (by decide) ?_
      refine go_se [.int (go_b (true))] rfl ?_
      exact go_zret C E dX9_becomesPart_69 (go_bn _) (by rw [← hR]; first | contradiction | rfl | (simp [pc_mp, *]; done) | (rw [decide_eq_true (by omega)]; done) | (rw [decide_eq_false (by omega)]; done) | (simp_all [pc_mp]; done) | (simp [pc_mp]; omega) | (simp_all [pc_mp]; omega) | omega) rfl
    · refine go_aload_n C dX9_becomesPart_33 0 rfl rfl ?_
      refine go_get C (v := .ref miv) fl_X9_25 dX9_becomesPart_34 p0 hp0 rfl ?_
      refine go_iload_n C dX9_becomesPart_37 1 rfl rfl ?_
      refine go_iload C dX9_becomesPart_38 6 rfl ?_
      refine go_iadd C (z := nI (p + i)) dX9_becomesPart_40 (nI_add p i) ?_
      refine go_iald C dX9_becomesPart_41 p1 hp1 (p + i) rfl (by omega) (by decide) ?_
      refine go_iload_n C dX9_becomesPart_42 3 rfl rfl ?_
      refine go_iload C dX9_becomesPart_43 4 rfl ?_
      refine go_cS C (c_X9_exchanged G rs  (If (p + i)) u v  ) ml_X9_80 mc_X9_exchanged dX9_becomesPart_45 [] rfl rfl rfl ⟨Nat.le_of_ble_eq_true rfl, Nat.le_of_ble_eq_true rfl, Nat.zero_le _, Nat.zero_le _, Nat.le_of_ble_eq_true rfl⟩ [.int (pc_ex (If (p + i)) u v)] rfl ?_
      refine go_aload_n C dX9_becomesPart_48 0 rfl rfl ?_
      refine go_get C (v := .ref miv) fl_X9_25 dX9_becomesPart_49 p0 hp0 rfl ?_
      refine go_iload_n C dX9_becomesPart_52 2 rfl rfl ?_
      refine go_iload C dX9_becomesPart_53 6 rfl ?_
      refine go_iadd C (z := nI (q + i)) dX9_becomesPart_55 (nI_add q i) ?_
      refine go_iald C dX9_becomesPart_56 p1 hp1 (q + i) rfl (by omega) (by decide) ?_
      refine go_icmp_eq C 62 dX9_becomesPart_57 (by decide) (fun c_57 => ?_) (fun c_57 => ?_)
      · refine go_iinc C (nI (i + 1)) [(0, .ref mo), (1, .int (nI p)), (2, .int (nI q)), (3, .int u), (4, .int v), (5, .int (nI (pc_pe il If p - p))), (6, .int (nI (i + 1)))] dX9_becomesPart_62 6 [1, 2, 3, 4, 5, 6, 0] rfl (nI_add i 1) (by decide) rfl ?_
        refine go_goto C 26 dX9_becomesPart_65 (by decide) ?_
        exact ih (i + 1) (by omega) (by omega) (by rw [← hR]; first | contradiction | rfl | (simp [pc_mp, *]; done) | (rw [decide_eq_true (by omega)]; done) | (rw [decide_eq_false (by omega)]; done) | (simp_all [pc_mp]; done) | (simp [pc_mp]; omega) | (simp_all [pc_mp]; omega) | omega)
      · refine go_iconst C (0) dX9_becomesPart_60 (by decide) ?_
        refine go_se [.int (go_b (false))] rfl ?_
        exact go_zret C E dX9_becomesPart_61 (go_bn _) (by rw [← hR]; first | contradiction | rfl | (simp [pc_mp, *]; done) | (rw [decide_eq_true (by omega)]; done) | (rw [decide_eq_false (by omega)]; done) | (simp_all [pc_mp]; done) | (simp [pc_mp]; omega) | (simp_all [pc_mp]; omega) | omega) rfl
set_option maxHeartbeats 4000000 in
set_option maxRecDepth 100000 in
theorem c_X9_becomesPart (G : go_G) (rs : va_W) (p0 : Nat) (p1 : Nat) (mo : Nat) (mfi : Nat) (mbl : Nat) (mpb : Nat) (mru : Nat) (mle : Nat) (miv : Nat) (mst : Nat) (mpa : Nat) (mhe : Nat) (maf : Nat) (mno : Nat) (msk : Nat) (nr : Nat) (il : Nat) (ct : Nat) (ex : Nat) (br : Int32) (sl : Bool) (fu : Bool) (If : Nat → Int32) (p : Nat) (q : Nat) (u : Int32) (v : Int32) (hp0 : rs[p0]? = some (mo, .inr (8, [.ref mfi, .ref mbl, .ref mpb, .ref mru, .ref mle, .ref miv, .ref mst, .ref mpa, .ref mhe, .ref maf, .ref mno, .ref msk, .int (nI nr), .int (nI il), .int (nI ct), .int (nI ex), .int br, .int (go_b (sl)), .int (go_b (fu))]))) (hp1 : rs[p1]? = some (miv, .inl (G.2.1, 32, .inl If))) (hil : il ≤ 32) (hp : p ≤ il) (hq : q ≤ il) : go_Fn yX9_becomesPart cX9_becomesPart 7 (some .boolean) 1 24 G [.ref mo, .int (nI p), .int (nI q), .int u, .int v] rs (some (.int (go_b (pc_mQ il If p q u v)))) rs := by
  refine go_Fn_of (by decide) (Nat.le_of_ble_eq_true rfl) (fun X C E => ?_)
  show go_Go X (0, 0) rs [(0, .ref mo), (1, .int (nI p)), (2, .int (nI q)), (3, .int u), (4, .int v)] [] 0
  have hb1 := pc_pe_bd (ln := il) (f := If) hp
  have hb2 := pc_pe_bd (ln := il) (f := If) hq
  refine go_aload_n C dX9_becomesPart_0 0 rfl rfl ?_
  refine go_iload_n C dX9_becomesPart_1 1 rfl rfl ?_
  refine go_cV C (c_X9_end G rs p0 p1 mo mfi mbl mpb mru mle miv mst mpa mhe maf mno msk nr il ct ex br sl fu If p hp0 hp1 (by omega) (by omega)) ml_X9_88 mc_X9_end dX9_becomesPart_2 [] rfl rfl p0 hp0 rfl rfl ⟨Nat.le_of_ble_eq_true rfl, Nat.le_of_ble_eq_true rfl, Nat.zero_le _, Nat.zero_le _, Nat.le_of_ble_eq_true rfl⟩ [.int (nI (pc_pe il If p))] rfl ?_
  refine go_iload_n C dX9_becomesPart_5 1 rfl rfl ?_
  refine go_isub C (z := nI ((pc_pe il If p) - p)) dX9_becomesPart_6 (pk_sub (a := pc_pe il If p) (b := p) (by omega)) ?_
  refine go_istore C [(0, .ref mo), (1, .int (nI p)), (2, .int (nI q)), (3, .int u), (4, .int v), (5, .int (nI ((pc_pe il If p) - p)))] dX9_becomesPart_7 [1, 2, 3, 4, 5, 0] (by decide) rfl ?_
  refine go_aload_n C dX9_becomesPart_9 0 rfl rfl ?_
  refine go_iload_n C dX9_becomesPart_10 2 rfl rfl ?_
  refine go_cV C (c_X9_end G rs p0 p1 mo mfi mbl mpb mru mle miv mst mpa mhe maf mno msk nr il ct ex br sl fu If q hp0 hp1 (by omega) (by omega)) ml_X9_88 mc_X9_end dX9_becomesPart_11 [] rfl rfl p0 hp0 rfl rfl ⟨Nat.le_of_ble_eq_true rfl, Nat.le_of_ble_eq_true rfl, Nat.zero_le _, Nat.zero_le _, Nat.le_of_ble_eq_true rfl⟩ [.int (nI (pc_pe il If q))] rfl ?_
  refine go_iload_n C dX9_becomesPart_14 2 rfl rfl ?_
  refine go_isub C (z := nI ((pc_pe il If q) - q)) dX9_becomesPart_15 (pk_sub (a := pc_pe il If q) (b := q) (by omega)) ?_
  refine go_iload C dX9_becomesPart_16 5 rfl ?_
  refine go_icmp_eqN (a := (pc_pe il If q) - q) (b := (pc_pe il If p) - p) C 23 dX9_becomesPart_18 (by decide) (by omega) (by omega) (fun c_18 => ?_) (fun c_18 => ?_)
  · refine go_iconst C (0) dX9_becomesPart_23 (by decide) ?_
    refine go_istore C [(0, .ref mo), (1, .int (nI p)), (2, .int (nI q)), (3, .int u), (4, .int v), (5, .int (nI ((pc_pe il If p) - p))), (6, .int 0)] dX9_becomesPart_24 [1, 2, 3, 4, 5, 6, 0] (by decide) rfl ?_
    exact l_X9_becomesPart_26 G rs p0 p1 mo mfi mbl mpb mru mle miv mst mpa mhe maf mno msk nr il ct ex br sl fu If p q u v hp0 hp1 hil hp hq c_18 C E (pc_pe il If p - p + 1) 0 (by omega) (by omega) (by simp [pc_mQ, c_18])
  · refine go_iconst C (0) dX9_becomesPart_21 (by decide) ?_
    refine go_se [.int (go_b (false))] rfl ?_
    exact go_zret C E dX9_becomesPart_22 (go_bn _) (by simp [pc_mQ, c_18]) rfl
set_option maxHeartbeats 4000000 in
set_option maxRecDepth 100000 in
theorem l_X9_isPartAgain_3 {X : go_X} (G : go_G) (rs : va_W) (p0 : Nat) (p1 : Nat) (mo : Nat) (mfi : Nat) (mbl : Nat) (mpb : Nat) (mru : Nat) (mle : Nat) (miv : Nat) (mst : Nat) (mpa : Nat) (mhe : Nat) (maf : Nat) (mno : Nat) (msk : Nat) (nr : Nat) (il : Nat) (ct : Nat) (ex : Nat) (br : Int32) (sl : Bool) (fu : Bool) (If : Nat → Int32) (p : Nat) (u : Int32) (v : Int32) (hp0 : rs[p0]? = some (mo, .inr (8, [.ref mfi, .ref mbl, .ref mpb, .ref mru, .ref mle, .ref miv, .ref mst, .ref mpa, .ref mhe, .ref maf, .ref mno, .ref msk, .int (nI nr), .int (nI il), .int (nI ct), .int (nI ex), .int br, .int (go_b (sl)), .int (go_b (fu))]))) (hp1 : rs[p1]? = some (miv, .inl (G.2.1, 32, .inl If))) (hil : il ≤ 32) (hp : p ≤ il) {Rr : Option Value}  (C : go_Cx X cX9_isPartAgain RX9 (some .boolean) 5 2 50 0 0 G) (E : go_Ex X Rr rs)  : ∀ (n : Nat) (q : Nat) (hin : il < q + n) (hi : q ≤ il) (hR : some (.int (go_b (pc_mP il If p u v n q))) = Rr), go_Go X (0, 0) rs [(0, .ref mo), (1, .int (nI p)), (2, .int u), (3, .int v), (4, .int (nI q))] [] 3 := by
  intro n
  induction n with
  | zero => intro q hin hi hR; omega
  | succ n ih =>
    intro q hin hi hR
    refine go_iload C dX9_isPartAgain_3 4 rfl ?_
    refine go_aload_n C dX9_isPartAgain_5 0 rfl rfl ?_
    refine go_get C (v := .int (nI il)) fl_X9_53 dX9_isPartAgain_6 p0 hp0 rfl ?_
    refine go_icmp_geN (a := q) (b := il) C 41 dX9_isPartAgain_9 (by decide) (by omega) (by omega) (fun c_9 => ?_) (fun c_9 => ?_)
    · refine go_iconst C (0) dX9_isPartAgain_41 (by decide) ?_
      refine go_se [.int (go_b (false))] rfl ?_
      exact go_zret C E dX9_isPartAgain_42 (go_bn _) (by rw [← hR]; first | contradiction | rfl | (simp [pc_mP, *]; done) | (rw [decide_eq_true (by omega)]; done) | (rw [decide_eq_false (by omega)]; done) | (simp_all [pc_mP]; done) | (simp [pc_mP]; omega) | (simp_all [pc_mP]; omega) | omega) rfl
    · refine go_aload_n C dX9_isPartAgain_12 0 rfl rfl ?_
      refine go_iload C dX9_isPartAgain_13 4 rfl ?_
      refine go_cV C (c_X9_begins G rs p0 p1 mo mfi mbl mpb mru mle miv mst mpa mhe maf mno msk nr il ct ex br sl fu If q hp0 hp1 (by omega) (by omega)) ml_X9_92 mc_X9_begins dX9_isPartAgain_15 [] rfl rfl p0 hp0 rfl rfl ⟨Nat.le_of_ble_eq_true rfl, Nat.le_of_ble_eq_true rfl, Nat.zero_le _, Nat.zero_le _, Nat.le_of_ble_eq_true rfl⟩ [.int (go_b (pc_ps If q))] rfl ?_
      refine go_if_eqB C 35 dX9_isPartAgain_18 (by decide) (fun c_18 => ?_) (fun c_18 => ?_)
      · refine go_iinc C (nI (q + 1)) [(0, .ref mo), (1, .int (nI p)), (2, .int u), (3, .int v), (4, .int (nI (q + 1)))] dX9_isPartAgain_35 4 [1, 2, 3, 4, 0] rfl (nI_add q 1) (by decide) rfl ?_
        refine go_goto C 3 dX9_isPartAgain_38 (by decide) ?_
        exact ih (q + 1) (by omega) (by omega) (by rw [← hR]; first | contradiction | rfl | (simp [pc_mP, *]; done) | (rw [decide_eq_true (by omega)]; done) | (rw [decide_eq_false (by omega)]; done) | (simp_all [pc_mP]; done) | (simp [pc_mP]; omega) | (simp_all [pc_mP]; omega) | omega)
      · refine go_aload_n C dX9_isPartAgain_21 0 rfl rfl ?_
        refine go_iload_n C dX9_isPartAgain_22 1 rfl rfl ?_
        refine go_iload C dX9_isPartAgain_23 4 rfl ?_
        refine go_iload_n C dX9_isPartAgain_25 2 rfl rfl ?_
        refine go_iload_n C dX9_isPartAgain_26 3 rfl rfl ?_
        refine go_cV C (c_X9_becomesPart G rs p0 p1 mo mfi mbl mpb mru mle miv mst mpa mhe maf mno msk nr il ct ex br sl fu If p q u v hp0 hp1 (by omega) (by omega) (by omega)) ml_X9_95 mc_X9_becomesPart dX9_isPartAgain_27 [] rfl rfl p0 hp0 rfl rfl ⟨Nat.le_of_ble_eq_true rfl, Nat.le_of_ble_eq_true rfl, Nat.zero_le _, Nat.zero_le _, Nat.le_of_ble_eq_true rfl⟩ [.int (go_b (pc_mQ il If p q u v))] rfl ?_
        refine go_if_eqB C 35 dX9_isPartAgain_30 (by decide) (fun c_30 => ?_) (fun c_30 => ?_)
        · refine go_iinc C (nI (q + 1)) [(0, .ref mo), (1, .int (nI p)), (2, .int u), (3, .int v), (4, .int (nI (q + 1)))] dX9_isPartAgain_35 4 [1, 2, 3, 4, 0] rfl (nI_add q 1) (by decide) rfl ?_
          refine go_goto C 3 dX9_isPartAgain_38 (by decide) ?_
          exact ih (q + 1) (by omega) (by omega) (by rw [← hR]; first | contradiction | rfl | (simp [pc_mP, *]; done) | (rw [decide_eq_true (by omega)]; done) | (rw [decide_eq_false (by omega)]; done) | (simp_all [pc_mP]; done) | (simp [pc_mP]; omega) | (simp_all [pc_mP]; omega) | omega)
        · refine go_iconst C (1) dX9_isPartAgain_33 (by decide) ?_
          refine go_se [.int (go_b (true))] rfl ?_
          exact go_zret C E dX9_isPartAgain_34 (go_bn _) (by rw [← hR]; first | contradiction | rfl | (simp [pc_mP, *]; done) | (rw [decide_eq_true (by omega)]; done) | (rw [decide_eq_false (by omega)]; done) | (simp_all [pc_mP]; done) | (simp [pc_mP]; omega) | (simp_all [pc_mP]; omega) | omega) rfl
set_option maxHeartbeats 4000000 in
set_option maxRecDepth 100000 in
theorem c_X9_isPartAgain (G : go_G) (rs : va_W) (p0 : Nat) (p1 : Nat) (mo : Nat) (mfi : Nat) (mbl : Nat) (mpb : Nat) (mru : Nat) (mle : Nat) (miv : Nat) (mst : Nat) (mpa : Nat) (mhe : Nat) (maf : Nat) (mno : Nat) (msk : Nat) (nr : Nat) (il : Nat) (ct : Nat) (ex : Nat) (br : Int32) (sl : Bool) (fu : Bool) (If : Nat → Int32) (p : Nat) (u : Int32) (v : Int32) (hp0 : rs[p0]? = some (mo, .inr (8, [.ref mfi, .ref mbl, .ref mpb, .ref mru, .ref mle, .ref miv, .ref mst, .ref mpa, .ref mhe, .ref maf, .ref mno, .ref msk, .int (nI nr), .int (nI il), .int (nI ct), .int (nI ex), .int br, .int (go_b (sl)), .int (go_b (fu))]))) (hp1 : rs[p1]? = some (miv, .inl (G.2.1, 32, .inl If))) (hil : il ≤ 32) (hp : p ≤ il) : go_Fn yX9_isPartAgain cX9_isPartAgain 5 (some .boolean) 2 50 G [.ref mo, .int (nI p), .int u, .int v] rs (some (.int (go_b (pc_mP il If p u v (il + 1) 0)))) rs := by
  refine go_Fn_of (by decide) (Nat.le_of_ble_eq_true rfl) (fun X C E => ?_)
  show go_Go X (0, 0) rs [(0, .ref mo), (1, .int (nI p)), (2, .int u), (3, .int v)] [] 0
  refine go_iconst C (0) dX9_isPartAgain_0 (by decide) ?_
  refine go_istore C [(0, .ref mo), (1, .int (nI p)), (2, .int u), (3, .int v), (4, .int 0)] dX9_isPartAgain_1 [1, 2, 3, 4, 0] (by decide) rfl ?_
  exact l_X9_isPartAgain_3 G rs p0 p1 mo mfi mbl mpb mru mle miv mst mpa mhe maf mno msk nr il ct ex br sl fu If p u v hp0 hp1 hil hp  C E (il + 1) 0 (by omega) (by omega) rfl
set_option maxHeartbeats 4000000 in
set_option maxRecDepth 100000 in
theorem l_X9_mayExchange_30 {X : go_X} (G : go_G) (rs : va_W) (p0 : Nat) (p1 : Nat) (p2 : Nat) (p3 : Nat) (mo : Nat) (mfi : Nat) (mbl : Nat) (mpb : Nat) (mru : Nat) (mle : Nat) (miv : Nat) (mst : Nat) (mpa : Nat) (mhe : Nat) (maf : Nat) (mno : Nat) (msk : Nat) (nr : Nat) (il : Nat) (ct : Nat) (ex : Nat) (br : Int32) (sl : Bool) (fu : Bool) (Rf : Nat → Int32) (ln : Nat → Nat) (If : Nat → Int32) (u : Int32) (v : Int32) (hp0 : rs[p0]? = some (mo, .inr (8, [.ref mfi, .ref mbl, .ref mpb, .ref mru, .ref mle, .ref miv, .ref mst, .ref mpa, .ref mhe, .ref maf, .ref mno, .ref msk, .int (nI nr), .int (nI il), .int (nI ct), .int (nI ex), .int br, .int (go_b (sl)), .int (go_b (fu))]))) (hp1 : rs[p1]? = some (mru, .inl (G.2.1, 384, .inl Rf))) (hp2 : rs[p2]? = some (mle, .inl (G.2.1, 12, .inl (pc_lf ln)))) (hp3 : rs[p3]? = some (miv, .inl (G.2.1, 32, .inl If))) (hnr : nr ≤ 12) (hil : il ≤ 32) (hln : ∀ r, r < 12 → ln r ≤ 32) {Rr : Option Value}  (C : go_Cx X cX9_mayExchange RX9 (some .boolean) 4 3 74 0 0 G) (E : go_Ex X Rr rs)  : ∀ (n : Nat) (p : Nat) (hin : il < p + n) (hi : p ≤ il) (hR : some (.int (go_b (pc_mX2 il If u v n p))) = Rr), go_Go X (0, 0) rs [(0, .ref mo), (1, .int u), (2, .int v), (3, .int (nI p))] [] 30 := by
  intro n
  induction n with
  | zero => intro p hin hi hR; omega
  | succ n ih =>
    intro p hin hi hR
    refine go_iload_n C dX9_mayExchange_30 3 rfl rfl ?_
    refine go_aload_n C dX9_mayExchange_31 0 rfl rfl ?_
    refine go_get C (v := .int (nI il)) fl_X9_53 dX9_mayExchange_32 p0 hp0 rfl ?_
    refine go_icmp_geN (a := p) (b := il) C 64 dX9_mayExchange_35 (by decide) (by omega) (by omega) (fun c_35 => ?_) (fun c_35 => ?_)
    · refine go_iconst C (1) dX9_mayExchange_64 (by decide) ?_
      refine go_se [.int (go_b (true))] rfl ?_
      exact go_zret C E dX9_mayExchange_65 (go_bn _) (by rw [← hR]; first | contradiction | rfl | (simp [pc_mX2, *]; done) | (rw [decide_eq_true (by omega)]; done) | (rw [decide_eq_false (by omega)]; done) | (simp_all [pc_mX2]; done) | (simp [pc_mX2]; omega) | (simp_all [pc_mX2]; omega) | omega) rfl
    · refine go_aload_n C dX9_mayExchange_38 0 rfl rfl ?_
      refine go_iload_n C dX9_mayExchange_39 3 rfl rfl ?_
      refine go_cV C (c_X9_begins G rs p0 p3 mo mfi mbl mpb mru mle miv mst mpa mhe maf mno msk nr il ct ex br sl fu If p hp0 hp3 (by omega) (by omega)) ml_X9_92 mc_X9_begins dX9_mayExchange_40 [] rfl rfl p0 hp0 rfl rfl ⟨Nat.le_of_ble_eq_true rfl, Nat.le_of_ble_eq_true rfl, Nat.zero_le _, Nat.zero_le _, Nat.le_of_ble_eq_true rfl⟩ [.int (go_b (pc_ps If p))] rfl ?_
      refine go_if_eqB C 58 dX9_mayExchange_43 (by decide) (fun c_43 => ?_) (fun c_43 => ?_)
      · refine go_iinc C (nI (p + 1)) [(0, .ref mo), (1, .int u), (2, .int v), (3, .int (nI (p + 1)))] dX9_mayExchange_58 3 [1, 2, 3, 0] rfl (nI_add p 1) (by decide) rfl ?_
        refine go_goto C 30 dX9_mayExchange_61 (by decide) ?_
        exact ih (p + 1) (by omega) (by omega) (by rw [← hR]; first | contradiction | rfl | (simp [pc_mX2, *]; done) | (rw [decide_eq_true (by omega)]; done) | (rw [decide_eq_false (by omega)]; done) | (simp_all [pc_mX2]; done) | (simp [pc_mX2]; omega) | (simp_all [pc_mX2]; omega) | omega)
      · refine go_aload_n C dX9_mayExchange_46 0 rfl rfl ?_
        refine go_iload_n C dX9_mayExchange_47 3 rfl rfl ?_
        refine go_iload_n C dX9_mayExchange_48 1 rfl rfl ?_
        refine go_iload_n C dX9_mayExchange_49 2 rfl rfl ?_
        refine go_cV C (c_X9_isPartAgain G rs p0 p3 mo mfi mbl mpb mru mle miv mst mpa mhe maf mno msk nr il ct ex br sl fu If p u v hp0 hp3 (by omega) (by omega)) ml_X9_102 mc_X9_isPartAgain dX9_mayExchange_50 [] rfl rfl p0 hp0 rfl rfl ⟨Nat.le_of_ble_eq_true rfl, Nat.le_of_ble_eq_true rfl, Nat.zero_le _, Nat.zero_le _, Nat.le_of_ble_eq_true rfl⟩ [.int (go_b (pc_mP il If p u v (il + 1) 0))] rfl ?_
        refine go_if_neB C 58 dX9_mayExchange_53 (by decide) (fun c_53 => ?_) (fun c_53 => ?_)
        · refine go_iinc C (nI (p + 1)) [(0, .ref mo), (1, .int u), (2, .int v), (3, .int (nI (p + 1)))] dX9_mayExchange_58 3 [1, 2, 3, 0] rfl (nI_add p 1) (by decide) rfl ?_
          refine go_goto C 30 dX9_mayExchange_61 (by decide) ?_
          exact ih (p + 1) (by omega) (by omega) (by rw [← hR]; first | contradiction | rfl | (simp [pc_mX2, *]; done) | (rw [decide_eq_true (by omega)]; done) | (rw [decide_eq_false (by omega)]; done) | (simp_all [pc_mX2]; done) | (simp [pc_mX2]; omega) | (simp_all [pc_mX2]; omega) | omega)
        · refine go_iconst C (0) dX9_mayExchange_56 (by decide) ?_
          refine go_se [.int (go_b (false))] rfl ?_
          exact go_zret C E dX9_mayExchange_57 (go_bn _) (by rw [← hR]; first | contradiction | rfl | (simp [pc_mX2, *]; done) | (rw [decide_eq_true (by omega)]; done) | (rw [decide_eq_false (by omega)]; done) | (simp_all [pc_mX2]; done) | (simp [pc_mX2]; omega) | (simp_all [pc_mX2]; omega) | omega) rfl
set_option maxHeartbeats 4000000 in
set_option maxRecDepth 100000 in
theorem l_X9_mayExchange_2 {X : go_X} (G : go_G) (rs : va_W) (p0 : Nat) (p1 : Nat) (p2 : Nat) (p3 : Nat) (mo : Nat) (mfi : Nat) (mbl : Nat) (mpb : Nat) (mru : Nat) (mle : Nat) (miv : Nat) (mst : Nat) (mpa : Nat) (mhe : Nat) (maf : Nat) (mno : Nat) (msk : Nat) (nr : Nat) (il : Nat) (ct : Nat) (ex : Nat) (br : Int32) (sl : Bool) (fu : Bool) (Rf : Nat → Int32) (ln : Nat → Nat) (If : Nat → Int32) (u : Int32) (v : Int32) (hp0 : rs[p0]? = some (mo, .inr (8, [.ref mfi, .ref mbl, .ref mpb, .ref mru, .ref mle, .ref miv, .ref mst, .ref mpa, .ref mhe, .ref maf, .ref mno, .ref msk, .int (nI nr), .int (nI il), .int (nI ct), .int (nI ex), .int br, .int (go_b (sl)), .int (go_b (fu))]))) (hp1 : rs[p1]? = some (mru, .inl (G.2.1, 384, .inl Rf))) (hp2 : rs[p2]? = some (mle, .inl (G.2.1, 12, .inl (pc_lf ln)))) (hp3 : rs[p3]? = some (miv, .inl (G.2.1, 32, .inl If))) (hnr : nr ≤ 12) (hil : il ≤ 32) (hln : ∀ r, r < 12 → ln r ≤ 32) {Rr : Option Value} (fb : Bool) (hF : fb = false → some (.int (go_b false)) = Rr) (C : go_Cx X cX9_mayExchange RX9 (some .boolean) 4 3 74 0 0 G) (E : go_Ex X Rr rs) (K : fb = true → go_Go X (0, 0) rs [(0, .ref mo), (1, .int u), (2, .int v)] [] 28) : ∀ (n : Nat) (r : Nat) (hin : nr < r + n) (hi : r ≤ nr) (hB : pc_mX1 nr ln Rf u v n r = fb), go_Go X (0, 0) rs [(0, .ref mo), (1, .int u), (2, .int v), (3, .int (nI r))] [] 2 := by
  intro n
  induction n with
  | zero => intro r hin hi hB; omega
  | succ n ih =>
    intro r hin hi hB
    refine go_iload_n C dX9_mayExchange_2 3 rfl rfl ?_
    refine go_aload_n C dX9_mayExchange_3 0 rfl rfl ?_
    refine go_get C (v := .int (nI nr)) fl_X9_50 dX9_mayExchange_4 p0 hp0 rfl ?_
    refine go_icmp_geN (a := r) (b := nr) C 28 dX9_mayExchange_7 (by decide) (by omega) (by omega) (fun c_7 => ?_) (fun c_7 => ?_)
    · refine go_lv [(0, .ref mo), (1, .int u), (2, .int v)] [0, 1, 2] rfl ?_
      exact K (by rw [← hB]; simp [pc_mX1, c_7])
    · refine go_aload_n C dX9_mayExchange_10 0 rfl rfl ?_
      refine go_iload_n C dX9_mayExchange_11 3 rfl rfl ?_
      refine go_iload_n C dX9_mayExchange_12 1 rfl rfl ?_
      refine go_iload_n C dX9_mayExchange_13 2 rfl rfl ?_
      refine go_cV C (c_X9_isRuleAgain G rs p0 p1 p2 mo mfi mbl mpb mru mle miv mst mpa mhe maf mno msk nr il ct ex br sl fu Rf ln r u v hp0 hp1 hp2 (by omega) hln (by omega)) ml_X9_98 mc_X9_isRuleAgain dX9_mayExchange_14 [] rfl rfl p0 hp0 rfl rfl ⟨Nat.le_of_ble_eq_true rfl, Nat.le_of_ble_eq_true rfl, Nat.zero_le _, Nat.zero_le _, Nat.le_of_ble_eq_true rfl⟩ [.int (go_b (pc_mA nr ln Rf r u v (nr + 1) 0))] rfl ?_
      refine go_if_neB C 22 dX9_mayExchange_17 (by decide) (fun c_17 => ?_) (fun c_17 => ?_)
      · refine go_iinc C (nI (r + 1)) [(0, .ref mo), (1, .int u), (2, .int v), (3, .int (nI (r + 1)))] dX9_mayExchange_22 3 [1, 2, 3, 0] rfl (nI_add r 1) (by decide) rfl ?_
        refine go_goto C 2 dX9_mayExchange_25 (by decide) ?_
        exact ih (r + 1) (by omega) (by omega) (by rw [← hB]; simp [pc_mX1, c_7, c_17])
      · refine go_iconst C (0) dX9_mayExchange_20 (by decide) ?_
        refine go_se [.int (go_b (false))] rfl ?_
        exact go_zret C E dX9_mayExchange_21 (go_bn _) (hF (by rw [← hB]; simp [pc_mX1, c_7, c_17])) rfl
set_option maxHeartbeats 4000000 in
set_option maxRecDepth 100000 in
theorem c_X9_mayExchange (G : go_G) (rs : va_W) (p0 : Nat) (p1 : Nat) (p2 : Nat) (p3 : Nat) (mo : Nat) (mfi : Nat) (mbl : Nat) (mpb : Nat) (mru : Nat) (mle : Nat) (miv : Nat) (mst : Nat) (mpa : Nat) (mhe : Nat) (maf : Nat) (mno : Nat) (msk : Nat) (nr : Nat) (il : Nat) (ct : Nat) (ex : Nat) (br : Int32) (sl : Bool) (fu : Bool) (Rf : Nat → Int32) (ln : Nat → Nat) (If : Nat → Int32) (u : Int32) (v : Int32) (hp0 : rs[p0]? = some (mo, .inr (8, [.ref mfi, .ref mbl, .ref mpb, .ref mru, .ref mle, .ref miv, .ref mst, .ref mpa, .ref mhe, .ref maf, .ref mno, .ref msk, .int (nI nr), .int (nI il), .int (nI ct), .int (nI ex), .int br, .int (go_b (sl)), .int (go_b (fu))]))) (hp1 : rs[p1]? = some (mru, .inl (G.2.1, 384, .inl Rf))) (hp2 : rs[p2]? = some (mle, .inl (G.2.1, 12, .inl (pc_lf ln)))) (hp3 : rs[p3]? = some (miv, .inl (G.2.1, 32, .inl If))) (hnr : nr ≤ 12) (hil : il ≤ 32) (hln : ∀ r, r < 12 → ln r ≤ 32) : go_Fn yX9_mayExchange cX9_mayExchange 4 (some .boolean) 3 74 G [.ref mo, .int u, .int v] rs (some (.int (go_b (pc_mX nr ln Rf il If u v)))) rs := by
  refine go_Fn_of (by decide) (Nat.le_of_ble_eq_true rfl) (fun X C E => ?_)
  show go_Go X (0, 0) rs [(0, .ref mo), (1, .int u), (2, .int v)] [] 0
  refine go_iconst C (0) dX9_mayExchange_0 (by decide) ?_
  refine go_istore_n C [(0, .ref mo), (1, .int u), (2, .int v), (3, .int 0)] dX9_mayExchange_1 [1, 2, 3, 0] rfl (by decide) rfl ?_
  refine l_X9_mayExchange_2 G rs p0 p1 p2 p3 mo mfi mbl mpb mru mle miv mst mpa mhe maf mno msk nr il ct ex br sl fu Rf ln If u v hp0 hp1 hp2 hp3 hnr hil hln (pc_mX1 nr ln Rf u v (nr + 1) 0) (fun h => by simp [pc_mX, h]) C E (fun hK_2 => ?_) (nr + 1) 0 (by omega) (by omega) rfl
  show go_Go X (0, 0) rs [(0, .ref mo), (1, .int u), (2, .int v)] [] 28
  refine go_iconst C (0) dX9_mayExchange_28 (by decide) ?_
  refine go_istore_n C [(0, .ref mo), (1, .int u), (2, .int v), (3, .int 0)] dX9_mayExchange_29 [1, 2, 3, 0] rfl (by decide) rfl ?_
  exact l_X9_mayExchange_30 G rs p0 p1 p2 p3 mo mfi mbl mpb mru mle miv mst mpa mhe maf mno msk nr il ct ex br sl fu Rf ln If u v hp0 hp1 hp2 hp3 hnr hil hln  C E (il + 1) 0 (by omega) (by omega) (by simp [pc_mX, hK_2])
set_option maxHeartbeats 4000000 in
set_option maxRecDepth 100000 in
theorem l_X9_blocksAreRight_12 {X : go_X} (G : go_G) (rs : va_W) (p0 : Nat) (p1 : Nat) (p2 : Nat) (p3 : Nat) (p4 : Nat) (mo : Nat) (mfi : Nat) (mbl : Nat) (mpb : Nat) (mru : Nat) (mle : Nat) (miv : Nat) (mst : Nat) (mpa : Nat) (mhe : Nat) (maf : Nat) (mno : Nat) (msk : Nat) (nr : Nat) (il : Nat) (ct : Nat) (ex : Nat) (br : Int32) (sl : Bool) (fu : Bool) (Rf : Nat → Int32) (ln : Nat → Nat) (If : Nat → Int32) (Bf : Nat → Int32) (hp0 : rs[p0]? = some (mo, .inr (8, [.ref mfi, .ref mbl, .ref mpb, .ref mru, .ref mle, .ref miv, .ref mst, .ref mpa, .ref mhe, .ref maf, .ref mno, .ref msk, .int (nI nr), .int (nI il), .int (nI ct), .int (nI ex), .int br, .int (go_b (sl)), .int (go_b (fu))]))) (hp1 : rs[p1]? = some (mru, .inl (G.2.1, 384, .inl Rf))) (hp2 : rs[p2]? = some (mle, .inl (G.2.1, 12, .inl (pc_lf ln)))) (hp3 : rs[p3]? = some (miv, .inl (G.2.1, 32, .inl If))) (hp4 : rs[p4]? = some (mbl, .inl (G.2.1, 6, .inl Bf))) (hnr : nr ≤ 12) (hil : il ≤ 32) (hln : ∀ r, r < 12 → ln r ≤ 32) {Rr : Option Value} (a : Nat) (fb : Bool) (ha : a < 6) (hF : fb = false → some (.int (go_b false)) = Rr) (C : go_Cx X cX9_blocksAreRight RX9 (some .boolean) 3 4 97 0 0 G) (E : go_Ex X Rr rs) (K : fb = true → go_Go X (0, 0) rs [(0, .ref mo), (1, .int (nI a))] [] 59) : ∀ (n : Nat) (b : Nat) (hin : 6 < b + n) (hb : b ≤ 6) (hB : pc_nbi nr ln Rf Bf il If a n b = fb), go_Go X (0, 0) rs [(0, .ref mo), (1, .int (nI a)), (2, .int (nI b))] [] 12 := by
  intro n
  induction n with
  | zero => intro b hin hb hB; omega
  | succ n ih =>
    intro b hin hb hB
    refine go_iload_n C dX9_blocksAreRight_12 2 rfl rfl ?_
    refine go_bipush C (6) dX9_blocksAreRight_13 (by decide) ?_
    refine go_icmp_geN (a := b) (b := 6) C 59 dX9_blocksAreRight_15 (by decide) (by omega) (by omega) (fun c_15 => ?_) (fun c_15 => ?_)
    · refine go_lv [(0, .ref mo), (1, .int (nI a))] [0, 1] rfl ?_
      exact K (by rw [← hB]; simp [pc_nbi, c_15])
    · refine go_aload_n C dX9_blocksAreRight_18 0 rfl rfl ?_
      refine go_get C (v := .ref mbl) fl_X9_13 dX9_blocksAreRight_19 p0 hp0 rfl ?_
      refine go_iload_n C dX9_blocksAreRight_22 1 rfl rfl ?_
      refine go_iald C dX9_blocksAreRight_23 p4 hp4 (a) rfl (by omega) (by decide) ?_
      refine go_if_eq C 53 dX9_blocksAreRight_24 (by decide) (fun c_24 => ?_) (fun c_24 => ?_)
      · refine go_iinc C (nI (b + 1)) [(0, .ref mo), (1, .int (nI a)), (2, .int (nI (b + 1)))] dX9_blocksAreRight_53 2 [1, 2, 0] rfl (nI_add b 1) (by decide) rfl ?_
        refine go_goto C 12 dX9_blocksAreRight_56 (by decide) ?_
        exact ih (b + 1) (by omega) (by omega) (by rw [← hB]; first | (simp [pc_nbi, c_15, c_24, c_39, c_48]; done) | (simp [pc_nbi, c_15, c_24, c_39]; done) | (simp [pc_nbi, c_15, c_24]; done))
      · refine go_aload_n C dX9_blocksAreRight_27 0 rfl rfl ?_
        refine go_get C (v := .ref mbl) fl_X9_13 dX9_blocksAreRight_28 p0 hp0 rfl ?_
        refine go_iload_n C dX9_blocksAreRight_31 1 rfl rfl ?_
        refine go_iald C dX9_blocksAreRight_32 p4 hp4 (a) rfl (by omega) (by decide) ?_
        refine go_aload_n C dX9_blocksAreRight_33 0 rfl rfl ?_
        refine go_get C (v := .ref mbl) fl_X9_13 dX9_blocksAreRight_34 p0 hp0 rfl ?_
        refine go_iload_n C dX9_blocksAreRight_37 2 rfl rfl ?_
        refine go_iald C dX9_blocksAreRight_38 p4 hp4 (b) rfl (by omega) (by decide) ?_
        refine go_icmp_ne C 53 dX9_blocksAreRight_39 (by decide) (fun c_39 => ?_) (fun c_39 => ?_)
        · refine go_iinc C (nI (b + 1)) [(0, .ref mo), (1, .int (nI a)), (2, .int (nI (b + 1)))] dX9_blocksAreRight_53 2 [1, 2, 0] rfl (nI_add b 1) (by decide) rfl ?_
          refine go_goto C 12 dX9_blocksAreRight_56 (by decide) ?_
          exact ih (b + 1) (by omega) (by omega) (by rw [← hB]; first | (simp [pc_nbi, c_15, c_24, c_39, c_48]; done) | (simp [pc_nbi, c_15, c_24, c_39]; done) | (simp [pc_nbi, c_15, c_24]; done))
        · refine go_aload_n C dX9_blocksAreRight_42 0 rfl rfl ?_
          refine go_iload_n C dX9_blocksAreRight_43 1 rfl rfl ?_
          refine go_iload_n C dX9_blocksAreRight_44 2 rfl rfl ?_
          refine go_cV C (c_X9_mayExchange G rs p0 p1 p2 p3 mo mfi mbl mpb mru mle miv mst mpa mhe maf mno msk nr il ct ex br sl fu Rf ln If (nI a) (nI b) hp0 hp1 hp2 hp3 (by omega) (by omega) hln) ml_X9_105 mc_X9_mayExchange dX9_blocksAreRight_45 [] rfl rfl p0 hp0 rfl rfl ⟨Nat.le_of_ble_eq_true rfl, Nat.le_of_ble_eq_true rfl, Nat.zero_le _, Nat.zero_le _, Nat.le_of_ble_eq_true rfl⟩ [.int (go_b (pc_mX nr ln Rf il If (nI a) (nI b)))] rfl ?_
          refine go_if_neB C 53 dX9_blocksAreRight_48 (by decide) (fun c_48 => ?_) (fun c_48 => ?_)
          · refine go_iinc C (nI (b + 1)) [(0, .ref mo), (1, .int (nI a)), (2, .int (nI (b + 1)))] dX9_blocksAreRight_53 2 [1, 2, 0] rfl (nI_add b 1) (by decide) rfl ?_
            refine go_goto C 12 dX9_blocksAreRight_56 (by decide) ?_
            exact ih (b + 1) (by omega) (by omega) (by rw [← hB]; first | (simp [pc_nbi, c_15, c_24, c_39, c_48]; done) | (simp [pc_nbi, c_15, c_24, c_39]; done) | (simp [pc_nbi, c_15, c_24]; done))
          · refine go_iconst C (0) dX9_blocksAreRight_51 (by decide) ?_
            refine go_se [.int (go_b (false))] rfl ?_
            exact go_zret C E dX9_blocksAreRight_52 (go_bn _) (hF (by rw [← hB]; unfold pc_nbi; rw [if_pos c_15, if_pos ⟨c_24, c_39, c_48⟩])) rfl
set_option maxHeartbeats 4000000 in
set_option maxRecDepth 100000 in
theorem l_X9_blocksAreRight_2 {X : go_X} (G : go_G) (rs : va_W) (p0 : Nat) (p1 : Nat) (p2 : Nat) (p3 : Nat) (p4 : Nat) (mo : Nat) (mfi : Nat) (mbl : Nat) (mpb : Nat) (mru : Nat) (mle : Nat) (miv : Nat) (mst : Nat) (mpa : Nat) (mhe : Nat) (maf : Nat) (mno : Nat) (msk : Nat) (nr : Nat) (il : Nat) (ct : Nat) (ex : Nat) (br : Int32) (sl : Bool) (fu : Bool) (Rf : Nat → Int32) (ln : Nat → Nat) (If : Nat → Int32) (Bf : Nat → Int32) (hp0 : rs[p0]? = some (mo, .inr (8, [.ref mfi, .ref mbl, .ref mpb, .ref mru, .ref mle, .ref miv, .ref mst, .ref mpa, .ref mhe, .ref maf, .ref mno, .ref msk, .int (nI nr), .int (nI il), .int (nI ct), .int (nI ex), .int br, .int (go_b (sl)), .int (go_b (fu))]))) (hp1 : rs[p1]? = some (mru, .inl (G.2.1, 384, .inl Rf))) (hp2 : rs[p2]? = some (mle, .inl (G.2.1, 12, .inl (pc_lf ln)))) (hp3 : rs[p3]? = some (miv, .inl (G.2.1, 32, .inl If))) (hp4 : rs[p4]? = some (mbl, .inl (G.2.1, 6, .inl Bf))) (hnr : nr ≤ 12) (hil : il ≤ 32) (hln : ∀ r, r < 12 → ln r ≤ 32) {Rr : Option Value}  (C : go_Cx X cX9_blocksAreRight RX9 (some .boolean) 3 4 97 0 0 G) (E : go_Ex X Rr rs)  : ∀ (n : Nat) (a : Nat) (hin : 6 < a + n) (ha : a ≤ 6) (hR : some (.int (go_b (pc_nba nr ln Rf Bf il If n a))) = Rr), go_Go X (0, 0) rs [(0, .ref mo), (1, .int (nI a))] [] 2 := by
  intro n
  induction n with
  | zero => intro a hin ha hR; omega
  | succ n ih =>
    intro a hin ha hR
    refine go_iload_n C dX9_blocksAreRight_2 1 rfl rfl ?_
    refine go_bipush C (6) dX9_blocksAreRight_3 (by decide) ?_
    refine go_icmp_geN (a := a) (b := 6) C 65 dX9_blocksAreRight_5 (by decide) (by omega) (by omega) (fun c_5 => ?_) (fun c_5 => ?_)
    · refine go_iconst C (1) dX9_blocksAreRight_65 (by decide) ?_
      refine go_se [.int (go_b (true))] rfl ?_
      exact go_zret C E dX9_blocksAreRight_66 (go_bn _) (by rw [← hR]; first | contradiction | rfl | (simp [pc_nba, *]; done) | (rw [decide_eq_true (by omega)]; done) | (rw [decide_eq_false (by omega)]; done) | (simp_all [pc_nba]; done) | (simp [pc_nba]; omega) | (simp_all [pc_nba]; omega) | omega) rfl
    · refine go_iload_n C dX9_blocksAreRight_8 1 rfl rfl ?_
      refine go_iconst C (1) dX9_blocksAreRight_9 (by decide) ?_
      refine go_iadd C (z := nI (a + 1)) dX9_blocksAreRight_10 (nI_add a 1) ?_
      refine go_istore_n C [(0, .ref mo), (1, .int (nI a)), (2, .int (nI (a + 1)))] dX9_blocksAreRight_11 [1, 2, 0] rfl (by decide) rfl ?_
      refine l_X9_blocksAreRight_12 G rs p0 p1 p2 p3 p4 mo mfi mbl mpb mru mle miv mst mpa mhe maf mno msk nr il ct ex br sl fu Rf ln If Bf hp0 hp1 hp2 hp3 hp4 hnr hil hln a (pc_nbi nr ln Rf Bf il If a 7 (a + 1)) (by omega) (fun h => by rw [← hR]; simp [pc_nba, c_5, h]) C E (fun hK_12 => ?_) 7 (a + 1) (by omega) (by omega) rfl
      show go_Go X (0, 0) rs [(0, .ref mo), (1, .int (nI a))] [] 59
      refine go_iinc C (nI (a + 1)) [(0, .ref mo), (1, .int (nI (a + 1)))] dX9_blocksAreRight_59 1 [1, 0] rfl (nI_add a 1) (by decide) rfl ?_
      refine go_goto C 2 dX9_blocksAreRight_62 (by decide) ?_
      exact ih (a + 1) (by omega) (by omega) (by rw [← hR]; simp [pc_nba, c_5, hK_12])
set_option maxHeartbeats 4000000 in
set_option maxRecDepth 100000 in
theorem c_X9_blocksAreRight (G : go_G) (rs : va_W) (p0 : Nat) (p1 : Nat) (p2 : Nat) (p3 : Nat) (p4 : Nat) (mo : Nat) (mfi : Nat) (mbl : Nat) (mpb : Nat) (mru : Nat) (mle : Nat) (miv : Nat) (mst : Nat) (mpa : Nat) (mhe : Nat) (maf : Nat) (mno : Nat) (msk : Nat) (nr : Nat) (il : Nat) (ct : Nat) (ex : Nat) (br : Int32) (sl : Bool) (fu : Bool) (Rf : Nat → Int32) (ln : Nat → Nat) (If : Nat → Int32) (Bf : Nat → Int32) (hp0 : rs[p0]? = some (mo, .inr (8, [.ref mfi, .ref mbl, .ref mpb, .ref mru, .ref mle, .ref miv, .ref mst, .ref mpa, .ref mhe, .ref maf, .ref mno, .ref msk, .int (nI nr), .int (nI il), .int (nI ct), .int (nI ex), .int br, .int (go_b (sl)), .int (go_b (fu))]))) (hp1 : rs[p1]? = some (mru, .inl (G.2.1, 384, .inl Rf))) (hp2 : rs[p2]? = some (mle, .inl (G.2.1, 12, .inl (pc_lf ln)))) (hp3 : rs[p3]? = some (miv, .inl (G.2.1, 32, .inl If))) (hp4 : rs[p4]? = some (mbl, .inl (G.2.1, 6, .inl Bf))) (hnr : nr ≤ 12) (hil : il ≤ 32) (hln : ∀ r, r < 12 → ln r ≤ 32) : go_Fn yX9_blocksAreRight cX9_blocksAreRight 3 (some .boolean) 4 97 G [.ref mo] rs (some (.int (go_b (pc_nba nr ln Rf Bf il If 7 0)))) rs := by
  refine go_Fn_of (by decide) (Nat.le_of_ble_eq_true rfl) (fun X C E => ?_)
  show go_Go X (0, 0) rs [(0, .ref mo)] [] 0
  refine go_iconst C (0) dX9_blocksAreRight_0 (by decide) ?_
  refine go_istore_n C [(0, .ref mo), (1, .int 0)] dX9_blocksAreRight_1 [1, 0] rfl (by decide) rfl ?_
  exact l_X9_blocksAreRight_2 G rs p0 p1 p2 p3 p4 mo mfi mbl mpb mru mle miv mst mpa mhe maf mno msk nr il ct ex br sl fu Rf ln If Bf hp0 hp1 hp2 hp3 hp4 hnr hil hln  C E 7 0 (by omega) (by omega) rfl
set_option maxHeartbeats 4000000 in
set_option maxRecDepth 100000 in
theorem c_X9_two (G : go_G) (rs : va_W)  (o : Int32) (x : Int32) (y : Int32)  (ho : pc_bo o) : go_Fn yX9_two cX9_two 3 (some .int) 0 0 G [.int o, .int x, .int y] rs (some (.int (pc_bin o x y))) rs := by
  refine go_Fn_of (by decide) (Nat.le_of_ble_eq_true rfl) (fun X C E => ?_)
  show go_Go X (0, 0) rs [(0, .int o), (1, .int x), (2, .int y)] [] 0
  refine go_iload_n C dX9_two_0 0 rfl rfl ?_
  rcases ho with rfl | rfl | rfl | rfl | rfl | rfl | rfl
  · refine go_table C (off := 39) 40 dX9_two_1 (by decide) (by decide) (by decide) (by decide) ?_
    refine go_iload_n C dX9_two_40 1 rfl rfl ?_
    refine go_iload_n C dX9_two_41 2 rfl rfl ?_
    refine go_iadd C (z := x + y) dX9_two_42 rfl ?_
    exact go_iret C E dX9_two_43 (by first | contradiction | rfl | (simp [pc_bin, *]; done) | (rw [decide_eq_true (by omega)]; done) | (rw [decide_eq_false (by omega)]; done) | (simp_all [pc_bin]; done) | (simp [pc_bin]; omega) | (simp_all [pc_bin]; omega) | omega) rfl
  · refine go_table C (off := 43) 44 dX9_two_1 (by decide) (by decide) (by decide) (by decide) ?_
    refine go_iload_n C dX9_two_44 1 rfl rfl ?_
    refine go_iload_n C dX9_two_45 2 rfl rfl ?_
    refine go_isub C (z := x - y) dX9_two_46 rfl ?_
    exact go_iret C E dX9_two_47 (by first | contradiction | rfl | (simp [pc_bin, *]; done) | (rw [decide_eq_true (by omega)]; done) | (rw [decide_eq_false (by omega)]; done) | (simp_all [pc_bin]; done) | (simp [pc_bin]; omega) | (simp_all [pc_bin]; omega) | omega) rfl
  · refine go_table C (off := 47) 48 dX9_two_1 (by decide) (by decide) (by decide) (by decide) ?_
    refine go_iload_n C dX9_two_48 1 rfl rfl ?_
    refine go_iload_n C dX9_two_49 2 rfl rfl ?_
    refine go_imul C (z := x * y) dX9_two_50 rfl ?_
    exact go_iret C E dX9_two_51 (by first | contradiction | rfl | (simp [pc_bin, *]; done) | (rw [decide_eq_true (by omega)]; done) | (rw [decide_eq_false (by omega)]; done) | (simp_all [pc_bin]; done) | (simp [pc_bin]; omega) | (simp_all [pc_bin]; omega) | omega) rfl
  · refine go_table C (off := 51) 52 dX9_two_1 (by decide) (by decide) (by decide) (by decide) ?_
    refine go_iload_n C dX9_two_52 1 rfl rfl ?_
    refine go_iload_n C dX9_two_53 2 rfl rfl ?_
    refine go_icmp_ne C 61 dX9_two_54 (by decide) (fun c_54 => ?_) (fun c_54 => ?_)
    · refine go_iconst C (0) dX9_two_61 (by decide) ?_
      exact go_iret C E dX9_two_62 (by first | contradiction | rfl | (simp [pc_bin, *]; done) | (rw [decide_eq_true (by omega)]; done) | (rw [decide_eq_false (by omega)]; done) | (simp_all [pc_bin]; done) | (simp [pc_bin]; omega) | (simp_all [pc_bin]; omega) | omega) rfl
    · refine go_iconst C (1) dX9_two_57 (by decide) ?_
      refine go_goto C 62 dX9_two_58 (by decide) ?_
      exact go_iret C E dX9_two_62 (by first | contradiction | rfl | (simp [pc_bin, *]; done) | (rw [decide_eq_true (by omega)]; done) | (rw [decide_eq_false (by omega)]; done) | (simp_all [pc_bin]; done) | (simp [pc_bin]; omega) | (simp_all [pc_bin]; omega) | omega) rfl
  · refine go_table C (off := 62) 63 dX9_two_1 (by decide) (by decide) (by decide) (by decide) ?_
    refine go_iload_n C dX9_two_63 1 rfl rfl ?_
    refine go_iload_n C dX9_two_64 2 rfl rfl ?_
    refine go_icmp_ge C 72 dX9_two_65 (by decide) (fun c_65 => ?_) (fun c_65 => ?_)
    · refine go_iconst C (0) dX9_two_72 (by decide) ?_
      exact go_iret C E dX9_two_73 (by first | contradiction | rfl | (simp [pc_bin, *]; done) | (rw [decide_eq_true (by omega)]; done) | (rw [decide_eq_false (by omega)]; done) | (simp_all [pc_bin]; done) | (simp [pc_bin]; omega) | (simp_all [pc_bin]; omega) | omega) rfl
    · refine go_iconst C (1) dX9_two_68 (by decide) ?_
      refine go_goto C 73 dX9_two_69 (by decide) ?_
      exact go_iret C E dX9_two_73 (by first | contradiction | rfl | (simp [pc_bin, *]; done) | (rw [decide_eq_true (by omega)]; done) | (rw [decide_eq_false (by omega)]; done) | (simp_all [pc_bin]; done) | (simp [pc_bin]; omega) | (simp_all [pc_bin]; omega) | omega) rfl
  · refine go_table C (off := 73) 74 dX9_two_1 (by decide) (by decide) (by decide) (by decide) ?_
    refine go_iload_n C dX9_two_74 1 rfl rfl ?_
    refine go_iload_n C dX9_two_75 2 rfl rfl ?_
    refine go_iand C (z := x &&& y) dX9_two_76 rfl ?_
    exact go_iret C E dX9_two_77 (by first | contradiction | rfl | (simp [pc_bin, *]; done) | (rw [decide_eq_true (by omega)]; done) | (rw [decide_eq_false (by omega)]; done) | (simp_all [pc_bin]; done) | (simp [pc_bin]; omega) | (simp_all [pc_bin]; omega) | omega) rfl
  · refine go_tableD C 78 dX9_two_1 (by decide) (by decide) ?_
    refine go_iload_n C dX9_two_78 1 rfl rfl ?_
    refine go_iload_n C dX9_two_79 2 rfl rfl ?_
    refine go_ior C (z := x ||| y) dX9_two_80 rfl ?_
    exact go_iret C E dX9_two_81 (by first | contradiction | rfl | (simp [pc_bin, *]; done) | (rw [decide_eq_true (by omega)]; done) | (rw [decide_eq_false (by omega)]; done) | (simp_all [pc_bin]; done) | (simp [pc_bin]; omega) | (simp_all [pc_bin]; omega) | omega) rfl
set_option maxHeartbeats 4000000 in
set_option maxRecDepth 100000 in
theorem c_X9_done (G : go_G) (rs : va_W) (p0 : Nat) (p1 : Nat) (mo : Nat) (mfi : Nat) (mbl : Nat) (mpb : Nat) (mru : Nat) (mle : Nat) (miv : Nat) (mst : Nat) (mpa : Nat) (mhe : Nat) (maf : Nat) (mno : Nat) (msk : Nat) (nr : Nat) (il : Nat) (ct : Nat) (ex : Nat) (br : Int32) (sl : Bool) (fu : Bool) (st : Nat → Int32) (b : Nat → Int32) (w : Int32) (h : Nat) (hp0 : rs[p0]? = some (mo, .inr (8, [.ref mfi, .ref mbl, .ref mpb, .ref mru, .ref mle, .ref miv, .ref mst, .ref mpa, .ref mhe, .ref maf, .ref mno, .ref msk, .int (nI nr), .int (nI il), .int (nI ct), .int (nI ex), .int br, .int (go_b (sl)), .int (go_b (fu))]))) (hp1 : rs[p1]? = some (mhe, .inl (G.2.1, 6, .inl b))) (ok : pc_okw h w) : go_Fn yX9_done cX9_done 4 (some .int) 1 22 G [.ref mo, .int w, .int (nI h)] ((msk, .inl (G.2.1, 9, .inl st)) :: rs) (some (.int (nI (pc_hw h w)))) ((msk, .inl (G.2.1, 9, .inl (pc_s1 b h st w))) :: rs) := by
  refine go_Fn_of (by decide) (Nat.le_of_ble_eq_true rfl) (fun X C E => ?_)
  show go_Go X (0, 0) ((msk, .inl (G.2.1, 9, .inl st)) :: rs) [(0, .ref mo), (1, .int w), (2, .int (nI h))] [] 0
  refine go_iload_n C dX9_done_0 1 rfl rfl ?_
  refine go_sipush C (255) dX9_done_1 (by decide) ?_
  refine go_iand C (z := pc_op w) dX9_done_4 rfl ?_
  refine go_istore_n C [(0, .ref mo), (1, .int w), (2, .int (nI h)), (3, .int (pc_op w))] dX9_done_5 [1, 2, 3, 0] rfl (by decide) rfl ?_
  refine go_iload_n C dX9_done_6 3 rfl rfl ?_
  refine go_if_eq C 15 dX9_done_7 (by decide) (fun c_7 => ?_) (fun c_7 => ?_)
  · have hx := pc_okw_0 ok c_7
    refine go_aload_n C dX9_done_15 0 rfl rfl ?_
    refine go_get C (v := .ref msk) fl_X9_43 dX9_done_16 (p0 + 1) hp0 rfl ?_
    refine go_iload_n C dX9_done_19 2 rfl rfl ?_
    refine go_iload_n C dX9_done_20 3 rfl rfl ?_
    refine go_if_ne C 31 dX9_done_21 (by decide) (fun c_21 => ?_) (fun c_21 => ?_)
    · exact absurd c_7 c_21
    · refine go_iload_n C dX9_done_24 1 rfl rfl ?_
      refine go_bipush C (8) dX9_done_25 (by decide) ?_
      refine go_ishr C (z := pc_k w) dX9_done_27 rfl ?_
      refine go_goto C 40 dX9_done_28 (by decide) ?_
      refine go_iast C dX9_done_40 0 rfl (h) rfl (by omega) (by decide) ((msk, .inl (G.2.1, 9, .inl (upd st h (pc_k w)))) :: rs) rfl ?_
      refine go_iload_n C dX9_done_41 2 rfl rfl ?_
      refine go_iconst C (1) dX9_done_42 (by decide) ?_
      refine go_iadd C (z := nI (h + 1)) dX9_done_43 (nI_add h 1) ?_
      exact go_iret C E dX9_done_44 (by first | (simp [pc_hw, c_7]; done) | (simp [pc_hw, c_7, c_12]; done) | (simp [pc_hw, c_7, c_12, c_48]; done)) (by first | (simp [pc_s1, c_7]; done) | (simp [pc_s1, c_7, c_12]; done) | (simp [pc_s1, c_7, c_12, c_48, c_66]; done) | (simp [pc_s1, c_7, c_12, c_48, show h - 2 = h - 1 - 1 by omega]; done))
  · refine go_iload_n C dX9_done_10 3 rfl rfl ?_
    refine go_iconst C (1) dX9_done_11 (by decide) ?_
    refine go_icmp_ne C 45 dX9_done_12 (by decide) (fun c_12 => ?_) (fun c_12 => ?_)
    · refine go_iload_n C dX9_done_45 3 rfl rfl ?_
      refine go_bipush C (9) dX9_done_46 (by decide) ?_
      refine go_icmp_ne C 77 dX9_done_48 (by decide) (fun c_48 => ?_) (fun c_48 => ?_)
      · obtain ⟨ho, hx, hy⟩ := pc_okw_b ok c_7 c_12 c_48
        refine go_aload_n C dX9_done_77 0 rfl rfl ?_
        refine go_get C (v := .ref msk) fl_X9_43 dX9_done_78 (p0 + 1) hp0 rfl ?_
        refine go_iload_n C dX9_done_81 2 rfl rfl ?_
        refine go_iconst C (2) dX9_done_82 (by decide) ?_
        refine go_isub C (z := nI (h - 2)) dX9_done_83 (pk_sub (a := h) (b := 2) (by omega)) ?_
        refine go_iload_n C dX9_done_84 3 rfl rfl ?_
        refine go_aload_n C dX9_done_85 0 rfl rfl ?_
        refine go_get C (v := .ref msk) fl_X9_43 dX9_done_86 (p0 + 1) hp0 rfl ?_
        refine go_iload_n C dX9_done_89 2 rfl rfl ?_
        refine go_iconst C (2) dX9_done_90 (by decide) ?_
        refine go_isub C (z := nI (h - 2)) dX9_done_91 (pk_sub (a := h) (b := 2) (by omega)) ?_
        refine go_iald C dX9_done_92 0 rfl (h - 2) rfl (by omega) (by decide) ?_
        refine go_aload_n C dX9_done_93 0 rfl rfl ?_
        refine go_get C (v := .ref msk) fl_X9_43 dX9_done_94 (p0 + 1) hp0 rfl ?_
        refine go_iload_n C dX9_done_97 2 rfl rfl ?_
        refine go_iconst C (1) dX9_done_98 (by decide) ?_
        refine go_isub C (z := nI (h - 1)) dX9_done_99 (pk_sub (a := h) (b := 1) (by omega)) ?_
        refine go_iald C dX9_done_100 0 rfl (h - 1) rfl (by omega) (by decide) ?_
        refine go_cS C (c_X9_two G ((msk, .inl (G.2.1, 9, .inl st)) :: rs)  (pc_op w) (st (h - 2)) (st (h - 1))  ho) ml_X9_109 mc_X9_two dX9_done_101 [.int (nI (h - 2)), .ref msk] rfl rfl rfl ⟨Nat.le_of_ble_eq_true rfl, Nat.le_of_ble_eq_true rfl, Nat.zero_le _, Nat.zero_le _, Nat.le_of_ble_eq_true rfl⟩ [.int (pc_bin (pc_op w) (st (h - 2)) (st (h - 1))), .int (nI (h - 2)), .ref msk] rfl ?_
        refine go_iast C dX9_done_104 0 rfl (h - 2) rfl (by omega) (by decide) ((msk, .inl (G.2.1, 9, .inl (upd st (h - 2) (pc_bin (pc_op w) (st (h - 2)) (st (h - 1)))))) :: rs) rfl ?_
        refine go_iload_n C dX9_done_105 2 rfl rfl ?_
        refine go_iconst C (1) dX9_done_106 (by decide) ?_
        refine go_isub C (z := nI (h - 1)) dX9_done_107 (pk_sub (a := h) (b := 1) (by omega)) ?_
        exact go_iret C E dX9_done_108 (by first | (simp [pc_hw, c_7]; done) | (simp [pc_hw, c_7, c_12]; done) | (simp [pc_hw, c_7, c_12, c_48]; done)) (by first | (simp [pc_s1, c_7]; done) | (simp [pc_s1, c_7, c_12]; done) | (simp [pc_s1, c_7, c_12, c_48, c_66]; done) | (simp [pc_s1, c_7, c_12, c_48, show h - 2 = h - 1 - 1 by omega]; done))
      · have hx := pc_okw_9 ok c_48
        refine go_aload_n C dX9_done_51 0 rfl rfl ?_
        refine go_get C (v := .ref msk) fl_X9_43 dX9_done_52 (p0 + 1) hp0 rfl ?_
        refine go_iload_n C dX9_done_55 2 rfl rfl ?_
        refine go_iconst C (1) dX9_done_56 (by decide) ?_
        refine go_isub C (z := nI (h - 1)) dX9_done_57 (pk_sub (a := h) (b := 1) (by omega)) ?_
        refine go_aload_n C dX9_done_58 0 rfl rfl ?_
        refine go_get C (v := .ref msk) fl_X9_43 dX9_done_59 (p0 + 1) hp0 rfl ?_
        refine go_iload_n C dX9_done_62 2 rfl rfl ?_
        refine go_iconst C (1) dX9_done_63 (by decide) ?_
        refine go_isub C (z := nI (h - 1)) dX9_done_64 (pk_sub (a := h) (b := 1) (by omega)) ?_
        refine go_iald C dX9_done_65 0 rfl (h - 1) rfl (by omega) (by decide) ?_
        refine go_if_ne C 73 dX9_done_66 (by decide) (fun c_66 => ?_) (fun c_66 => ?_)
        · refine go_iconst C (0) dX9_done_73 (by decide) ?_
          refine go_iast C dX9_done_74 0 rfl (h - 1) rfl (by omega) (by decide) ((msk, .inl (G.2.1, 9, .inl (upd st (h - 1) 0))) :: rs) rfl ?_
          refine go_iload_n C dX9_done_75 2 rfl rfl ?_
          exact go_iret C E dX9_done_76 (by first | (simp [pc_hw, c_7]; done) | (simp [pc_hw, c_7, c_12]; done) | (simp [pc_hw, c_7, c_12, c_48]; done)) (by first | (simp [pc_s1, c_7]; done) | (simp [pc_s1, c_7, c_12]; done) | (simp [pc_s1, c_7, c_12, c_48, c_66]; done) | (simp [pc_s1, c_7, c_12, c_48, show h - 2 = h - 1 - 1 by omega]; done))
        · refine go_iconst C (1) dX9_done_69 (by decide) ?_
          refine go_goto C 74 dX9_done_70 (by decide) ?_
          refine go_iast C dX9_done_74 0 rfl (h - 1) rfl (by omega) (by decide) ((msk, .inl (G.2.1, 9, .inl (upd st (h - 1) 1))) :: rs) rfl ?_
          refine go_iload_n C dX9_done_75 2 rfl rfl ?_
          exact go_iret C E dX9_done_76 (by first | (simp [pc_hw, c_7]; done) | (simp [pc_hw, c_7, c_12]; done) | (simp [pc_hw, c_7, c_12, c_48]; done)) (by first | (simp [pc_s1, c_7]; done) | (simp [pc_s1, c_7, c_12]; done) | (simp [pc_s1, c_7, c_12, c_48, c_66]; done) | (simp [pc_s1, c_7, c_12, c_48, show h - 2 = h - 1 - 1 by omega]; done))
    · obtain ⟨hx, hk⟩ := pc_okw_1 ok c_12
      refine go_aload_n C dX9_done_15 0 rfl rfl ?_
      refine go_get C (v := .ref msk) fl_X9_43 dX9_done_16 (p0 + 1) hp0 rfl ?_
      refine go_iload_n C dX9_done_19 2 rfl rfl ?_
      refine go_iload_n C dX9_done_20 3 rfl rfl ?_
      refine go_if_ne C 31 dX9_done_21 (by decide) (fun c_21 => ?_) (fun c_21 => ?_)
      · refine go_aload_n C dX9_done_31 0 rfl rfl ?_
        refine go_get C (v := .ref mhe) fl_X9_34 dX9_done_32 (p0 + 1) hp0 rfl ?_
        refine go_iload_n C dX9_done_35 1 rfl rfl ?_
        refine go_bipush C (8) dX9_done_36 (by decide) ?_
        refine go_ishr C (z := pc_k w) dX9_done_38 rfl ?_
        refine go_iald C dX9_done_39 (p1 + 1) hp1 ((pc_k w).toNatClampNeg) (pc_isV_nI hk).1 (pc_isV_nI hk).2 (by decide) ?_
        refine go_iast C dX9_done_40 0 rfl (h) rfl (by omega) (by decide) ((msk, .inl (G.2.1, 9, .inl (upd st h (b ((pc_k w).toNatClampNeg))))) :: rs) rfl ?_
        refine go_iload_n C dX9_done_41 2 rfl rfl ?_
        refine go_iconst C (1) dX9_done_42 (by decide) ?_
        refine go_iadd C (z := nI (h + 1)) dX9_done_43 (nI_add h 1) ?_
        exact go_iret C E dX9_done_44 (by first | (simp [pc_hw, c_7]; done) | (simp [pc_hw, c_7, c_12]; done) | (simp [pc_hw, c_7, c_12, c_48]; done)) (by first | (simp [pc_s1, c_7]; done) | (simp [pc_s1, c_7, c_12]; done) | (simp [pc_s1, c_7, c_12, c_48, c_66]; done) | (simp [pc_s1, c_7, c_12, c_48, show h - 2 = h - 1 - 1 by omega]; done))
      · exact absurd c_21 c_7
set_option maxHeartbeats 4000000 in
set_option maxRecDepth 100000 in
theorem l_X9_holds_4 {X : go_X} (G : go_G) (rs : va_W) (p0 : Nat) (p1 : Nat) (p2 : Nat) (mo : Nat) (mfi : Nat) (mbl : Nat) (mpb : Nat) (mru : Nat) (mle : Nat) (miv : Nat) (mst : Nat) (mpa : Nat) (mhe : Nat) (maf : Nat) (mno : Nat) (msk : Nat) (nr : Nat) (il : Nat) (ct : Nat) (ex : Nat) (br : Int32) (sl : Bool) (fu : Bool) (If : Nat → Int32) (st : Nat → Int32) (b : Nat → Int32) (hp0 : rs[p0]? = some (mo, .inr (8, [.ref mfi, .ref mbl, .ref mpb, .ref mru, .ref mle, .ref miv, .ref mst, .ref mpa, .ref mhe, .ref maf, .ref mno, .ref msk, .int (nI nr), .int (nI il), .int (nI ct), .int (nI ex), .int br, .int (go_b (sl)), .int (go_b (fu))]))) (hp1 : rs[p1]? = some (miv, .inl (G.2.1, 32, .inl If))) (hp2 : rs[p2]? = some (mhe, .inl (G.2.1, 6, .inl b))) (hil : il ≤ 32) (hok : pc_mok If il 0 0)   (C : go_Cx X cX9_holds RX9 (some .boolean) 3 2 45 0 0 G) (E : go_Ee X (S := Nat → Int32) (fun u => True) (fun u => some (.int (go_b (pc_mho il If b)))) (fun u => (msk, .inl (G.2.1, 9, .inl u)) :: rs))  : ∀ (n : Nat) (i : Nat) (h : Nat) (t : Nat → Int32) (k : Nat) (hin : il < i + n) (hk : i + k = il) (ok2 : pc_mok If k i h) (hR : pc_mh If b k i h t = pc_mho il If b), go_Go X (0, 0) ((msk, .inl (G.2.1, 9, .inl t)) :: rs) [(0, .ref mo), (1, .int (nI h)), (2, .int (nI i))] [] 4 := by
  intro n
  induction n with
  | zero => intro i h t k hin hk ok2 hR; omega
  | succ n ih =>
    intro i h t k hin hk ok2 hR
    refine go_iload_n C dX9_holds_4 2 rfl rfl ?_
    refine go_aload_n C dX9_holds_5 0 rfl rfl ?_
    refine go_get C (v := .int (nI il)) fl_X9_53 dX9_holds_6 (p0 + 1) hp0 rfl ?_
    refine go_icmp_geN (a := i) (b := il) C 61 dX9_holds_9 (by decide) (by omega) (by omega) (fun c_9 => ?_) (fun c_9 => ?_)
    · refine go_aload_n C dX9_holds_61 0 rfl rfl ?_
      refine go_get C (v := .ref msk) fl_X9_43 dX9_holds_62 (p0 + 1) hp0 rfl ?_
      refine go_iconst C (0) dX9_holds_65 (by decide) ?_
      refine go_iald C dX9_holds_66 0 rfl (0) rfl (by decide) (by decide) ?_
      refine go_if_eq C 74 dX9_holds_67 (by decide) (fun c_67 => ?_) (fun c_67 => ?_)
      · refine go_iconst C (0) dX9_holds_74 (by decide) ?_
        refine go_se [.int (go_b (false))] rfl ?_
        exact go_zretE C E dX9_holds_75 (go_bn _) (t) trivial (by rw [← hR, show k = 0 by omega]; simp [pc_mh, c_67]) rfl
      · refine go_iconst C (1) dX9_holds_70 (by decide) ?_
        refine go_goto C 75 dX9_holds_71 (by decide) ?_
        refine go_se [.int (go_b (true))] rfl ?_
        exact go_zretE C E dX9_holds_75 (go_bn _) (t) trivial (by rw [← hR, show k = 0 by omega]; simp [pc_mh, c_67]) rfl
    · obtain ⟨k, rfl⟩ : ∃ q, k = q + 1 := ⟨k - 1, by omega⟩
      refine go_aload_n C dX9_holds_12 0 rfl rfl ?_
      refine go_get C (v := .ref miv) fl_X9_25 dX9_holds_13 (p0 + 1) hp0 rfl ?_
      refine go_iload_n C dX9_holds_16 2 rfl rfl ?_
      refine go_iald C dX9_holds_17 (p1 + 1) hp1 (i) rfl (by omega) (by decide) ?_
      refine go_sipush C (255) dX9_holds_18 (by decide) ?_
      refine go_iand C (z := pc_op (If i)) dX9_holds_21 rfl ?_
      refine go_bipush C (12) dX9_holds_22 (by decide) ?_
      refine go_icmp_ne C 43 dX9_holds_24 (by decide) (fun c_24 => ?_) (fun c_24 => ?_)
      · unfold pc_mok at ok2
        rw [if_neg c_24] at ok2
        refine go_aload_n C dX9_holds_43 0 rfl rfl ?_
        refine go_aload_n C dX9_holds_44 0 rfl rfl ?_
        refine go_get C (v := .ref miv) fl_X9_25 dX9_holds_45 (p0 + 1) hp0 rfl ?_
        refine go_iload_n C dX9_holds_48 2 rfl rfl ?_
        refine go_iald C dX9_holds_49 (p1 + 1) hp1 (i) rfl (by omega) (by decide) ?_
        refine go_iload_n C dX9_holds_50 1 rfl rfl ?_
        refine go_cV C (c_X9_done G rs p0 p2 mo mfi mbl mpb mru mle miv mst mpa mhe maf mno msk nr il ct ex br sl fu t b (If i) h hp0 hp2 ok2.1) ml_X9_112 mc_X9_done dX9_holds_51 [] rfl rfl (p0 + 1) hp0 rfl rfl ⟨Nat.le_of_ble_eq_true rfl, Nat.le_of_ble_eq_true rfl, Nat.zero_le _, Nat.zero_le _, Nat.le_of_ble_eq_true rfl⟩ [.int (nI (pc_hw h (If i)))] rfl ?_
        refine go_istore_n C [(0, .ref mo), (1, .int (nI (pc_hw h (If i)))), (2, .int (nI i))] dX9_holds_54 [1, 0, 2] rfl (by decide) rfl ?_
        refine go_iinc C (nI (i + 1)) [(0, .ref mo), (1, .int (nI (pc_hw h (If i)))), (2, .int (nI (i + 1)))] dX9_holds_55 2 [1, 2, 0] rfl (nI_add i 1) (by decide) rfl ?_
        refine go_goto C 4 dX9_holds_58 (by decide) ?_
        exact ih (i + 1) (pc_hw h (If i)) (pc_s1 b h t (If i)) k (by omega) (by omega) ok2.2 (by rw [← hR]; first | (simp [pc_mh, c_24, c_33]; done) | (simp [pc_mh, c_24]; done))
      · unfold pc_mok at ok2
        rw [if_pos c_24] at ok2
        refine go_aload_n C dX9_holds_27 0 rfl rfl ?_
        refine go_get C (v := .ref msk) fl_X9_43 dX9_holds_28 (p0 + 1) hp0 rfl ?_
        refine go_iconst C (0) dX9_holds_31 (by decide) ?_
        refine go_iald C dX9_holds_32 0 rfl (0) rfl (by decide) (by decide) ?_
        refine go_if_ne C 38 dX9_holds_33 (by decide) (fun c_33 => ?_) (fun c_33 => ?_)
        · refine go_iconst C (0) dX9_holds_38 (by decide) ?_
          refine go_istore_n C [(0, .ref mo), (1, .int 0), (2, .int (nI i))] dX9_holds_39 [1, 0, 2] rfl (by decide) rfl ?_
          refine go_goto C 55 dX9_holds_40 (by decide) ?_
          refine go_iinc C (nI (i + 1)) [(0, .ref mo), (1, .int 0), (2, .int (nI (i + 1)))] dX9_holds_55 2 [1, 2, 0] rfl (nI_add i 1) (by decide) rfl ?_
          refine go_goto C 4 dX9_holds_58 (by decide) ?_
          exact ih (i + 1) 0 t k (by omega) (by omega) ok2.2 (by rw [← hR]; first | (simp [pc_mh, c_24, c_33]; done) | (simp [pc_mh, c_24]; done))
        · refine go_iconst C (0) dX9_holds_36 (by decide) ?_
          refine go_se [.int (go_b (false))] rfl ?_
          exact go_zretE C E dX9_holds_37 (go_bn _) (t) trivial (by rw [← hR]; simp [pc_mh, c_24, c_33]) rfl
set_option maxHeartbeats 4000000 in
set_option maxRecDepth 100000 in
theorem c_X9_holds (G : go_G) (rs : va_W) (p0 : Nat) (p1 : Nat) (p2 : Nat) (mo : Nat) (mfi : Nat) (mbl : Nat) (mpb : Nat) (mru : Nat) (mle : Nat) (miv : Nat) (mst : Nat) (mpa : Nat) (mhe : Nat) (maf : Nat) (mno : Nat) (msk : Nat) (nr : Nat) (il : Nat) (ct : Nat) (ex : Nat) (br : Int32) (sl : Bool) (fu : Bool) (If : Nat → Int32) (st : Nat → Int32) (b : Nat → Int32) (hp0 : rs[p0]? = some (mo, .inr (8, [.ref mfi, .ref mbl, .ref mpb, .ref mru, .ref mle, .ref miv, .ref mst, .ref mpa, .ref mhe, .ref maf, .ref mno, .ref msk, .int (nI nr), .int (nI il), .int (nI ct), .int (nI ex), .int br, .int (go_b (sl)), .int (go_b (fu))]))) (hp1 : rs[p1]? = some (miv, .inl (G.2.1, 32, .inl If))) (hp2 : rs[p2]? = some (mhe, .inl (G.2.1, 6, .inl b))) (hil : il ≤ 32) (hok : pc_mok If il 0 0) : go_Fe yX9_holds cX9_holds 3 (some .boolean) 2 45 G [.ref mo] ((msk, .inl (G.2.1, 9, .inl st)) :: rs) (S := Nat → Int32) (fun u => True) (fun u => some (.int (go_b (pc_mho il If b)))) (fun u => (msk, .inl (G.2.1, 9, .inl u)) :: rs) := by
  refine go_Fe_of (by decide) (Nat.le_of_ble_eq_true rfl) (fun X C E => ?_)
  show go_Go X (0, 0) ((msk, .inl (G.2.1, 9, .inl st)) :: rs) [(0, .ref mo)] [] 0
  refine go_iconst C (0) dX9_holds_0 (by decide) ?_
  refine go_istore_n C [(0, .ref mo), (1, .int 0)] dX9_holds_1 [1, 0] rfl (by decide) rfl ?_
  refine go_iconst C (0) dX9_holds_2 (by decide) ?_
  refine go_istore_n C [(0, .ref mo), (1, .int 0), (2, .int 0)] dX9_holds_3 [1, 2, 0] rfl (by decide) rfl ?_
  exact l_X9_holds_4 G rs p0 p1 p2 mo mfi mbl mpb mru mle miv mst mpa mhe maf mno msk nr il ct ex br sl fu If st b hp0 hp1 hp2 hil hok  C E (il + 1) 0 0 st il (by omega) (by omega) hok (pc_mh_eq il 0 0 st (fun _ => 0) hok (fun _ q => absurd q (by omega)))
