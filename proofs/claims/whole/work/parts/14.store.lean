set_option maxHeartbeats 4000000 in
set_option maxRecDepth 100000 in
theorem c_X4_clear (G : go_G) (rs : va_W)  (so : Nat) (va : Nat) (pa : Nat) (ne : Nat) (ol : Nat) (ct : Nat) (Nf : Nat → Int32)   : go_Fn yX4_clear cX4_clear 1 none 1 23 G [.ref so] ((so, .inr (4, [.ref va, .ref pa, .ref ne, .ref ol, .int (nI ct)])) :: (ne, .inl (G.2.1, 512, .inl Nf)) :: rs) (none) ((so, .inr (4, [.ref va, .ref pa, .ref ne, .ref ol, .int (nI 0)])) :: (ne, .inl (G.2.1, 512, .inl (pc_fill 512 (-1) Nf))) :: rs) := by
  refine go_Fn_of (by decide) (Nat.le_of_ble_eq_true rfl) (fun X C E => ?_)
  show go_Go X (0, 0) ((so, .inr (4, [.ref va, .ref pa, .ref ne, .ref ol, .int (nI ct)])) :: (ne, .inl (G.2.1, 512, .inl Nf)) :: rs) [(0, .ref so)] [] 0
  refine go_aload_n C dX4_clear_0 0 rfl rfl ?_
  refine go_iconst C (0) dX4_clear_1 (by decide) ?_
  refine go_put C fp_X4_24 dX4_clear_2 0 rfl rfl rfl (Nat.le_of_ble_eq_true rfl) ((so, .inr (4, [.ref va, .ref pa, .ref ne, .ref ol, .int 0])) :: (ne, .inl (G.2.1, 512, .inl Nf)) :: rs) rfl ?_
  refine go_aload_n C dX4_clear_5 0 rfl rfl ?_
  refine go_get C (v := .ref ne) fl_X4_18 dX4_clear_6 0 rfl rfl ?_
  refine go_iconst C ((-1)) dX4_clear_9 (by decide) ?_
  refine go_perm [(so, .inr (4, [.ref va, .ref pa, .ref ne, .ref ol, .int 0])), (ne, .inl (G.2.1, 512, .inl Nf))] [(ne, .inl (G.2.1, 512, .inl Nf)), (so, .inr (4, [.ref va, .ref pa, .ref ne, .ref ol, .int 0]))] rs [1, 0] rfl rfl rfl ?_
  refine go_cS C (c_J7_fill_53178 G ((so, .inr (4, [.ref va, .ref pa, .ref ne, .ref ol, .int 0])) :: rs)  ne 512 Nf (-1)  (by omega)) ml_X4_28 mc_J7_fill_53178 dX4_clear_10 [] rfl rfl rfl ⟨Nat.le_of_ble_eq_true rfl, Nat.le_of_ble_eq_true rfl, Nat.zero_le _, Nat.zero_le _, Nat.le_of_ble_eq_true rfl⟩ [] rfl ?_
  refine go_perm [(ne, .inl (G.2.1, 512, .inl (pc_fill 512 (-1) Nf))), (so, .inr (4, [.ref va, .ref pa, .ref ne, .ref ol, .int 0]))] [(so, .inr (4, [.ref va, .ref pa, .ref ne, .ref ol, .int 0])), (ne, .inl (G.2.1, 512, .inl (pc_fill 512 (-1) Nf)))] rs [1, 0] rfl rfl rfl ?_
  exact go_vret C E dX4_clear_13 rfl rfl
set_option maxHeartbeats 4000000 in
set_option maxRecDepth 100000 in
theorem c_X4_count (G : go_G) (rs : va_W) (p0 : Nat) (so : Nat) (va : Nat) (pa : Nat) (ne : Nat) (ol : Nat) (ct : Nat) (hp0 : rs[p0]? = some (so, .inr (4, [.ref va, .ref pa, .ref ne, .ref ol, .int (nI ct)])))  : go_Fn yX4_count cX4_count 1 (some .int) 0 0 G [.ref so] rs (some (.int (nI ct))) rs := by
  refine go_Fn_of (by decide) (Nat.le_of_ble_eq_true rfl) (fun X C E => ?_)
  show go_Go X (0, 0) rs [(0, .ref so)] [] 0
  refine go_aload_n C dX4_count_0 0 rfl rfl ?_
  refine go_get C (v := .int (nI ct)) fl_X4_24 dX4_count_1 p0 hp0 rfl ?_
  exact go_iret C E dX4_count_4 rfl rfl
set_option maxHeartbeats 4000000 in
set_option maxRecDepth 100000 in
theorem c_X4_isFull (G : go_G) (rs : va_W) (p0 : Nat) (so : Nat) (va : Nat) (pa : Nat) (ne : Nat) (ol : Nat) (ct : Nat) (hp0 : rs[p0]? = some (so, .inr (4, [.ref va, .ref pa, .ref ne, .ref ol, .int (nI ct)]))) (hc : ct ≤ 400) : go_Fn yX4_isFull cX4_isFull 1 (some .boolean) 0 0 G [.ref so] rs (some (.int (go_b (decide (400 ≤ ct))))) rs := by
  refine go_Fn_of (by decide) (Nat.le_of_ble_eq_true rfl) (fun X C E => ?_)
  show go_Go X (0, 0) rs [(0, .ref so)] [] 0
  refine go_aload_n C dX4_isFull_0 0 rfl rfl ?_
  refine go_get C (v := .int (nI ct)) fl_X4_24 dX4_isFull_1 p0 hp0 rfl ?_
  refine go_sipush C (400) dX4_isFull_4 (by decide) ?_
  refine go_icmp_ltN (a := ct) (b := 400) C 14 dX4_isFull_7 (by decide) (by omega) (by omega) (fun c_7 => ?_) (fun c_7 => ?_)
  · refine go_iconst C (0) dX4_isFull_14 (by decide) ?_
    refine go_se [.int (go_b (false))] rfl ?_
    exact go_zret C E dX4_isFull_15 (go_bn _) (by first | contradiction | rfl | (simp [decide_eq_true_eq, *]; done) | (rw [decide_eq_true (by omega)]; done) | (rw [decide_eq_false (by omega)]; done) | (simp_all [decide_eq_true_eq]; done) | (simp [decide_eq_true_eq]; omega) | (simp_all [decide_eq_true_eq]; omega) | omega) rfl
  · refine go_iconst C (1) dX4_isFull_10 (by decide) ?_
    refine go_goto C 15 dX4_isFull_11 (by decide) ?_
    refine go_se [.int (go_b (true))] rfl ?_
    exact go_zret C E dX4_isFull_15 (go_bn _) (by first | contradiction | rfl | (simp [decide_eq_true_eq, *]; done) | (rw [decide_eq_true (by omega)]; done) | (rw [decide_eq_false (by omega)]; done) | (simp_all [decide_eq_true_eq]; done) | (simp [decide_eq_true_eq]; omega) | (simp_all [decide_eq_true_eq]; omega) | omega) rfl
set_option maxHeartbeats 4000000 in
set_option maxRecDepth 100000 in
theorem c_X4_has (G : go_G) (rs : va_W) (p0 : Nat) (so : Nat) (va : Nat) (pa : Nat) (ne : Nat) (ol : Nat) (ct : Nat) (s : Int32) (hp0 : rs[p0]? = some (so, .inr (4, [.ref va, .ref pa, .ref ne, .ref ol, .int (nI ct)])))  : go_Fn yX4_has cX4_has 2 (some .boolean) 0 0 G [.ref so, .int s] rs (some (.int (go_b (pc_has ct s)))) rs := by
  refine go_Fn_of (by decide) (Nat.le_of_ble_eq_true rfl) (fun X C E => ?_)
  show go_Go X (0, 0) rs [(0, .ref so), (1, .int s)] [] 0
  refine go_iload_n C dX4_has_0 1 rfl rfl ?_
  refine go_if_lt C 16 dX4_has_1 (by decide) (fun c_1 => ?_) (fun c_1 => ?_)
  · refine go_iconst C (0) dX4_has_16 (by decide) ?_
    refine go_se [.int (go_b (false))] rfl ?_
    exact go_zret C E dX4_has_17 (go_bn _) (by first | contradiction | rfl | (simp [pc_has, *]; done) | (rw [decide_eq_true (by omega)]; done) | (rw [decide_eq_false (by omega)]; done) | (simp_all [pc_has]; done) | (simp [pc_has]; omega) | (simp_all [pc_has]; omega) | omega) rfl
  · refine go_iload_n C dX4_has_4 1 rfl rfl ?_
    refine go_aload_n C dX4_has_5 0 rfl rfl ?_
    refine go_get C (v := .int (nI ct)) fl_X4_24 dX4_has_6 p0 hp0 rfl ?_
    refine go_icmp_ge C 16 dX4_has_9 (by decide) (fun c_9 => ?_) (fun c_9 => ?_)
    · refine go_iconst C (0) dX4_has_16 (by decide) ?_
      refine go_se [.int (go_b (false))] rfl ?_
      exact go_zret C E dX4_has_17 (go_bn _) (by first | contradiction | rfl | (simp [pc_has, *]; done) | (rw [decide_eq_true (by omega)]; done) | (rw [decide_eq_false (by omega)]; done) | (simp_all [pc_has]; done) | (simp [pc_has]; omega) | (simp_all [pc_has]; omega) | omega) rfl
    · refine go_iconst C (1) dX4_has_12 (by decide) ?_
      refine go_goto C 17 dX4_has_13 (by decide) ?_
      refine go_se [.int (go_b (true))] rfl ?_
      exact go_zret C E dX4_has_17 (go_bn _) (by first | contradiction | rfl | (simp [pc_has, *]; done) | (rw [decide_eq_true (by omega)]; done) | (rw [decide_eq_false (by omega)]; done) | (simp_all [pc_has]; done) | (simp [pc_has]; omega) | (simp_all [pc_has]; omega) | omega) rfl
set_option maxHeartbeats 4000000 in
set_option maxRecDepth 100000 in
theorem c_X4_parentOf (G : go_G) (rs : va_W) (p0 : Nat) (p1 : Nat) (so : Nat) (va : Nat) (pa : Nat) (ne : Nat) (ol : Nat) (ct : Nat) (Pf : Nat → Int32) (s : Int32) (hp0 : rs[p0]? = some (so, .inr (4, [.ref va, .ref pa, .ref ne, .ref ol, .int (nI ct)]))) (hp1 : rs[p1]? = some (pa, .inl (G.2.1, 400, .inl Pf))) (hc : ct ≤ 400) : go_Fn yX4_parentOf cX4_parentOf 2 (some .int) 1 21 G [.ref so, .int s] rs (some (.int (pc_par ct Pf s))) rs := by
  refine go_Fn_of (by decide) (Nat.le_of_ble_eq_true rfl) (fun X C E => ?_)
  show go_Go X (0, 0) rs [(0, .ref so), (1, .int s)] [] 0
  refine go_aload_n C dX4_parentOf_0 0 rfl rfl ?_
  refine go_iload_n C dX4_parentOf_1 1 rfl rfl ?_
  refine go_cV C (c_X4_has G rs p0 so va pa ne ol ct s hp0 ) ml_X4_34 mc_X4_has dX4_parentOf_2 [] rfl rfl p0 hp0 rfl rfl ⟨Nat.le_of_ble_eq_true rfl, Nat.le_of_ble_eq_true rfl, Nat.zero_le _, Nat.zero_le _, Nat.le_of_ble_eq_true rfl⟩ [.int (go_b (pc_has ct s))] rfl ?_
  refine go_if_eqB C 17 dX4_parentOf_5 (by decide) (fun c_5 => ?_) (fun c_5 => ?_)
  · refine go_iconst C ((-1)) dX4_parentOf_17 (by decide) ?_
    exact go_iret C E dX4_parentOf_18 (by simp [pc_par, c_5]) rfl
  · obtain ⟨hs1, hs2⟩ := pc_has_nI (by omega) c_5
    refine go_aload_n C dX4_parentOf_8 0 rfl rfl ?_
    refine go_get C (v := .ref pa) fl_X4_15 dX4_parentOf_9 p0 hp0 rfl ?_
    refine go_iload_n C dX4_parentOf_12 1 rfl rfl ?_
    refine go_iald C dX4_parentOf_13 p1 hp1 (s.toNatClampNeg) hs1 (by omega) (by decide) ?_
    refine go_goto C 18 dX4_parentOf_14 (by decide) ?_
    exact go_iret C E dX4_parentOf_18 (by simp [pc_par, c_5]) rfl
set_option maxHeartbeats 4000000 in
set_option maxRecDepth 100000 in
theorem c_X4_copyOut (G : go_G) (rs : va_W) (p0 : Nat) (p1 : Nat) (so : Nat) (va : Nat) (pa : Nat) (ne : Nat) (ol : Nat) (ct : Nat) (Vf : Nat → Int32) (s : Nat) (x : Nat) (g : Nat → Int32) (hp0 : rs[p0]? = some (so, .inr (4, [.ref va, .ref pa, .ref ne, .ref ol, .int (nI ct)]))) (hp1 : rs[p1]? = some (va, .inl (G.2.1, 2400, .inl Vf))) (hc : ct ≤ 400) (hs : s < ct) : go_Fn yX4_copyOut cX4_copyOut 3 none 1 44 G [.ref so, .int (nI s), .ref x] ((x, .inl (G.2.1, 6, .inl g)) :: rs) (none) ((x, .inl (G.2.1, 6, .inl (pc_stt Vf s))) :: rs) := by
  refine go_Fn_of (by decide) (Nat.le_of_ble_eq_true rfl) (fun X C E => ?_)
  show go_Go X (0, 0) ((x, .inl (G.2.1, 6, .inl g)) :: rs) [(0, .ref so), (1, .int (nI s)), (2, .ref x)] [] 0
  refine go_aload_n C dX4_copyOut_0 0 rfl rfl ?_
  refine go_iload_n C dX4_copyOut_1 1 rfl rfl ?_
  refine go_cV C (c_X4_has G ((x, .inl (G.2.1, 6, .inl g)) :: rs) (p0 + 1) so va pa ne ol ct (nI s) hp0 ) ml_X4_34 mc_X4_has dX4_copyOut_2 [] rfl rfl (p0 + 1) hp0 rfl rfl ⟨Nat.le_of_ble_eq_true rfl, Nat.le_of_ble_eq_true rfl, Nat.zero_le _, Nat.zero_le _, Nat.le_of_ble_eq_true rfl⟩ [.int (go_b (true))] (by rw [pc_has_t (by omega) (by omega)]; rfl) ?_
  refine go_if_eqB C 23 dX4_copyOut_5 (by decide) (fun c_5 => ?_) (fun c_5 => ?_)
  · cases c_5
  · refine go_aload_n C dX4_copyOut_8 0 rfl rfl ?_
    refine go_get C (v := .ref va) fl_X4_9 dX4_copyOut_9 (p0 + 1) hp0 rfl ?_
    refine go_iload_n C dX4_copyOut_12 1 rfl rfl ?_
    refine go_bipush C (6) dX4_copyOut_13 (by decide) ?_
    refine go_imul C (z := nI (s * 6)) dX4_copyOut_15 (pk_mul s 6) ?_
    refine go_aload_n C dX4_copyOut_16 2 rfl rfl ?_
    refine go_iconst C (0) dX4_copyOut_17 (by decide) ?_
    refine go_bipush C (6) dX4_copyOut_18 (by decide) ?_
    refine go_copy C ml_X4_38 ml_ac dX4_copyOut_20 (p1 + 1) 0 hp1 rfl (s * 6) 0 6 rfl rfl rfl (by omega) (by omega) (by decide) (by decide) ⟨Nat.le_of_ble_eq_true rfl, Nat.le_of_ble_eq_true rfl⟩ ((x, .inl (G.2.1, 6, .inl (va_cpy Vf g (s * 6) 0 6))) :: rs) rfl ?_
    refine go_cont 0 rfl (pc_stt Vf s) (fun j hj => by rw [pk_cpy_in (by omega) (by omega)]; unfold pc_stt; congr 1; omega) ((x, .inl (G.2.1, 6, .inl (pc_stt Vf s))) :: rs) rfl ?_
    exact go_vret C E dX4_copyOut_23 rfl rfl
set_option maxHeartbeats 4000000 in
set_option maxRecDepth 100000 in
theorem l_X4_bucketOf_4 {X : go_X} (G : go_G) (rs : va_W) (p0 : Nat) (x : Nat) (s : Nat → Int32) (hp0 : rs[p0]? = some (x, .inl (G.2.1, 6, .inl s)))  {Rr : Option Value} {W1 : va_W} (fin : Int32) (C : go_Cx X cX4_bucketOf RX4 (some .int) 3 0 0 0 0 G) (E : go_Ex X Rr W1) (K : go_Go X (0, 0) rs [(0, .ref x), (1, .int fin)] [] 25) : ∀ (n : Nat) (i : Nat) (m : Int32) (hin : 6 < i + n) (hi : i ≤ 6) (hm : pc_mx s n i m = fin), go_Go X (0, 0) rs [(0, .ref x), (1, .int m), (2, .int (nI i))] [] 4 := by
  intro n
  induction n with
  | zero => intro i m hin hi hm; omega
  | succ n ih =>
    intro i m hin hi hm
    refine go_iload_n C dX4_bucketOf_4 2 rfl rfl ?_
    refine go_bipush C (6) dX4_bucketOf_5 (by decide) ?_
    refine go_icmp_geN (a := i) (b := 6) C 25 dX4_bucketOf_7 (by decide) (by omega) (by omega) (fun c_7 => ?_) (fun c_7 => ?_)
    · refine go_lv [(0, .ref x), (1, .int m)] [0, 1] rfl ?_
      refine go_le [(0, .ref x), (1, .int fin)] (by rw [← hm]; simp [pc_mx, *]) ?_
      exact K
    · refine go_iload_n C dX4_bucketOf_10 1 rfl rfl ?_
      refine go_bipush C (31) dX4_bucketOf_11 (by decide) ?_
      refine go_imul C (z := m * 31) dX4_bucketOf_13 rfl ?_
      refine go_aload_n C dX4_bucketOf_14 0 rfl rfl ?_
      refine go_iload_n C dX4_bucketOf_15 2 rfl rfl ?_
      refine go_iald C dX4_bucketOf_16 p0 hp0 (i) rfl (by omega) (by decide) ?_
      refine go_iadd C (z := (m * 31) + (s i)) dX4_bucketOf_17 rfl ?_
      refine go_istore_n C [(0, .ref x), (1, .int ((m * 31) + (s i))), (2, .int (nI i))] dX4_bucketOf_18 [1, 0, 2] rfl (by decide) rfl ?_
      refine go_iinc C (nI (i + 1)) [(0, .ref x), (1, .int ((m * 31) + (s i))), (2, .int (nI (i + 1)))] dX4_bucketOf_19 2 [1, 2, 0] rfl (nI_add i 1) (by decide) rfl ?_
      refine go_goto C 4 dX4_bucketOf_22 (by decide) ?_
      exact ih (i + 1) ((m * 31) + (s i)) (by omega) (by omega) (by rw [← hm]; first | contradiction | rfl | (simp [pc_mx, *]; done) | (rw [decide_eq_true (by omega)]; done) | (rw [decide_eq_false (by omega)]; done) | (simp_all [pc_mx]; done) | (simp [pc_mx]; omega) | (simp_all [pc_mx]; omega) | omega)
set_option maxHeartbeats 4000000 in
set_option maxRecDepth 100000 in
theorem c_X4_bucketOf (G : go_G) (rs : va_W) (p0 : Nat) (x : Nat) (s : Nat → Int32) (hp0 : rs[p0]? = some (x, .inl (G.2.1, 6, .inl s)))  : go_Fn yX4_bucketOf cX4_bucketOf 3 (some .int) 0 0 G [.ref x] rs (some (.int (nI (pc_bk s)))) rs := by
  refine go_Fn_of (by decide) (Nat.le_of_ble_eq_true rfl) (fun X C E => ?_)
  show go_Go X (0, 0) rs [(0, .ref x)] [] 0
  refine go_iconst C (0) dX4_bucketOf_0 (by decide) ?_
  refine go_istore_n C [(0, .ref x), (1, .int 0)] dX4_bucketOf_1 [1, 0] rfl (by decide) rfl ?_
  refine go_iconst C (0) dX4_bucketOf_2 (by decide) ?_
  refine go_istore_n C [(0, .ref x), (1, .int 0), (2, .int 0)] dX4_bucketOf_3 [1, 2, 0] rfl (by decide) rfl ?_
  refine l_X4_bucketOf_4 G rs p0 x s hp0  (pc_mx s 7 0 0) C E ?_ 7 0 0 (by omega) (by omega) rfl
  show go_Go X (0, 0) rs [(0, .ref x), (1, .int (pc_mx s 7 0 0))] [] 25
  refine go_iload_n C dX4_bucketOf_25 1 rfl rfl ?_
  refine go_iload_n C dX4_bucketOf_26 1 rfl rfl ?_
  refine go_bipush C (9) dX4_bucketOf_27 (by decide) ?_
  refine go_iushr C (z := go_us (pc_mx s 7 0 0) 9) dX4_bucketOf_29 rfl ?_
  refine go_ixor C (z := (pc_mx s 7 0 0) ^^^ (go_us (pc_mx s 7 0 0) 9)) dX4_bucketOf_30 rfl ?_
  refine go_iload_n C dX4_bucketOf_31 1 rfl rfl ?_
  refine go_bipush C (18) dX4_bucketOf_32 (by decide) ?_
  refine go_iushr C (z := go_us (pc_mx s 7 0 0) 18) dX4_bucketOf_34 rfl ?_
  refine go_ixor C (z := ((pc_mx s 7 0 0) ^^^ (go_us (pc_mx s 7 0 0) 9)) ^^^ (go_us (pc_mx s 7 0 0) 18)) dX4_bucketOf_35 rfl ?_
  refine go_sipush C (511) dX4_bucketOf_36 (by decide) ?_
  refine go_iand C (z := nI (pc_bk s)) dX4_bucketOf_39 (pk_and _ 9 (by decide)) ?_
  exact go_iret C E dX4_bucketOf_40 rfl rfl
set_option maxHeartbeats 4000000 in
set_option maxRecDepth 100000 in
theorem l_X4_isState_2 {X : go_X} (G : go_G) (rs : va_W) (p0 : Nat) (p1 : Nat) (p2 : Nat) (so : Nat) (va : Nat) (pa : Nat) (ne : Nat) (ol : Nat) (ct : Nat) (Vf : Nat → Int32) (s : Nat) (x : Nat) (t : Nat → Int32) (hp0 : rs[p0]? = some (so, .inr (4, [.ref va, .ref pa, .ref ne, .ref ol, .int (nI ct)]))) (hp1 : rs[p1]? = some (va, .inl (G.2.1, 2400, .inl Vf))) (hp2 : rs[p2]? = some (x, .inl (G.2.1, 6, .inl t))) (hs : s < 400) {Rr : Option Value}  (C : go_Cx X cX4_isState RX4 (some .boolean) 4 0 0 0 0 G) (E : go_Ex X Rr rs)  : ∀ (n : Nat) (i : Nat) (hin : 6 < i + n) (hi : i ≤ 6) (hR : some (.int (go_b (pc_e6 Vf s t n i))) = Rr), go_Go X (0, 0) rs [(0, .ref so), (1, .int (nI s)), (2, .ref x), (3, .int (nI i))] [] 2 := by
  intro n
  induction n with
  | zero => intro i hin hi hR; omega
  | succ n ih =>
    intro i hin hi hR
    refine go_iload_n C dX4_isState_2 3 rfl rfl ?_
    refine go_bipush C (6) dX4_isState_3 (by decide) ?_
    refine go_icmp_geN (a := i) (b := 6) C 33 dX4_isState_5 (by decide) (by omega) (by omega) (fun c_5 => ?_) (fun c_5 => ?_)
    · refine go_iconst C (1) dX4_isState_33 (by decide) ?_
      refine go_se [.int (go_b (true))] rfl ?_
      exact go_zret C E dX4_isState_34 (go_bn _) (by rw [← hR]; first | contradiction | rfl | (simp [pc_e6, *]; done) | (rw [decide_eq_true (by omega)]; done) | (rw [decide_eq_false (by omega)]; done) | (simp_all [pc_e6]; done) | (simp [pc_e6]; omega) | (simp_all [pc_e6]; omega) | omega) rfl
    · refine go_aload_n C dX4_isState_8 0 rfl rfl ?_
      refine go_get C (v := .ref va) fl_X4_9 dX4_isState_9 p0 hp0 rfl ?_
      refine go_iload_n C dX4_isState_12 1 rfl rfl ?_
      refine go_bipush C (6) dX4_isState_13 (by decide) ?_
      refine go_imul C (z := nI (s * 6)) dX4_isState_15 (pk_mul s 6) ?_
      refine go_iload_n C dX4_isState_16 3 rfl rfl ?_
      refine go_iadd C (z := nI ((s * 6) + i)) dX4_isState_17 (nI_add (s * 6) i) ?_
      refine go_iald C dX4_isState_18 p1 hp1 ((s * 6) + i) rfl (by omega) (by decide) ?_
      refine go_aload_n C dX4_isState_19 2 rfl rfl ?_
      refine go_iload_n C dX4_isState_20 3 rfl rfl ?_
      refine go_iald C dX4_isState_21 p2 hp2 (i) rfl (by omega) (by decide) ?_
      refine go_icmp_eq C 27 dX4_isState_22 (by decide) (fun c_22 => ?_) (fun c_22 => ?_)
      · refine go_iinc C (nI (i + 1)) [(0, .ref so), (1, .int (nI s)), (2, .ref x), (3, .int (nI (i + 1)))] dX4_isState_27 3 [1, 2, 3, 0] rfl (nI_add i 1) (by decide) rfl ?_
        refine go_goto C 2 dX4_isState_30 (by decide) ?_
        exact ih (i + 1) (by omega) (by omega) (by rw [← hR]; first | contradiction | rfl | (simp [pc_e6, *]; done) | (rw [decide_eq_true (by omega)]; done) | (rw [decide_eq_false (by omega)]; done) | (simp_all [pc_e6]; done) | (simp [pc_e6]; omega) | (simp_all [pc_e6]; omega) | omega)
      · refine go_iconst C (0) dX4_isState_25 (by decide) ?_
        refine go_se [.int (go_b (false))] rfl ?_
        exact go_zret C E dX4_isState_26 (go_bn _) (by rw [← hR]; first | contradiction | rfl | (simp [pc_e6, *]; done) | (rw [decide_eq_true (by omega)]; done) | (rw [decide_eq_false (by omega)]; done) | (simp_all [pc_e6]; done) | (simp [pc_e6]; omega) | (simp_all [pc_e6]; omega) | omega) rfl
set_option maxHeartbeats 4000000 in
set_option maxRecDepth 100000 in
theorem c_X4_isState (G : go_G) (rs : va_W) (p0 : Nat) (p1 : Nat) (p2 : Nat) (so : Nat) (va : Nat) (pa : Nat) (ne : Nat) (ol : Nat) (ct : Nat) (Vf : Nat → Int32) (s : Nat) (x : Nat) (t : Nat → Int32) (hp0 : rs[p0]? = some (so, .inr (4, [.ref va, .ref pa, .ref ne, .ref ol, .int (nI ct)]))) (hp1 : rs[p1]? = some (va, .inl (G.2.1, 2400, .inl Vf))) (hp2 : rs[p2]? = some (x, .inl (G.2.1, 6, .inl t))) (hs : s < 400) : go_Fn yX4_isState cX4_isState 4 (some .boolean) 0 0 G [.ref so, .int (nI s), .ref x] rs (some (.int (go_b (pc_e6 Vf s t 7 0)))) rs := by
  refine go_Fn_of (by decide) (Nat.le_of_ble_eq_true rfl) (fun X C E => ?_)
  show go_Go X (0, 0) rs [(0, .ref so), (1, .int (nI s)), (2, .ref x)] [] 0
  refine go_iconst C (0) dX4_isState_0 (by decide) ?_
  refine go_istore_n C [(0, .ref so), (1, .int (nI s)), (2, .ref x), (3, .int 0)] dX4_isState_1 [1, 2, 3, 0] rfl (by decide) rfl ?_
  exact l_X4_isState_2 G rs p0 p1 p2 so va pa ne ol ct Vf s x t hp0 hp1 hp2 hs  C E 7 0 (by omega) (by omega) rfl
set_option maxHeartbeats 4000000 in
set_option maxRecDepth 100000 in
theorem c_X4_add (G : go_G) (rs : va_W) (p0 : Nat) (so : Nat) (va : Nat) (pa : Nat) (ne : Nat) (ol : Nat) (ct : Nat) (Vf : Nat → Int32) (Pf : Nat → Int32) (Nf : Nat → Int32) (Of : Nat → Int32) (x : Nat) (t : Nat → Int32) (q : Int32) (hp0 : rs[p0]? = some (x, .inl (G.2.1, 6, .inl t))) (hc : ct < 400) : go_Fn yX4_add cX4_add 4 none 1 44 G [.ref so, .ref x, .int q] ((so, .inr (4, [.ref va, .ref pa, .ref ne, .ref ol, .int (nI ct)])) :: (va, .inl (G.2.1, 2400, .inl Vf)) :: (pa, .inl (G.2.1, 400, .inl Pf)) :: (ne, .inl (G.2.1, 512, .inl Nf)) :: (ol, .inl (G.2.1, 400, .inl Of)) :: rs) (none) ((so, .inr (4, [.ref va, .ref pa, .ref ne, .ref ol, .int (nI (ct + 1))])) :: (va, .inl (G.2.1, 2400, .inl (pc_wr Vf ct t))) :: (pa, .inl (G.2.1, 400, .inl (upd Pf ct q))) :: (ne, .inl (G.2.1, 512, .inl (upd Nf (pc_bk t) (nI ct)))) :: (ol, .inl (G.2.1, 400, .inl (upd Of ct (Nf (pc_bk t))))) :: rs) := by
  refine go_Fn_of (by decide) (Nat.le_of_ble_eq_true rfl) (fun X C E => ?_)
  show go_Go X (0, 0) ((so, .inr (4, [.ref va, .ref pa, .ref ne, .ref ol, .int (nI ct)])) :: (va, .inl (G.2.1, 2400, .inl Vf)) :: (pa, .inl (G.2.1, 400, .inl Pf)) :: (ne, .inl (G.2.1, 512, .inl Nf)) :: (ol, .inl (G.2.1, 400, .inl Of)) :: rs) [(0, .ref so), (1, .ref x), (2, .int q)] [] 0
  have hbk := pc_bk_lt t
  refine go_aload_n C dX4_add_0 0 rfl rfl ?_
  refine go_get C (v := .int (nI ct)) fl_X4_24 dX4_add_1 0 rfl rfl ?_
  refine go_sipush C (400) dX4_add_4 (by decide) ?_
  refine go_icmp_ltN (a := ct) (b := 400) C 11 dX4_add_7 (by decide) (by omega) (by omega) (fun c_7 => ?_) (fun c_7 => ?_)
  · refine go_aload_n C dX4_add_11 1 rfl rfl ?_
    refine go_cS C (c_X4_bucketOf G ((so, .inr (4, [.ref va, .ref pa, .ref ne, .ref ol, .int (nI ct)])) :: (va, .inl (G.2.1, 2400, .inl Vf)) :: (pa, .inl (G.2.1, 400, .inl Pf)) :: (ne, .inl (G.2.1, 512, .inl Nf)) :: (ol, .inl (G.2.1, 400, .inl Of)) :: rs) (p0 + 5) x t hp0 ) ml_X4_44 mc_X4_bucketOf dX4_add_12 [] rfl rfl rfl ⟨Nat.le_of_ble_eq_true rfl, Nat.le_of_ble_eq_true rfl, Nat.zero_le _, Nat.zero_le _, Nat.le_of_ble_eq_true rfl⟩ [.int (nI (pc_bk t))] rfl ?_
    refine go_istore_n C [(0, .ref so), (1, .ref x), (2, .int q), (3, .int (nI (pc_bk t)))] dX4_add_15 [1, 2, 3, 0] rfl (by decide) rfl ?_
    refine go_aload_n C dX4_add_16 1 rfl rfl ?_
    refine go_iconst C (0) dX4_add_17 (by decide) ?_
    refine go_aload_n C dX4_add_18 0 rfl rfl ?_
    refine go_get C (v := .ref va) fl_X4_9 dX4_add_19 0 rfl rfl ?_
    refine go_aload_n C dX4_add_22 0 rfl rfl ?_
    refine go_get C (v := .int (nI ct)) fl_X4_24 dX4_add_23 0 rfl rfl ?_
    refine go_bipush C (6) dX4_add_26 (by decide) ?_
    refine go_imul C (z := nI (ct * 6)) dX4_add_28 (pk_mul ct 6) ?_
    refine go_bipush C (6) dX4_add_29 (by decide) ?_
    refine go_copy C ml_X4_38 ml_ac dX4_add_31 (p0 + 5) 1 hp0 rfl 0 (ct * 6) 6 rfl rfl rfl (by omega) (by omega) (by decide) (by decide) ⟨Nat.le_of_ble_eq_true rfl, Nat.le_of_ble_eq_true rfl⟩ ((so, .inr (4, [.ref va, .ref pa, .ref ne, .ref ol, .int (nI ct)])) :: (va, .inl (G.2.1, 2400, .inl (va_cpy t Vf 0 (ct * 6) 6))) :: (pa, .inl (G.2.1, 400, .inl Pf)) :: (ne, .inl (G.2.1, 512, .inl Nf)) :: (ol, .inl (G.2.1, 400, .inl Of)) :: rs) rfl ?_
    refine go_we ((so, .inr (4, [.ref va, .ref pa, .ref ne, .ref ol, .int (nI ct)])) :: (va, .inl (G.2.1, 2400, .inl (pc_wr Vf ct t))) :: (pa, .inl (G.2.1, 400, .inl Pf)) :: (ne, .inl (G.2.1, 512, .inl Nf)) :: (ol, .inl (G.2.1, 400, .inl Of)) :: rs) (by rw [pc_wr_eq _ ct _ _ (by omega)]) ?_
    refine go_aload_n C dX4_add_34 0 rfl rfl ?_
    refine go_get C (v := .ref pa) fl_X4_15 dX4_add_35 0 rfl rfl ?_
    refine go_aload_n C dX4_add_38 0 rfl rfl ?_
    refine go_get C (v := .int (nI ct)) fl_X4_24 dX4_add_39 0 rfl rfl ?_
    refine go_iload_n C dX4_add_42 2 rfl rfl ?_
    refine go_iast C dX4_add_43 2 rfl (ct) rfl (by omega) (by decide) ((so, .inr (4, [.ref va, .ref pa, .ref ne, .ref ol, .int (nI ct)])) :: (va, .inl (G.2.1, 2400, .inl (pc_wr Vf ct t))) :: (pa, .inl (G.2.1, 400, .inl (upd Pf ct q))) :: (ne, .inl (G.2.1, 512, .inl Nf)) :: (ol, .inl (G.2.1, 400, .inl Of)) :: rs) rfl ?_
    refine go_aload_n C dX4_add_44 0 rfl rfl ?_
    refine go_get C (v := .ref ol) fl_X4_21 dX4_add_45 0 rfl rfl ?_
    refine go_aload_n C dX4_add_48 0 rfl rfl ?_
    refine go_get C (v := .int (nI ct)) fl_X4_24 dX4_add_49 0 rfl rfl ?_
    refine go_aload_n C dX4_add_52 0 rfl rfl ?_
    refine go_get C (v := .ref ne) fl_X4_18 dX4_add_53 0 rfl rfl ?_
    refine go_iload_n C dX4_add_56 3 rfl rfl ?_
    refine go_iald C dX4_add_57 3 rfl (pc_bk t) rfl (by omega) (by decide) ?_
    refine go_iast C dX4_add_58 4 rfl (ct) rfl (by omega) (by decide) ((so, .inr (4, [.ref va, .ref pa, .ref ne, .ref ol, .int (nI ct)])) :: (va, .inl (G.2.1, 2400, .inl (pc_wr Vf ct t))) :: (pa, .inl (G.2.1, 400, .inl (upd Pf ct q))) :: (ne, .inl (G.2.1, 512, .inl Nf)) :: (ol, .inl (G.2.1, 400, .inl (upd Of ct (Nf (pc_bk t))))) :: rs) rfl ?_
    refine go_aload_n C dX4_add_59 0 rfl rfl ?_
    refine go_get C (v := .ref ne) fl_X4_18 dX4_add_60 0 rfl rfl ?_
    refine go_iload_n C dX4_add_63 3 rfl rfl ?_
    refine go_aload_n C dX4_add_64 0 rfl rfl ?_
    refine go_get C (v := .int (nI ct)) fl_X4_24 dX4_add_65 0 rfl rfl ?_
    refine go_iast C dX4_add_68 3 rfl (pc_bk t) rfl (by omega) (by decide) ((so, .inr (4, [.ref va, .ref pa, .ref ne, .ref ol, .int (nI ct)])) :: (va, .inl (G.2.1, 2400, .inl (pc_wr Vf ct t))) :: (pa, .inl (G.2.1, 400, .inl (upd Pf ct q))) :: (ne, .inl (G.2.1, 512, .inl (upd Nf (pc_bk t) (nI ct)))) :: (ol, .inl (G.2.1, 400, .inl (upd Of ct (Nf (pc_bk t))))) :: rs) rfl ?_
    refine go_aload_n C dX4_add_69 0 rfl rfl ?_
    refine go_dup C dX4_add_70 rfl ?_
    refine go_get C (v := .int (nI ct)) fl_X4_24 dX4_add_71 0 rfl rfl ?_
    refine go_iconst C (1) dX4_add_74 (by decide) ?_
    refine go_iadd C (z := nI (ct + 1)) dX4_add_75 (nI_add ct 1) ?_
    refine go_put C fp_X4_24 dX4_add_76 0 rfl rfl rfl (Nat.le_of_ble_eq_true rfl) ((so, .inr (4, [.ref va, .ref pa, .ref ne, .ref ol, .int (nI (ct + 1))])) :: (va, .inl (G.2.1, 2400, .inl (pc_wr Vf ct t))) :: (pa, .inl (G.2.1, 400, .inl (upd Pf ct q))) :: (ne, .inl (G.2.1, 512, .inl (upd Nf (pc_bk t) (nI ct)))) :: (ol, .inl (G.2.1, 400, .inl (upd Of ct (Nf (pc_bk t))))) :: rs) rfl ?_
    exact go_vret C E dX4_add_79 rfl rfl
  · omega
set_option maxHeartbeats 4000000 in
set_option maxRecDepth 100000 in
theorem l_X4_find_12 {X : go_X} (G : go_G) (rs : va_W) (p0 : Nat) (p1 : Nat) (p2 : Nat) (p3 : Nat) (p4 : Nat) (so : Nat) (va : Nat) (pa : Nat) (ne : Nat) (ol : Nat) (ct : Nat) (Vf : Nat → Int32) (Nf : Nat → Int32) (Of : Nat → Int32) (x : Nat) (t : Nat → Int32) (hp0 : rs[p0]? = some (so, .inr (4, [.ref va, .ref pa, .ref ne, .ref ol, .int (nI ct)]))) (hp1 : rs[p1]? = some (va, .inl (G.2.1, 2400, .inl Vf))) (hp2 : rs[p2]? = some (ne, .inl (G.2.1, 512, .inl Nf))) (hp3 : rs[p3]? = some (ol, .inl (G.2.1, 400, .inl Of))) (hp4 : rs[p4]? = some (x, .inl (G.2.1, 6, .inl t))) (hc : ct ≤ 400) {Rr : Option Value}  (C : go_Cx X cX4_find RX4 (some .int) 4 1 23 0 0 G) (E : go_Ex X Rr rs)  : ∀ (n : Nat) (i : Nat) (s : Int32) (hin : 400 < i + n) (hi : i ≤ 400) (hR : some (.int (pc_fd ct Vf Of t n i s)) = Rr), go_Go X (0, 0) rs [(0, .ref so), (1, .ref x), (2, .int s), (3, .int (nI i))] [] 12 := by
  intro n
  induction n with
  | zero => intro i s hin hi hR; omega
  | succ n ih =>
    intro i s hin hi hR
    refine go_iload_n C dX4_find_12 3 rfl rfl ?_
    refine go_sipush C (400) dX4_find_13 (by decide) ?_
    refine go_icmp_geN (a := i) (b := 400) C 51 dX4_find_16 (by decide) (by omega) (by omega) (fun c_16 => ?_) (fun c_16 => ?_)
    · refine go_iconst C ((-1)) dX4_find_51 (by decide) ?_
      exact go_iret C E dX4_find_52 (by rw [← hR]; first | (simp [pc_fd, c_16, c_24, c_33]; done) | (simp [pc_fd, c_16, c_24]; done) | (simp [pc_fd, c_16]; done)) rfl
    · refine go_aload_n C dX4_find_19 0 rfl rfl ?_
      refine go_iload_n C dX4_find_20 2 rfl rfl ?_
      refine go_cV C (c_X4_has G rs p0 so va pa ne ol ct s hp0 ) ml_X4_34 mc_X4_has dX4_find_21 [] rfl rfl p0 hp0 rfl rfl ⟨Nat.le_of_ble_eq_true rfl, Nat.le_of_ble_eq_true rfl, Nat.zero_le _, Nat.zero_le _, Nat.le_of_ble_eq_true rfl⟩ [.int (go_b (pc_has ct s))] rfl ?_
      refine go_if_eqB C 51 dX4_find_24 (by decide) (fun c_24 => ?_) (fun c_24 => ?_)
      · refine go_iconst C ((-1)) dX4_find_51 (by decide) ?_
        exact go_iret C E dX4_find_52 (by rw [← hR]; first | (simp [pc_fd, c_16, c_24, c_33]; done) | (simp [pc_fd, c_16, c_24]; done) | (simp [pc_fd, c_16]; done)) rfl
      · obtain ⟨hs1, hs2⟩ := pc_has_nI (by omega) c_24
        refine go_aload_n C dX4_find_27 0 rfl rfl ?_
        refine go_iload_n C dX4_find_28 2 rfl rfl ?_
        refine go_se [.int (nI (s.toNatClampNeg)), .ref so] (by rw [← hs1]) ?_
        refine go_aload_n C dX4_find_29 1 rfl rfl ?_
        refine go_cV C (c_X4_isState G rs p0 p1 p4 so va pa ne ol ct Vf s.toNatClampNeg x t hp0 hp1 hp4 (by omega)) ml_X4_48 mc_X4_isState dX4_find_30 [] rfl rfl p0 hp0 rfl rfl ⟨Nat.le_of_ble_eq_true rfl, Nat.le_of_ble_eq_true rfl, Nat.zero_le _, Nat.zero_le _, Nat.le_of_ble_eq_true rfl⟩ [.int (go_b (pc_e6 Vf s.toNatClampNeg t 7 0))] rfl ?_
        refine go_if_eqB C 38 dX4_find_33 (by decide) (fun c_33 => ?_) (fun c_33 => ?_)
        · refine go_aload_n C dX4_find_38 0 rfl rfl ?_
          refine go_get C (v := .ref ol) fl_X4_21 dX4_find_39 p0 hp0 rfl ?_
          refine go_iload_n C dX4_find_42 2 rfl rfl ?_
          refine go_iald C dX4_find_43 p3 hp3 (s.toNatClampNeg) hs1 (by omega) (by decide) ?_
          refine go_istore_n C [(0, .ref so), (1, .ref x), (2, .int (Of s.toNatClampNeg)), (3, .int (nI i))] dX4_find_44 [1, 2, 0, 3] rfl (by decide) rfl ?_
          refine go_iinc C (nI (i + 1)) [(0, .ref so), (1, .ref x), (2, .int (Of s.toNatClampNeg)), (3, .int (nI (i + 1)))] dX4_find_45 3 [1, 2, 3, 0] rfl (nI_add i 1) (by decide) rfl ?_
          refine go_goto C 12 dX4_find_48 (by decide) ?_
          exact ih (i + 1) (Of s.toNatClampNeg) (by omega) (by omega) (by rw [← hR]; simp [pc_fd, c_16, c_24, c_33])
        · refine go_iload_n C dX4_find_36 2 rfl rfl ?_
          exact go_iret C E dX4_find_37 (by rw [← hR]; first | (simp [pc_fd, c_16, c_24, c_33]; done) | (simp [pc_fd, c_16, c_24]; done) | (simp [pc_fd, c_16]; done)) rfl
set_option maxHeartbeats 4000000 in
set_option maxRecDepth 100000 in
theorem c_X4_find (G : go_G) (rs : va_W) (p0 : Nat) (p1 : Nat) (p2 : Nat) (p3 : Nat) (p4 : Nat) (so : Nat) (va : Nat) (pa : Nat) (ne : Nat) (ol : Nat) (ct : Nat) (Vf : Nat → Int32) (Nf : Nat → Int32) (Of : Nat → Int32) (x : Nat) (t : Nat → Int32) (hp0 : rs[p0]? = some (so, .inr (4, [.ref va, .ref pa, .ref ne, .ref ol, .int (nI ct)]))) (hp1 : rs[p1]? = some (va, .inl (G.2.1, 2400, .inl Vf))) (hp2 : rs[p2]? = some (ne, .inl (G.2.1, 512, .inl Nf))) (hp3 : rs[p3]? = some (ol, .inl (G.2.1, 400, .inl Of))) (hp4 : rs[p4]? = some (x, .inl (G.2.1, 6, .inl t))) (hc : ct ≤ 400) : go_Fn yX4_find cX4_find 4 (some .int) 1 23 G [.ref so, .ref x] rs (some (.int (pc_fd ct Vf Of t 401 0 (Nf (pc_bk t))))) rs := by
  refine go_Fn_of (by decide) (Nat.le_of_ble_eq_true rfl) (fun X C E => ?_)
  show go_Go X (0, 0) rs [(0, .ref so), (1, .ref x)] [] 0
  have hbk := pc_bk_lt t
  refine go_aload_n C dX4_find_0 0 rfl rfl ?_
  refine go_get C (v := .ref ne) fl_X4_18 dX4_find_1 p0 hp0 rfl ?_
  refine go_aload_n C dX4_find_4 1 rfl rfl ?_
  refine go_cS C (c_X4_bucketOf G rs p4 x t hp4 ) ml_X4_44 mc_X4_bucketOf dX4_find_5 [.ref ne] rfl rfl rfl ⟨Nat.le_of_ble_eq_true rfl, Nat.le_of_ble_eq_true rfl, Nat.zero_le _, Nat.zero_le _, Nat.le_of_ble_eq_true rfl⟩ [.int (nI (pc_bk t)), .ref ne] rfl ?_
  refine go_iald C dX4_find_8 p2 hp2 (pc_bk t) rfl (by omega) (by decide) ?_
  refine go_istore_n C [(0, .ref so), (1, .ref x), (2, .int (Nf (pc_bk t)))] dX4_find_9 [1, 2, 0] rfl (by decide) rfl ?_
  refine go_iconst C (0) dX4_find_10 (by decide) ?_
  refine go_istore_n C [(0, .ref so), (1, .ref x), (2, .int (Nf (pc_bk t))), (3, .int 0)] dX4_find_11 [1, 2, 3, 0] rfl (by decide) rfl ?_
  exact l_X4_find_12 G rs p0 p1 p2 p3 p4 so va pa ne ol ct Vf Nf Of x t hp0 hp1 hp2 hp3 hp4 hc  C E 401 0 (Nf (pc_bk t)) (by omega) (by omega) rfl
set_option maxHeartbeats 4000000 in
set_option maxRecDepth 100000 in
theorem c_X5_clear (G : go_G) (rs : va_W)  (tr : Nat) (wy : Nat) (fd : Nat) (tv : Nat) (sp : Nat)   : go_Fn yX5_clear cX5_clear 1 none 0 0 G [.ref tr] ((tr, .inr (5, [.ref wy, .ref fd, .ref tv, .int (nI sp)])) :: rs) (none) ((tr, .inr (5, [.ref wy, .ref fd, .ref tv, .int (nI 0)])) :: rs) := by
  refine go_Fn_of (by decide) (Nat.le_of_ble_eq_true rfl) (fun X C E => ?_)
  show go_Go X (0, 0) ((tr, .inr (5, [.ref wy, .ref fd, .ref tv, .int (nI sp)])) :: rs) [(0, .ref tr)] [] 0
  refine go_aload_n C dX5_clear_0 0 rfl rfl ?_
  refine go_iconst C (0) dX5_clear_1 (by decide) ?_
  refine go_put C fp_X5_21 dX5_clear_2 0 rfl rfl rfl (Nat.le_of_ble_eq_true rfl) ((tr, .inr (5, [.ref wy, .ref fd, .ref tv, .int 0])) :: rs) rfl ?_
  exact go_vret C E dX5_clear_5 rfl rfl
set_option maxHeartbeats 4000000 in
set_option maxRecDepth 100000 in
theorem c_X5_steps (G : go_G) (rs : va_W) (p0 : Nat) (tr : Nat) (wy : Nat) (fd : Nat) (tv : Nat) (sp : Nat) (hp0 : rs[p0]? = some (tr, .inr (5, [.ref wy, .ref fd, .ref tv, .int (nI sp)])))  : go_Fn yX5_steps cX5_steps 1 (some .int) 0 0 G [.ref tr] rs (some (.int (nI sp))) rs := by
  refine go_Fn_of (by decide) (Nat.le_of_ble_eq_true rfl) (fun X C E => ?_)
  show go_Go X (0, 0) rs [(0, .ref tr)] [] 0
  refine go_aload_n C dX5_steps_0 0 rfl rfl ?_
  refine go_get C (v := .int (nI sp)) fl_X5_21 dX5_steps_1 p0 hp0 rfl ?_
  exact go_iret C E dX5_steps_4 rfl rfl
set_option maxHeartbeats 4000000 in
set_option maxRecDepth 100000 in
theorem c_X5_hasState (G : go_G) (rs : va_W) (p0 : Nat) (tr : Nat) (wy : Nat) (fd : Nat) (tv : Nat) (sp : Nat) (i : Int32) (hp0 : rs[p0]? = some (tr, .inr (5, [.ref wy, .ref fd, .ref tv, .int (nI sp)])))  : go_Fn yX5_hasState cX5_hasState 2 (some .boolean) 0 0 G [.ref tr, .int i] rs (some (.int (go_b (pc_hst sp i)))) rs := by
  refine go_Fn_of (by decide) (Nat.le_of_ble_eq_true rfl) (fun X C E => ?_)
  show go_Go X (0, 0) rs [(0, .ref tr), (1, .int i)] [] 0
  refine go_iload_n C dX5_hasState_0 1 rfl rfl ?_
  refine go_if_lt C 23 dX5_hasState_1 (by decide) (fun c_1 => ?_) (fun c_1 => ?_)
  · refine go_iconst C (0) dX5_hasState_23 (by decide) ?_
    refine go_se [.int (go_b (false))] rfl ?_
    exact go_zret C E dX5_hasState_24 (go_bn _) (by first | contradiction | rfl | (simp [pc_hst, *]; done) | (rw [decide_eq_true (by omega)]; done) | (rw [decide_eq_false (by omega)]; done) | (simp_all [pc_hst]; done) | (simp [pc_hst]; omega) | (simp_all [pc_hst]; omega) | omega) rfl
  · refine go_iload_n C dX5_hasState_4 1 rfl rfl ?_
    refine go_aload_n C dX5_hasState_5 0 rfl rfl ?_
    refine go_get C (v := .int (nI sp)) fl_X5_21 dX5_hasState_6 p0 hp0 rfl ?_
    refine go_icmp_gt C 23 dX5_hasState_9 (by decide) (fun c_9 => ?_) (fun c_9 => ?_)
    · refine go_iconst C (0) dX5_hasState_23 (by decide) ?_
      refine go_se [.int (go_b (false))] rfl ?_
      exact go_zret C E dX5_hasState_24 (go_bn _) (by first | contradiction | rfl | (simp [pc_hst, *]; done) | (rw [decide_eq_true (by omega)]; done) | (rw [decide_eq_false (by omega)]; done) | (simp_all [pc_hst]; done) | (simp [pc_hst]; omega) | (simp_all [pc_hst]; omega) | omega) rfl
    · refine go_iload_n C dX5_hasState_12 1 rfl rfl ?_
      refine go_sipush C (400) dX5_hasState_13 (by decide) ?_
      refine go_icmp_ge C 23 dX5_hasState_16 (by decide) (fun c_16 => ?_) (fun c_16 => ?_)
      · refine go_iconst C (0) dX5_hasState_23 (by decide) ?_
        refine go_se [.int (go_b (false))] rfl ?_
        exact go_zret C E dX5_hasState_24 (go_bn _) (by first | contradiction | rfl | (simp [pc_hst, *]; done) | (rw [decide_eq_true (by omega)]; done) | (rw [decide_eq_false (by omega)]; done) | (simp_all [pc_hst]; done) | (simp [pc_hst]; omega) | (simp_all [pc_hst]; omega) | omega) rfl
      · refine go_iconst C (1) dX5_hasState_19 (by decide) ?_
        refine go_goto C 24 dX5_hasState_20 (by decide) ?_
        refine go_se [.int (go_b (true))] rfl ?_
        exact go_zret C E dX5_hasState_24 (go_bn _) (by first | contradiction | rfl | (simp [pc_hst, *]; done) | (rw [decide_eq_true (by omega)]; done) | (rw [decide_eq_false (by omega)]; done) | (simp_all [pc_hst]; done) | (simp [pc_hst]; omega) | (simp_all [pc_hst]; omega) | omega) rfl
set_option maxHeartbeats 4000000 in
set_option maxRecDepth 100000 in
theorem l_X5_stepsTo_4 {X : go_X} (G : go_G) (rs : va_W) (p0 : Nat) (p1 : Nat) (so : Nat) (va : Nat) (pa : Nat) (ne : Nat) (ol : Nat) (ct : Nat) (Pf : Nat → Int32) (s : Int32) (hp0 : rs[p0]? = some (so, .inr (4, [.ref va, .ref pa, .ref ne, .ref ol, .int (nI ct)]))) (hp1 : rs[p1]? = some (pa, .inl (G.2.1, 400, .inl Pf))) (hc : ct ≤ 400) {Rr : Option Value}  (C : go_Cx X cX5_stepsTo RX5 (some .int) 4 2 42 0 0 G) (E : go_Ex X Rr rs)  : ∀ (n : Nat) (k : Nat) (z : Int32) (hin : 399 < k + n) (hk : k ≤ 399) (hR : some (.int (nI (pc_sp ct Pf n k z))) = Rr), go_Go X (0, 0) rs [(0, .int s), (1, .ref so), (2, .int z), (3, .int (nI k))] [] 4 := by
  intro n
  induction n with
  | zero => intro k z hin hk hR; omega
  | succ n ih =>
    intro k z hin hk hR
    refine go_iload_n C dX5_stepsTo_4 3 rfl rfl ?_
    refine go_sipush C (399) dX5_stepsTo_5 (by decide) ?_
    refine go_icmp_geN (a := k) (b := 399) C 32 dX5_stepsTo_8 (by decide) (by omega) (by omega) (fun c_8 => ?_) (fun c_8 => ?_)
    · refine go_iload_n C dX5_stepsTo_32 3 rfl rfl ?_
      exact go_iret C E dX5_stepsTo_33 (by rw [← hR]; first | contradiction | rfl | (simp [pc_sp, *]; done) | (rw [decide_eq_true (by omega)]; done) | (rw [decide_eq_false (by omega)]; done) | (simp_all [pc_sp]; done) | (simp [pc_sp]; omega) | (simp_all [pc_sp]; omega) | omega) rfl
    · refine go_aload_n C dX5_stepsTo_11 1 rfl rfl ?_
      refine go_iload_n C dX5_stepsTo_12 2 rfl rfl ?_
      refine go_cV C (c_X4_parentOf G rs p0 p1 so va pa ne ol ct Pf z hp0 hp1 (by omega)) ml_X5_35 mc_X4_parentOf dX5_stepsTo_13 [] rfl rfl p0 hp0 rfl rfl ⟨Nat.le_of_ble_eq_true rfl, Nat.le_of_ble_eq_true rfl, Nat.zero_le _, Nat.zero_le _, Nat.le_of_ble_eq_true rfl⟩ [.int (pc_par ct Pf z)] rfl ?_
      refine go_iconst C ((-1)) dX5_stepsTo_16 (by decide) ?_
      refine go_icmp_eq C 32 dX5_stepsTo_17 (by decide) (fun c_17 => ?_) (fun c_17 => ?_)
      · refine go_iload_n C dX5_stepsTo_32 3 rfl rfl ?_
        exact go_iret C E dX5_stepsTo_33 (by rw [← hR]; first | contradiction | rfl | (simp [pc_sp, *]; done) | (rw [decide_eq_true (by omega)]; done) | (rw [decide_eq_false (by omega)]; done) | (simp_all [pc_sp]; done) | (simp [pc_sp]; omega) | (simp_all [pc_sp]; omega) | omega) rfl
      · refine go_aload_n C dX5_stepsTo_20 1 rfl rfl ?_
        refine go_iload_n C dX5_stepsTo_21 2 rfl rfl ?_
        refine go_cV C (c_X4_parentOf G rs p0 p1 so va pa ne ol ct Pf z hp0 hp1 (by omega)) ml_X5_35 mc_X4_parentOf dX5_stepsTo_22 [] rfl rfl p0 hp0 rfl rfl ⟨Nat.le_of_ble_eq_true rfl, Nat.le_of_ble_eq_true rfl, Nat.zero_le _, Nat.zero_le _, Nat.le_of_ble_eq_true rfl⟩ [.int (pc_par ct Pf z)] rfl ?_
        refine go_istore_n C [(0, .int s), (1, .ref so), (2, .int (pc_par ct Pf z)), (3, .int (nI k))] dX5_stepsTo_25 [1, 2, 0, 3] rfl (by decide) rfl ?_
        refine go_iinc C (nI (k + 1)) [(0, .int s), (1, .ref so), (2, .int (pc_par ct Pf z)), (3, .int (nI (k + 1)))] dX5_stepsTo_26 3 [1, 2, 3, 0] rfl (nI_add k 1) (by decide) rfl ?_
        refine go_goto C 4 dX5_stepsTo_29 (by decide) ?_
        exact ih (k + 1) (pc_par ct Pf z) (by omega) (by omega) (by rw [← hR]; first | contradiction | rfl | (simp [pc_sp, *]; done) | (rw [decide_eq_true (by omega)]; done) | (rw [decide_eq_false (by omega)]; done) | (simp_all [pc_sp]; done) | (simp [pc_sp]; omega) | (simp_all [pc_sp]; omega) | omega)
set_option maxHeartbeats 4000000 in
set_option maxRecDepth 100000 in
theorem c_X5_stepsTo (G : go_G) (rs : va_W) (p0 : Nat) (p1 : Nat) (so : Nat) (va : Nat) (pa : Nat) (ne : Nat) (ol : Nat) (ct : Nat) (Pf : Nat → Int32) (s : Int32) (hp0 : rs[p0]? = some (so, .inr (4, [.ref va, .ref pa, .ref ne, .ref ol, .int (nI ct)]))) (hp1 : rs[p1]? = some (pa, .inl (G.2.1, 400, .inl Pf))) (hc : ct ≤ 400) : go_Fn yX5_stepsTo cX5_stepsTo 4 (some .int) 2 42 G [.int s, .ref so] rs (some (.int (nI (pc_sp ct Pf 400 0 s)))) rs := by
  refine go_Fn_of (by decide) (Nat.le_of_ble_eq_true rfl) (fun X C E => ?_)
  show go_Go X (0, 0) rs [(0, .int s), (1, .ref so)] [] 0
  refine go_iload_n C dX5_stepsTo_0 0 rfl rfl ?_
  refine go_istore_n C [(0, .int s), (1, .ref so), (2, .int s)] dX5_stepsTo_1 [1, 2, 0] rfl (by decide) rfl ?_
  refine go_iconst C (0) dX5_stepsTo_2 (by decide) ?_
  refine go_istore_n C [(0, .int s), (1, .ref so), (2, .int s), (3, .int 0)] dX5_stepsTo_3 [1, 2, 3, 0] rfl (by decide) rfl ?_
  exact l_X5_stepsTo_4 G rs p0 p1 so va pa ne ol ct Pf s hp0 hp1 hc  C E 400 0 s (by omega) (by omega) rfl
set_option maxHeartbeats 4000000 in
set_option maxRecDepth 100000 in
theorem l_X5_begin_25 {X : go_X} (G : go_G) (rs : va_W) (p0 : Nat) (p1 : Nat) (p2 : Nat) (tr : Nat) (wy : Nat) (fd : Nat) (tv : Nat) (sp : Nat) (Wf : Nat → Int32) (Tf : Nat → Int32) (so : Nat) (va : Nat) (pa : Nat) (ne : Nat) (ol : Nat) (ct : Nat) (Pf : Nat → Int32) (fi : Nat) (f0 : Nat → Int32) (hp0 : rs[p0]? = some (so, .inr (4, [.ref va, .ref pa, .ref ne, .ref ol, .int (nI ct)]))) (hp1 : rs[p1]? = some (pa, .inl (G.2.1, 400, .inl Pf))) (hp2 : rs[p2]? = some (fi, .inl (G.2.1, 6, .inl f0))) (hc : ct ≤ 400) (h1 : 1 ≤ ct) {Rr : Option Value} {W1 : va_W} (fw : Nat → Int32) (sq : Nat) (C : go_Cx X cX5_begin RX5 none 6 3 65 0 0 G) (E : go_Ex X Rr W1) (K : go_Go X (0, 0) ((tr, .inr (5, [.ref wy, .ref fd, .ref tv, .int (nI sq)])) :: (wy, .inl (G.2.1, 400, .inl fw)) :: (tv, .inl (G.2.1, 2400, .inl Tf)) :: rs) [(0, .ref tr), (1, .ref fi)] [] 53) : ∀ (n : Nat) (k : Nat) (z : Int32) (W : Nat → Int32) (hin : k < n) (hk : k ≤ 400) (hW : pc_wl ct Pf k z W = fw), go_Go X (0, 0) ((tr, .inr (5, [.ref wy, .ref fd, .ref tv, .int (nI sq)])) :: (wy, .inl (G.2.1, 400, .inl W)) :: (tv, .inl (G.2.1, 2400, .inl Tf)) :: rs) [(0, .ref tr), (1, .ref fi), (2, .ref so), (4, .int z), (5, .int (pc_d1 k))] [] 25 := by
  intro n
  induction n with
  | zero => intro k z W hin hk hW; omega
  | succ n ih =>
    intro k z W hin hk hW
    rcases k with _ | k
    · refine go_le [(0, .ref tr), (1, .ref fi), (2, .ref so), (4, .int z), (5, .int (-1))] rfl ?_
      refine go_iload C dX5_begin_25 4 rfl ?_
      refine go_if_lt C 53 dX5_begin_27 (by decide) (fun c_27 => ?_) (fun c_27 => ?_)
      · refine go_lv [(0, .ref tr), (1, .ref fi)] [0, 1] rfl ?_
        refine go_we ((tr, .inr (5, [.ref wy, .ref fd, .ref tv, .int (nI sq)])) :: (wy, .inl (G.2.1, 400, .inl fw)) :: (tv, .inl (G.2.1, 2400, .inl Tf)) :: rs) (by rw [← hW]; rfl) ?_
        exact K
      · exact absurd (show (-1 : Int32) < 0 by decide) c_27
    · refine go_le [(0, .ref tr), (1, .ref fi), (2, .ref so), (4, .int z), (5, .int (nI k))] (by rw [pc_d1_s]) ?_
      refine go_iload C dX5_begin_25 4 rfl ?_
      refine go_if_ltN C 53 dX5_begin_27 (by decide) (by omega) ?_
      refine go_aload_n C dX5_begin_30 0 rfl rfl ?_
      refine go_get C (v := .ref wy) fl_X5_9 dX5_begin_31 0 rfl rfl ?_
      refine go_iload C dX5_begin_34 4 rfl ?_
      refine go_iload C dX5_begin_36 3 rfl ?_
      refine go_iast C dX5_begin_38 1 rfl (k) rfl (by omega) (by decide) ((tr, .inr (5, [.ref wy, .ref fd, .ref tv, .int (nI sq)])) :: (wy, .inl (G.2.1, 400, .inl (upd W k z))) :: (tv, .inl (G.2.1, 2400, .inl Tf)) :: rs) rfl ?_
      refine go_aload_n C dX5_begin_39 2 rfl rfl ?_
      refine go_iload C dX5_begin_40 3 rfl ?_
      refine go_cV C (c_X4_parentOf G ((tr, .inr (5, [.ref wy, .ref fd, .ref tv, .int (nI sq)])) :: (wy, .inl (G.2.1, 400, .inl (upd W k z))) :: (tv, .inl (G.2.1, 2400, .inl Tf)) :: rs) (p0 + 3) (p1 + 3) so va pa ne ol ct Pf z hp0 hp1 (by omega)) ml_X5_35 mc_X4_parentOf dX5_begin_42 [] rfl rfl (p0 + 3) hp0 rfl rfl ⟨Nat.le_of_ble_eq_true rfl, Nat.le_of_ble_eq_true rfl, Nat.zero_le _, Nat.zero_le _, Nat.le_of_ble_eq_true rfl⟩ [.int (pc_par ct Pf z)] rfl ?_
      refine go_istore C [(0, .ref tr), (1, .ref fi), (2, .ref so), (4, .int (pc_par ct Pf z)), (5, .int (nI k))] dX5_begin_45 [1, 2, 3, 0, 4] (by decide) rfl ?_
      refine go_iinc C (pc_d1 k) [(0, .ref tr), (1, .ref fi), (2, .ref so), (4, .int (pc_par ct Pf z)), (5, .int (pc_d1 k))] dX5_begin_47 4 [1, 2, 3, 4, 0] rfl rfl (by decide) rfl ?_
      refine go_goto C 25 dX5_begin_50 (by decide) ?_
      exact ih k (pc_par ct Pf z) (upd W k z) (by omega) (by omega) hW
set_option maxHeartbeats 4000000 in
set_option maxRecDepth 100000 in
theorem c_X5_begin (G : go_G) (rs : va_W) (p0 : Nat) (p1 : Nat) (p2 : Nat) (tr : Nat) (wy : Nat) (fd : Nat) (tv : Nat) (sp : Nat) (Wf : Nat → Int32) (Tf : Nat → Int32) (so : Nat) (va : Nat) (pa : Nat) (ne : Nat) (ol : Nat) (ct : Nat) (Pf : Nat → Int32) (fi : Nat) (f0 : Nat → Int32) (hp0 : rs[p0]? = some (so, .inr (4, [.ref va, .ref pa, .ref ne, .ref ol, .int (nI ct)]))) (hp1 : rs[p1]? = some (pa, .inl (G.2.1, 400, .inl Pf))) (hp2 : rs[p2]? = some (fi, .inl (G.2.1, 6, .inl f0))) (hc : ct ≤ 400) (h1 : 1 ≤ ct) : go_Fn yX5_begin cX5_begin 6 none 3 65 G [.ref tr, .ref fi, .ref so] ((tr, .inr (5, [.ref wy, .ref fd, .ref tv, .int (nI sp)])) :: (wy, .inl (G.2.1, 400, .inl Wf)) :: (tv, .inl (G.2.1, 2400, .inl Tf)) :: rs) (none) ((tr, .inr (5, [.ref wy, .ref fd, .ref tv, .int (nI (pc_sp ct Pf 400 0 (nI (ct - 1))))])) :: (wy, .inl (G.2.1, 400, .inl (pc_wl ct Pf (pc_sp ct Pf 400 0 (nI (ct - 1)) + 1) (nI (ct - 1)) Wf))) :: (tv, .inl (G.2.1, 2400, .inl (pc_wr Tf 0 f0))) :: rs) := by
  refine go_Fn_of (by decide) (Nat.le_of_ble_eq_true rfl) (fun X C E => ?_)
  show go_Go X (0, 0) ((tr, .inr (5, [.ref wy, .ref fd, .ref tv, .int (nI sp)])) :: (wy, .inl (G.2.1, 400, .inl Wf)) :: (tv, .inl (G.2.1, 2400, .inl Tf)) :: rs) [(0, .ref tr), (1, .ref fi), (2, .ref so)] [] 0
  have hsp := pc_sp_le (ct := ct) (P := Pf) 400 0 (nI (ct - 1)) (by omega)
  refine go_aload_n C dX5_begin_0 2 rfl rfl ?_
  refine go_cV C (c_X4_count G ((tr, .inr (5, [.ref wy, .ref fd, .ref tv, .int (nI sp)])) :: (wy, .inl (G.2.1, 400, .inl Wf)) :: (tv, .inl (G.2.1, 2400, .inl Tf)) :: rs) (p0 + 3) so va pa ne ol ct hp0 ) ml_X5_25 mc_X4_count dX5_begin_1 [] rfl rfl (p0 + 3) hp0 rfl rfl ⟨Nat.le_of_ble_eq_true rfl, Nat.le_of_ble_eq_true rfl, Nat.zero_le _, Nat.zero_le _, Nat.le_of_ble_eq_true rfl⟩ [.int (nI ct)] rfl ?_
  refine go_iconst C (1) dX5_begin_4 (by decide) ?_
  refine go_isub C (z := nI (ct - 1)) dX5_begin_5 (pk_sub (a := ct) (b := 1) (by omega)) ?_
  refine go_istore_n C [(0, .ref tr), (1, .ref fi), (2, .ref so), (3, .int (nI (ct - 1)))] dX5_begin_6 [1, 2, 3, 0] rfl (by decide) rfl ?_
  refine go_aload_n C dX5_begin_7 0 rfl rfl ?_
  refine go_iload_n C dX5_begin_8 3 rfl rfl ?_
  refine go_aload_n C dX5_begin_9 2 rfl rfl ?_
  refine go_cS C (c_X5_stepsTo G ((tr, .inr (5, [.ref wy, .ref fd, .ref tv, .int (nI sp)])) :: (wy, .inl (G.2.1, 400, .inl Wf)) :: (tv, .inl (G.2.1, 2400, .inl Tf)) :: rs) (p0 + 3) (p1 + 3) so va pa ne ol ct Pf (nI (ct - 1)) hp0 hp1 (by omega)) ml_X5_31 mc_X5_stepsTo dX5_begin_10 [.ref tr] rfl rfl rfl ⟨Nat.le_of_ble_eq_true rfl, Nat.le_of_ble_eq_true rfl, Nat.zero_le _, Nat.zero_le _, Nat.le_of_ble_eq_true rfl⟩ [.int (nI (pc_sp ct Pf 400 0 (nI (ct - 1)))), .ref tr] rfl ?_
  refine go_put C fp_X5_21 dX5_begin_13 0 rfl rfl rfl (Nat.le_of_ble_eq_true rfl) ((tr, .inr (5, [.ref wy, .ref fd, .ref tv, .int (nI (pc_sp ct Pf 400 0 (nI (ct - 1))))])) :: (wy, .inl (G.2.1, 400, .inl Wf)) :: (tv, .inl (G.2.1, 2400, .inl Tf)) :: rs) rfl ?_
  refine go_iload_n C dX5_begin_16 3 rfl rfl ?_
  refine go_istore C [(0, .ref tr), (1, .ref fi), (2, .ref so), (3, .int (nI (ct - 1))), (4, .int (nI (ct - 1)))] dX5_begin_17 [1, 2, 3, 4, 0] (by decide) rfl ?_
  refine go_aload_n C dX5_begin_19 0 rfl rfl ?_
  refine go_get C (v := .int (nI (pc_sp ct Pf 400 0 (nI (ct - 1))))) fl_X5_21 dX5_begin_20 0 rfl rfl ?_
  refine go_istore C [(0, .ref tr), (1, .ref fi), (2, .ref so), (3, .int (nI (ct - 1))), (4, .int (nI (ct - 1))), (5, .int (nI (pc_sp ct Pf 400 0 (nI (ct - 1)))))] dX5_begin_23 [1, 2, 3, 4, 5, 0] (by decide) rfl ?_
  refine go_lv [(0, .ref tr), (1, .ref fi), (2, .ref so), (4, .int (nI (ct - 1))), (5, .int (nI (pc_sp ct Pf 400 0 (nI (ct - 1)))))] [0, 1, 2, 4, 5] rfl ?_
  refine go_le [(0, .ref tr), (1, .ref fi), (2, .ref so), (4, .int (nI (ct - 1))), (5, .int (pc_d1 (pc_sp ct Pf 400 0 (nI (ct - 1)) + 1)))] (by rw [pc_d1_s]) ?_
  refine l_X5_begin_25 G rs p0 p1 p2 tr wy fd tv sp Wf Tf so va pa ne ol ct Pf fi f0 hp0 hp1 hp2 hc h1 (pc_wl ct Pf (pc_sp ct Pf 400 0 (nI (ct - 1)) + 1) (nI (ct - 1)) Wf) (pc_sp ct Pf 400 0 (nI (ct - 1))) C E ?_ 402 (pc_sp ct Pf 400 0 (nI (ct - 1)) + 1) (nI (ct - 1)) Wf (by omega) (by omega) rfl
  show go_Go X (0, 0) ((tr, .inr (5, [.ref wy, .ref fd, .ref tv, .int (nI ((pc_sp ct Pf 400 0 (nI (ct - 1)))))])) :: (wy, .inl (G.2.1, 400, .inl (pc_wl ct Pf (pc_sp ct Pf 400 0 (nI (ct - 1)) + 1) (nI (ct - 1)) Wf))) :: (tv, .inl (G.2.1, 2400, .inl Tf)) :: rs) [(0, .ref tr), (1, .ref fi)] [] 53
  refine go_aload_n C dX5_begin_53 1 rfl rfl ?_
  refine go_iconst C (0) dX5_begin_54 (by decide) ?_
  refine go_aload_n C dX5_begin_55 0 rfl rfl ?_
  refine go_get C (v := .ref tv) fl_X5_18 dX5_begin_56 0 rfl rfl ?_
  refine go_iconst C (0) dX5_begin_59 (by decide) ?_
  refine go_bipush C (6) dX5_begin_60 (by decide) ?_
  refine go_copy C ml_X5_39 ml_ac dX5_begin_62 (p2 + 3) 2 hp2 rfl 0 0 6 rfl rfl rfl (by omega) (by omega) (by decide) (by decide) ⟨Nat.le_of_ble_eq_true rfl, Nat.le_of_ble_eq_true rfl⟩ ((tr, .inr (5, [.ref wy, .ref fd, .ref tv, .int (nI ((pc_sp ct Pf 400 0 (nI (ct - 1)))))])) :: (wy, .inl (G.2.1, 400, .inl (pc_wl ct Pf (pc_sp ct Pf 400 0 (nI (ct - 1)) + 1) (nI (ct - 1)) Wf))) :: (tv, .inl (G.2.1, 2400, .inl (va_cpy f0 Tf 0 0 6))) :: rs) rfl ?_
  refine go_we ((tr, .inr (5, [.ref wy, .ref fd, .ref tv, .int (nI ((pc_sp ct Pf 400 0 (nI (ct - 1)))))])) :: (wy, .inl (G.2.1, 400, .inl (pc_wl ct Pf (pc_sp ct Pf 400 0 (nI (ct - 1)) + 1) (nI (ct - 1)) Wf))) :: (tv, .inl (G.2.1, 2400, .inl (pc_wr Tf 0 f0))) :: rs) (by rw [pc_wr_eq _ 0 _ _ rfl]) ?_
  exact go_vret C E dX5_begin_65 rfl rfl
set_option maxHeartbeats 4000000 in
set_option maxRecDepth 100000 in
theorem c_X5_wayAt (G : go_G) (rs : va_W) (p0 : Nat) (p1 : Nat) (tr : Nat) (wy : Nat) (fd : Nat) (tv : Nat) (sp : Nat) (Wf : Nat → Int32) (i : Nat) (hp0 : rs[p0]? = some (tr, .inr (5, [.ref wy, .ref fd, .ref tv, .int (nI sp)]))) (hp1 : rs[p1]? = some (wy, .inl (G.2.1, 400, .inl Wf))) (hi : i ≤ sp) (h4 : i < 400) (hs : sp < 400) : go_Fn yX5_wayAt cX5_wayAt 2 (some .int) 1 21 G [.ref tr, .int (nI i)] rs (some (.int (Wf i))) rs := by
  refine go_Fn_of (by decide) (Nat.le_of_ble_eq_true rfl) (fun X C E => ?_)
  show go_Go X (0, 0) rs [(0, .ref tr), (1, .int (nI i))] [] 0
  refine go_aload_n C dX5_wayAt_0 0 rfl rfl ?_
  refine go_iload_n C dX5_wayAt_1 1 rfl rfl ?_
  refine go_cV C (c_X5_hasState G rs p0 tr wy fd tv sp (nI i) hp0 ) ml_X5_45 mc_X5_hasState dX5_wayAt_2 [] rfl rfl p0 hp0 rfl rfl ⟨Nat.le_of_ble_eq_true rfl, Nat.le_of_ble_eq_true rfl, Nat.zero_le _, Nat.zero_le _, Nat.le_of_ble_eq_true rfl⟩ [.int (go_b (true))] (by rw [pc_hst_t (by omega) (by omega) (by omega)]; rfl) ?_
  refine go_if_eqB C 17 dX5_wayAt_5 (by decide) (fun c_5 => ?_) (fun c_5 => ?_)
  · cases c_5
  · refine go_aload_n C dX5_wayAt_8 0 rfl rfl ?_
    refine go_get C (v := .ref wy) fl_X5_9 dX5_wayAt_9 p0 hp0 rfl ?_
    refine go_iload_n C dX5_wayAt_12 1 rfl rfl ?_
    refine go_iald C dX5_wayAt_13 p1 hp1 (i) rfl (by omega) (by decide) ?_
    refine go_goto C 18 dX5_wayAt_14 (by decide) ?_
    exact go_iret C E dX5_wayAt_18 rfl rfl
set_option maxHeartbeats 4000000 in
set_option maxRecDepth 100000 in
theorem c_X5_ruleAt (G : go_G) (rs : va_W) (p0 : Nat) (p1 : Nat) (tr : Nat) (wy : Nat) (fd : Nat) (tv : Nat) (sp : Nat) (Df : Nat → Int32) (i : Int32) (hp0 : rs[p0]? = some (tr, .inr (5, [.ref wy, .ref fd, .ref tv, .int (nI sp)]))) (hp1 : rs[p1]? = some (fd, .inl (G.2.1, 400, .inl Df))) (hs : sp < 400) : go_Fn yX5_ruleAt cX5_ruleAt 2 (some .int) 0 0 G [.ref tr, .int i] rs (some (.int (pc_ra sp Df i))) rs := by
  refine go_Fn_of (by decide) (Nat.le_of_ble_eq_true rfl) (fun X C E => ?_)
  show go_Go X (0, 0) rs [(0, .ref tr), (1, .int i)] [] 0
  refine go_iload_n C dX5_ruleAt_0 1 rfl rfl ?_
  refine go_if_lt C 21 dX5_ruleAt_1 (by decide) (fun c_1 => ?_) (fun c_1 => ?_)
  · refine go_iconst C ((-1)) dX5_ruleAt_21 (by decide) ?_
    exact go_iret C E dX5_ruleAt_22 (by first | (simp [pc_ra, c_1, c_9]; done) | (simp [pc_ra, c_1]; done)) rfl
  · refine go_iload_n C dX5_ruleAt_4 1 rfl rfl ?_
    refine go_aload_n C dX5_ruleAt_5 0 rfl rfl ?_
    refine go_get C (v := .int (nI sp)) fl_X5_21 dX5_ruleAt_6 p0 hp0 rfl ?_
    refine go_icmp_ge C 21 dX5_ruleAt_9 (by decide) (fun c_9 => ?_) (fun c_9 => ?_)
    · refine go_iconst C ((-1)) dX5_ruleAt_21 (by decide) ?_
      exact go_iret C E dX5_ruleAt_22 (by first | (simp [pc_ra, c_1, c_9]; done) | (simp [pc_ra, c_1]; done)) rfl
    · obtain ⟨hs1, hs2⟩ := pc_has_nI (ct := sp) (s := i) (by omega) (by simp [pc_has, *])
      refine go_aload_n C dX5_ruleAt_12 0 rfl rfl ?_
      refine go_get C (v := .ref fd) fl_X5_15 dX5_ruleAt_13 p0 hp0 rfl ?_
      refine go_iload_n C dX5_ruleAt_16 1 rfl rfl ?_
      refine go_iald C dX5_ruleAt_17 p1 hp1 (i.toNatClampNeg) hs1 (by omega) (by decide) ?_
      refine go_goto C 22 dX5_ruleAt_18 (by decide) ?_
      exact go_iret C E dX5_ruleAt_22 (by first | (simp [pc_ra, c_1, c_9]; done) | (simp [pc_ra, c_1]; done)) rfl
set_option maxHeartbeats 4000000 in
set_option maxRecDepth 100000 in
theorem c_X5_copyOut (G : go_G) (rs : va_W) (p0 : Nat) (p1 : Nat) (tr : Nat) (wy : Nat) (fd : Nat) (tv : Nat) (sp : Nat) (Tf : Nat → Int32) (i : Nat) (x : Nat) (g : Nat → Int32) (hp0 : rs[p0]? = some (tr, .inr (5, [.ref wy, .ref fd, .ref tv, .int (nI sp)]))) (hp1 : rs[p1]? = some (tv, .inl (G.2.1, 2400, .inl Tf))) (hi : i ≤ sp) (h4 : i < 400) (hs : sp < 400) : go_Fn yX5_copyOut cX5_copyOut 3 none 1 44 G [.ref tr, .int (nI i), .ref x] ((x, .inl (G.2.1, 6, .inl g)) :: rs) (none) ((x, .inl (G.2.1, 6, .inl (pc_stt Tf i))) :: rs) := by
  refine go_Fn_of (by decide) (Nat.le_of_ble_eq_true rfl) (fun X C E => ?_)
  show go_Go X (0, 0) ((x, .inl (G.2.1, 6, .inl g)) :: rs) [(0, .ref tr), (1, .int (nI i)), (2, .ref x)] [] 0
  refine go_aload_n C dX5_copyOut_0 0 rfl rfl ?_
  refine go_iload_n C dX5_copyOut_1 1 rfl rfl ?_
  refine go_cV C (c_X5_hasState G ((x, .inl (G.2.1, 6, .inl g)) :: rs) (p0 + 1) tr wy fd tv sp (nI i) hp0 ) ml_X5_45 mc_X5_hasState dX5_copyOut_2 [] rfl rfl (p0 + 1) hp0 rfl rfl ⟨Nat.le_of_ble_eq_true rfl, Nat.le_of_ble_eq_true rfl, Nat.zero_le _, Nat.zero_le _, Nat.le_of_ble_eq_true rfl⟩ [.int (go_b (true))] (by rw [pc_hst_t (by omega) (by omega) (by omega)]; rfl) ?_
  refine go_if_eqB C 23 dX5_copyOut_5 (by decide) (fun c_5 => ?_) (fun c_5 => ?_)
  · cases c_5
  · refine go_aload_n C dX5_copyOut_8 0 rfl rfl ?_
    refine go_get C (v := .ref tv) fl_X5_18 dX5_copyOut_9 (p0 + 1) hp0 rfl ?_
    refine go_iload_n C dX5_copyOut_12 1 rfl rfl ?_
    refine go_bipush C (6) dX5_copyOut_13 (by decide) ?_
    refine go_imul C (z := nI (i * 6)) dX5_copyOut_15 (pk_mul i 6) ?_
    refine go_aload_n C dX5_copyOut_16 2 rfl rfl ?_
    refine go_iconst C (0) dX5_copyOut_17 (by decide) ?_
    refine go_bipush C (6) dX5_copyOut_18 (by decide) ?_
    refine go_copy C ml_X5_39 ml_ac dX5_copyOut_20 (p1 + 1) 0 hp1 rfl (i * 6) 0 6 rfl rfl rfl (by omega) (by omega) (by decide) (by decide) ⟨Nat.le_of_ble_eq_true rfl, Nat.le_of_ble_eq_true rfl⟩ ((x, .inl (G.2.1, 6, .inl (va_cpy Tf g (i * 6) 0 6))) :: rs) rfl ?_
    refine go_cont 0 rfl (pc_stt Tf i) (fun j hj => by rw [pk_cpy_in (by omega) (by omega)]; unfold pc_stt; congr 1; omega) ((x, .inl (G.2.1, 6, .inl (pc_stt Tf i))) :: rs) rfl ?_
    exact go_vret C E dX5_copyOut_23 rfl rfl
set_option maxHeartbeats 4000000 in
set_option maxRecDepth 100000 in
theorem c_X5_putStep (G : go_G) (rs : va_W) (p0 : Nat) (p1 : Nat) (tr : Nat) (wy : Nat) (fd : Nat) (tv : Nat) (sp : Nat) (Df : Nat → Int32) (Tf : Nat → Int32) (i : Nat) (q : Int32) (x : Nat) (t : Nat → Int32) (hp0 : rs[p0]? = some (tr, .inr (5, [.ref wy, .ref fd, .ref tv, .int (nI sp)]))) (hp1 : rs[p1]? = some (x, .inl (G.2.1, 6, .inl t))) (hi : i < sp) (hs : sp < 400) : go_Fn yX5_putStep cX5_putStep 4 none 1 44 G [.ref tr, .int (nI i), .int q, .ref x] ((fd, .inl (G.2.1, 400, .inl Df)) :: (tv, .inl (G.2.1, 2400, .inl Tf)) :: rs) (none) ((fd, .inl (G.2.1, 400, .inl (upd Df i q))) :: (tv, .inl (G.2.1, 2400, .inl (pc_wr Tf (i + 1) t))) :: rs) := by
  refine go_Fn_of (by decide) (Nat.le_of_ble_eq_true rfl) (fun X C E => ?_)
  show go_Go X (0, 0) ((fd, .inl (G.2.1, 400, .inl Df)) :: (tv, .inl (G.2.1, 2400, .inl Tf)) :: rs) [(0, .ref tr), (1, .int (nI i)), (2, .int q), (3, .ref x)] [] 0
  refine go_iload_n C dX5_putStep_0 1 rfl rfl ?_
  refine go_if_ltN C 38 dX5_putStep_1 (by decide) (by omega) ?_
  refine go_aload_n C dX5_putStep_4 0 rfl rfl ?_
  refine go_iload_n C dX5_putStep_5 1 rfl rfl ?_
  refine go_iconst C (1) dX5_putStep_6 (by decide) ?_
  refine go_iadd C (z := nI (i + 1)) dX5_putStep_7 (nI_add i 1) ?_
  refine go_cV C (c_X5_hasState G ((fd, .inl (G.2.1, 400, .inl Df)) :: (tv, .inl (G.2.1, 2400, .inl Tf)) :: rs) (p0 + 2) tr wy fd tv sp (nI (i + 1)) hp0 ) ml_X5_45 mc_X5_hasState dX5_putStep_8 [] rfl rfl (p0 + 2) hp0 rfl rfl ⟨Nat.le_of_ble_eq_true rfl, Nat.le_of_ble_eq_true rfl, Nat.zero_le _, Nat.zero_le _, Nat.le_of_ble_eq_true rfl⟩ [.int (go_b (true))] (by rw [pc_hst_t (by omega) (by omega) (by omega)]; rfl) ?_
  refine go_if_eqB C 38 dX5_putStep_11 (by decide) (fun c_11 => ?_) (fun c_11 => ?_)
  · cases c_11
  · refine go_aload_n C dX5_putStep_14 0 rfl rfl ?_
    refine go_get C (v := .ref fd) fl_X5_15 dX5_putStep_15 (p0 + 2) hp0 rfl ?_
    refine go_iload_n C dX5_putStep_18 1 rfl rfl ?_
    refine go_iload_n C dX5_putStep_19 2 rfl rfl ?_
    refine go_iast C dX5_putStep_20 0 rfl (i) rfl (by omega) (by decide) ((fd, .inl (G.2.1, 400, .inl (upd Df i q))) :: (tv, .inl (G.2.1, 2400, .inl Tf)) :: rs) rfl ?_
    refine go_aload_n C dX5_putStep_21 3 rfl rfl ?_
    refine go_iconst C (0) dX5_putStep_22 (by decide) ?_
    refine go_aload_n C dX5_putStep_23 0 rfl rfl ?_
    refine go_get C (v := .ref tv) fl_X5_18 dX5_putStep_24 (p0 + 2) hp0 rfl ?_
    refine go_iload_n C dX5_putStep_27 1 rfl rfl ?_
    refine go_iconst C (1) dX5_putStep_28 (by decide) ?_
    refine go_iadd C (z := nI (i + 1)) dX5_putStep_29 (nI_add i 1) ?_
    refine go_bipush C (6) dX5_putStep_30 (by decide) ?_
    refine go_imul C (z := nI ((i + 1) * 6)) dX5_putStep_32 (pk_mul (i + 1) 6) ?_
    refine go_bipush C (6) dX5_putStep_33 (by decide) ?_
    refine go_copy C ml_X5_39 ml_ac dX5_putStep_35 (p1 + 2) 1 hp1 rfl 0 ((i + 1) * 6) 6 rfl rfl rfl (by omega) (by omega) (by decide) (by decide) ⟨Nat.le_of_ble_eq_true rfl, Nat.le_of_ble_eq_true rfl⟩ ((fd, .inl (G.2.1, 400, .inl (upd Df i q))) :: (tv, .inl (G.2.1, 2400, .inl (va_cpy t Tf 0 ((i + 1) * 6) 6))) :: rs) rfl ?_
    refine go_we ((fd, .inl (G.2.1, 400, .inl (upd Df i q))) :: (tv, .inl (G.2.1, 2400, .inl (pc_wr Tf (i + 1) t))) :: rs) (by rw [pc_wr_eq _ (i + 1) _ _ (by omega)]) ?_
    exact go_vret C E dX5_putStep_38 rfl rfl
