set_option maxHeartbeats 4000000 in
set_option maxRecDepth 100000 in
theorem l_J7_fill_53178_5 {X : go_X} (G : go_G) (rs : va_W)  (a : Nat) (N : Nat) (f : Nat → Int32) (x : Int32)  (hN : N < 2 ^ 30) {Rr : Option Value}  (C : go_Cx X cJ7_fill_53178 RJ7 none 4 0 0 0 0 G) (E : go_Ex X Rr ((a, .inl (G.2.1, N, .inl (pc_fill N x f))) :: rs)) (K : go_Go X (0, 0) ((a, .inl (G.2.1, N, .inl (pc_fill N x f))) :: rs) [(0, .ref a), (1, .int x)] [] 20) : ∀ (n : Nat) (i : Nat) (hin : N < i + n) (hi : i ≤ N), go_Go X (0, 0) ((a, .inl (G.2.1, N, .inl (pc_fill i x f))) :: rs) [(0, .ref a), (1, .int x), (2, .int (nI i)), (3, .int (nI N))] [] 5 := by
  intro n
  induction n with
  | zero => intro i hin hi; omega
  | succ n ih =>
    intro i hin hi
    refine go_iload_n C dJ7_fill_53178_5 2 rfl rfl ?_
    refine go_iload_n C dJ7_fill_53178_6 3 rfl rfl ?_
    refine go_icmp_geN (a := i) (b := N) C 20 dJ7_fill_53178_7 (by decide) (by omega) (by omega) (fun c_7 => ?_) (fun c_7 => ?_)
    · refine go_lv [(0, .ref a), (1, .int x)] [0, 1] rfl ?_
      refine go_we ((a, .inl (G.2.1, N, .inl (pc_fill N x f))) :: rs) (by rw [show i = N by omega]) ?_
      exact K
    · refine go_aload_n C dJ7_fill_53178_10 0 rfl rfl ?_
      refine go_iload_n C dJ7_fill_53178_11 2 rfl rfl ?_
      refine go_iload_n C dJ7_fill_53178_12 1 rfl rfl ?_
      refine go_iast C dJ7_fill_53178_13 0 rfl (i) rfl (by omega) (by omega) ((a, .inl (G.2.1, N, .inl (upd (pc_fill i x f) i x))) :: rs) rfl ?_
      refine go_we ((a, .inl (G.2.1, N, .inl (pc_fill (i + 1) x f))) :: rs) (by rw [pc_fill_s]) ?_
      refine go_iinc C (nI (i + 1)) [(0, .ref a), (1, .int x), (2, .int (nI (i + 1))), (3, .int (nI N))] dJ7_fill_53178_14 2 [1, 2, 0, 3] rfl (nI_add i 1) (by decide) rfl ?_
      refine go_goto C 5 dJ7_fill_53178_17 (by decide) ?_
      exact ih (i + 1) (by omega) (by omega)
set_option maxHeartbeats 4000000 in
set_option maxRecDepth 100000 in
theorem c_J7_fill_53178 (G : go_G) (rs : va_W)  (a : Nat) (N : Nat) (f : Nat → Int32) (x : Int32)  (hN : N < 2 ^ 30) : go_Fn yJ7_fill_53178 cJ7_fill_53178 4 none 0 0 G [.ref a, .int x] ((a, .inl (G.2.1, N, .inl f)) :: rs) (none) ((a, .inl (G.2.1, N, .inl (pc_fill N x f))) :: rs) := by
  refine go_Fn_of (by decide) (Nat.le_of_ble_eq_true rfl) (fun X C E => ?_)
  show go_Go X (0, 0) ((a, .inl (G.2.1, N, .inl f)) :: rs) [(0, .ref a), (1, .int x)] [] 0
  refine go_iconst C (0) dJ7_fill_53178_0 (by decide) ?_
  refine go_istore_n C [(0, .ref a), (1, .int x), (2, .int 0)] dJ7_fill_53178_1 [1, 2, 0] rfl (by decide) rfl ?_
  refine go_aload_n C dJ7_fill_53178_2 0 rfl rfl ?_
  refine go_alen C dJ7_fill_53178_3 0 rfl ?_
  refine go_we ((a, .inl (G.2.1, N, .inl (pc_fill 0 x f))) :: rs) (by rw [pc_fill_0]) ?_
  refine go_istore_n C [(0, .ref a), (1, .int x), (2, .int 0), (3, .int (nI N))] dJ7_fill_53178_4 [1, 2, 3, 0] rfl (by decide) rfl ?_
  refine l_J7_fill_53178_5 G rs  a N f x  hN  C E ?_ (N + 1) 0 (by omega) (by omega)
  show go_Go X (0, 0) ((a, .inl (G.2.1, N, .inl (pc_fill N x f))) :: rs) [(0, .ref a), (1, .int x)] [] 20
  exact go_vret C E dJ7_fill_53178_20 rfl rfl
set_option maxHeartbeats 4000000 in
set_option maxRecDepth 100000 in
theorem c_X0_clear (G : go_G) (rs : va_W) (p0 : Nat) (bl : Nat) (nb : Nat) (Bf : Nat → Int32) (hp0 : rs[p0]? = some (bl, .inr (0, [.ref nb])))  : go_Fn yX0_clear cX0_clear 1 none 1 23 G [.ref bl] ((nb, .inl (G.2.1, 6, .inl Bf)) :: rs) (none) ((nb, .inl (G.2.1, 6, .inl (pc_fill 6 0 Bf))) :: rs) := by
  refine go_Fn_of (by decide) (Nat.le_of_ble_eq_true rfl) (fun X C E => ?_)
  show go_Go X (0, 0) ((nb, .inl (G.2.1, 6, .inl Bf)) :: rs) [(0, .ref bl)] [] 0
  refine go_aload_n C dX0_clear_0 0 rfl rfl ?_
  refine go_get C (v := .ref nb) fl_X0_9 dX0_clear_1 (p0 + 1) hp0 rfl ?_
  refine go_iconst C (0) dX0_clear_4 (by decide) ?_
  refine go_cS C (c_J7_fill_53178 G rs  nb 6 Bf 0  (by omega)) ml_X0_15 mc_J7_fill_53178 dX0_clear_5 [] rfl rfl rfl ⟨Nat.le_of_ble_eq_true rfl, Nat.le_of_ble_eq_true rfl, Nat.zero_le _, Nat.zero_le _, Nat.le_of_ble_eq_true rfl⟩ [] rfl ?_
  exact go_vret C E dX0_clear_8 rfl rfl
set_option maxHeartbeats 4000000 in
set_option maxRecDepth 100000 in
theorem c_X0_put (G : go_G) (rs : va_W) (p0 : Nat) (bl : Nat) (nb : Nat) (Bf : Nat → Int32) (v : Nat) (g : Int32) (hp0 : rs[p0]? = some (bl, .inr (0, [.ref nb]))) (hv : v < 6) : go_Fn yX0_put cX0_put 3 none 1 20 G [.ref bl, .int (nI v), .int g] ((nb, .inl (G.2.1, 6, .inl Bf)) :: rs) (none) ((nb, .inl (G.2.1, 6, .inl (upd Bf v g))) :: rs) := by
  refine go_Fn_of (by decide) (Nat.le_of_ble_eq_true rfl) (fun X C E => ?_)
  show go_Go X (0, 0) ((nb, .inl (G.2.1, 6, .inl Bf)) :: rs) [(0, .ref bl), (1, .int (nI v)), (2, .int g)] [] 0
  refine go_iload_n C dX0_put_0 1 rfl rfl ?_
  refine go_cN C (c_X8_isVariable G ((nb, .inl (G.2.1, 6, .inl Bf)) :: rs)  (nI v)  ) ml_X0_21 mc_X8_isVariable dX0_put_1 [] rfl rfl rfl ⟨Nat.le_of_ble_eq_true rfl, Nat.le_of_ble_eq_true rfl, Nat.zero_le _, Nat.zero_le _, Nat.le_of_ble_eq_true rfl⟩ [.int (go_b (true))] (by rw [pc_isV_t (by omega)]; rfl) ?_
  refine go_if_eqB C 14 dX0_put_4 (by decide) (fun c_4 => ?_) (fun c_4 => ?_)
  · cases c_4
  · refine go_aload_n C dX0_put_7 0 rfl rfl ?_
    refine go_get C (v := .ref nb) fl_X0_9 dX0_put_8 (p0 + 1) hp0 rfl ?_
    refine go_iload_n C dX0_put_11 1 rfl rfl ?_
    refine go_iload_n C dX0_put_12 2 rfl rfl ?_
    refine go_iast C dX0_put_13 0 rfl (v) rfl (by omega) (by decide) ((nb, .inl (G.2.1, 6, .inl (upd Bf v g))) :: rs) rfl ?_
    exact go_vret C E dX0_put_14 rfl rfl
set_option maxHeartbeats 4000000 in
set_option maxRecDepth 100000 in
theorem c_X0_join (G : go_G) (rs : va_W) (p0 : Nat) (p1 : Nat) (bl : Nat) (nb : Nat) (Bf : Nat → Int32) (a : Nat) (b : Nat) (hp0 : rs[p0]? = some (bl, .inr (0, [.ref nb]))) (hp1 : rs[p1]? = some (nb, .inl (G.2.1, 6, .inl Bf))) (ha : a < 6) (hb : b < 6) : go_Fn yX0_join cX0_join 3 (some .boolean) 1 20 G [.ref bl, .int (nI a), .int (nI b)] rs (some (.int (go_b (pc_jn Bf a b)))) rs := by
  refine go_Fn_of (by decide) (Nat.le_of_ble_eq_true rfl) (fun X C E => ?_)
  show go_Go X (0, 0) rs [(0, .ref bl), (1, .int (nI a)), (2, .int (nI b))] [] 0
  refine go_iload_n C dX0_join_0 1 rfl rfl ?_
  refine go_cN C (c_X8_isVariable G rs  (nI a)  ) ml_X0_21 mc_X8_isVariable dX0_join_1 [] rfl rfl rfl ⟨Nat.le_of_ble_eq_true rfl, Nat.le_of_ble_eq_true rfl, Nat.zero_le _, Nat.zero_le _, Nat.le_of_ble_eq_true rfl⟩ [.int (go_b (true))] (by rw [pc_isV_t (by omega)]; rfl) ?_
  refine go_if_eqB C 42 dX0_join_4 (by decide) (fun c_4 => ?_) (fun c_4 => ?_)
  · cases c_4
  · refine go_iload_n C dX0_join_7 2 rfl rfl ?_
    refine go_cN C (c_X8_isVariable G rs  (nI b)  ) ml_X0_21 mc_X8_isVariable dX0_join_8 [] rfl rfl rfl ⟨Nat.le_of_ble_eq_true rfl, Nat.le_of_ble_eq_true rfl, Nat.zero_le _, Nat.zero_le _, Nat.le_of_ble_eq_true rfl⟩ [.int (go_b (true))] (by rw [pc_isV_t (by omega)]; rfl) ?_
    refine go_if_eqB C 42 dX0_join_11 (by decide) (fun c_11 => ?_) (fun c_11 => ?_)
    · cases c_11
    · refine go_aload_n C dX0_join_14 0 rfl rfl ?_
      refine go_get C (v := .ref nb) fl_X0_9 dX0_join_15 p0 hp0 rfl ?_
      refine go_iload_n C dX0_join_18 1 rfl rfl ?_
      refine go_iald C dX0_join_19 p1 hp1 (a) rfl (by omega) (by decide) ?_
      refine go_if_eq C 42 dX0_join_20 (by decide) (fun c_20 => ?_) (fun c_20 => ?_)
      · refine go_iconst C (0) dX0_join_42 (by decide) ?_
        refine go_se [.int (go_b (false))] rfl ?_
        exact go_zret C E dX0_join_43 (go_bn _) (by first | contradiction | rfl | (simp [pc_jn, *]; done) | (rw [decide_eq_true (by omega)]; done) | (rw [decide_eq_false (by omega)]; done) | (simp_all [pc_jn]; done) | (simp [pc_jn]; omega) | (simp_all [pc_jn]; omega) | omega) rfl
      · refine go_aload_n C dX0_join_23 0 rfl rfl ?_
        refine go_get C (v := .ref nb) fl_X0_9 dX0_join_24 p0 hp0 rfl ?_
        refine go_iload_n C dX0_join_27 1 rfl rfl ?_
        refine go_iald C dX0_join_28 p1 hp1 (a) rfl (by omega) (by decide) ?_
        refine go_aload_n C dX0_join_29 0 rfl rfl ?_
        refine go_get C (v := .ref nb) fl_X0_9 dX0_join_30 p0 hp0 rfl ?_
        refine go_iload_n C dX0_join_33 2 rfl rfl ?_
        refine go_iald C dX0_join_34 p1 hp1 (b) rfl (by omega) (by decide) ?_
        refine go_icmp_ne C 42 dX0_join_35 (by decide) (fun c_35 => ?_) (fun c_35 => ?_)
        · refine go_iconst C (0) dX0_join_42 (by decide) ?_
          refine go_se [.int (go_b (false))] rfl ?_
          exact go_zret C E dX0_join_43 (go_bn _) (by first | contradiction | rfl | (simp [pc_jn, *]; done) | (rw [decide_eq_true (by omega)]; done) | (rw [decide_eq_false (by omega)]; done) | (simp_all [pc_jn]; done) | (simp [pc_jn]; omega) | (simp_all [pc_jn]; omega) | omega) rfl
        · refine go_iconst C (1) dX0_join_38 (by decide) ?_
          refine go_goto C 43 dX0_join_39 (by decide) ?_
          refine go_se [.int (go_b (true))] rfl ?_
          exact go_zret C E dX0_join_43 (go_bn _) (by first | contradiction | rfl | (simp [pc_jn, *]; done) | (rw [decide_eq_true (by omega)]; done) | (rw [decide_eq_false (by omega)]; done) | (simp_all [pc_jn]; done) | (simp [pc_jn]; omega) | (simp_all [pc_jn]; omega) | omega) rfl
set_option maxHeartbeats 4000000 in
set_option maxRecDepth 100000 in
theorem l_X0_toStandardForm_12 {X : go_X} (G : go_G) (rs : va_W) (p0 : Nat) (p1 : Nat) (bl : Nat) (nb : Nat) (Bf : Nat → Int32) (x : Nat) (s : Nat → Int32) (hp0 : rs[p0]? = some (bl, .inr (0, [.ref nb]))) (hp1 : rs[p1]? = some (nb, .inl (G.2.1, 6, .inl Bf)))  {Rr : Option Value} (a : Nat) (fi : Nat → Int32) (ha : a < 6) (C : go_Cx X cX0_toStandardForm RX0 none 5 2 42 0 0 G) (E : go_Ex X Rr ((x, .inl (G.2.1, 6, .inl (pc_sf Bf s))) :: rs)) (K : go_Go X (0, 0) ((x, .inl (G.2.1, 6, .inl fi)) :: rs) [(0, .ref bl), (1, .ref x), (2, .int (nI a))] [] 58) : ∀ (n : Nat) (b : Nat) (t : Nat → Int32) (hin : 6 < b + n) (hb : b ≤ 6) (hab : a < b) (hW : pc_si Bf a n b t = fi), go_Go X (0, 0) ((x, .inl (G.2.1, 6, .inl t)) :: rs) [(0, .ref bl), (1, .ref x), (2, .int (nI a)), (3, .int (nI b))] [] 12 := by
  intro n
  induction n with
  | zero => intro b t hin hb hab hW; omega
  | succ n ih =>
    intro b t hin hb hab hW
    refine go_iload_n C dX0_toStandardForm_12 3 rfl rfl ?_
    refine go_bipush C (6) dX0_toStandardForm_13 (by decide) ?_
    refine go_icmp_geN (a := b) (b := 6) C 58 dX0_toStandardForm_15 (by decide) (by omega) (by omega) (fun c_15 => ?_) (fun c_15 => ?_)
    · refine go_lv [(0, .ref bl), (1, .ref x), (2, .int (nI a))] [0, 1, 2] rfl ?_
      refine go_we ((x, .inl (G.2.1, 6, .inl fi)) :: rs) (by rw [← hW]; simp [pc_si, *]) ?_
      exact K
    · refine go_aload_n C dX0_toStandardForm_18 0 rfl rfl ?_
      refine go_iload_n C dX0_toStandardForm_19 2 rfl rfl ?_
      refine go_iload_n C dX0_toStandardForm_20 3 rfl rfl ?_
      refine go_cV C (c_X0_join G ((x, .inl (G.2.1, 6, .inl t)) :: rs) (p0 + 1) (p1 + 1) bl nb Bf a b hp0 hp1 (by omega) (by omega)) ml_X0_25 mc_X0_join dX0_toStandardForm_21 [] rfl rfl (p0 + 1) hp0 rfl rfl ⟨Nat.le_of_ble_eq_true rfl, Nat.le_of_ble_eq_true rfl, Nat.zero_le _, Nat.zero_le _, Nat.le_of_ble_eq_true rfl⟩ [.int (go_b (pc_jn Bf a b))] rfl ?_
      refine go_if_eqB C 52 dX0_toStandardForm_24 (by decide) (fun c_24 => ?_) (fun c_24 => ?_)
      · refine go_iinc C (nI (b + 1)) [(0, .ref bl), (1, .ref x), (2, .int (nI a)), (3, .int (nI (b + 1)))] dX0_toStandardForm_52 3 [1, 2, 3, 0] rfl (nI_add b 1) (by decide) rfl ?_
        refine go_goto C 12 dX0_toStandardForm_55 (by decide) ?_
        exact ih (b + 1) t (by omega) (by omega) (by omega) (by rw [← hW]; first | contradiction | rfl | (simp [pc_si, pc_sw, *]; done) | (rw [decide_eq_true (by omega)]; done) | (rw [decide_eq_false (by omega)]; done) | (simp_all [pc_si, pc_sw]; done) | (simp [pc_si, pc_sw]; omega) | (simp_all [pc_si, pc_sw]; omega) | omega)
      · refine go_aload_n C dX0_toStandardForm_27 1 rfl rfl ?_
        refine go_iload_n C dX0_toStandardForm_28 2 rfl rfl ?_
        refine go_iald C dX0_toStandardForm_29 0 rfl (a) rfl (by omega) (by decide) ?_
        refine go_aload_n C dX0_toStandardForm_30 1 rfl rfl ?_
        refine go_iload_n C dX0_toStandardForm_31 3 rfl rfl ?_
        refine go_iald C dX0_toStandardForm_32 0 rfl (b) rfl (by omega) (by decide) ?_
        refine go_icmp_le C 52 dX0_toStandardForm_33 (by decide) (fun c_33 => ?_) (fun c_33 => ?_)
        · refine go_iinc C (nI (b + 1)) [(0, .ref bl), (1, .ref x), (2, .int (nI a)), (3, .int (nI (b + 1)))] dX0_toStandardForm_52 3 [1, 2, 3, 0] rfl (nI_add b 1) (by decide) rfl ?_
          refine go_goto C 12 dX0_toStandardForm_55 (by decide) ?_
          exact ih (b + 1) t (by omega) (by omega) (by omega) (by rw [← hW]; first | contradiction | rfl | (simp [pc_si, pc_sw, *]; done) | (rw [decide_eq_true (by omega)]; done) | (rw [decide_eq_false (by omega)]; done) | (simp_all [pc_si, pc_sw]; done) | (simp [pc_si, pc_sw]; omega) | (simp_all [pc_si, pc_sw]; omega) | omega)
        · refine go_aload_n C dX0_toStandardForm_36 1 rfl rfl ?_
          refine go_iload_n C dX0_toStandardForm_37 2 rfl rfl ?_
          refine go_iald C dX0_toStandardForm_38 0 rfl (a) rfl (by omega) (by decide) ?_
          refine go_istore C [(0, .ref bl), (1, .ref x), (2, .int (nI a)), (3, .int (nI b)), (4, .int (t a))] dX0_toStandardForm_39 [1, 2, 3, 4, 0] (by decide) rfl ?_
          refine go_aload_n C dX0_toStandardForm_41 1 rfl rfl ?_
          refine go_iload_n C dX0_toStandardForm_42 2 rfl rfl ?_
          refine go_aload_n C dX0_toStandardForm_43 1 rfl rfl ?_
          refine go_iload_n C dX0_toStandardForm_44 3 rfl rfl ?_
          refine go_iald C dX0_toStandardForm_45 0 rfl (b) rfl (by omega) (by decide) ?_
          refine go_iast C dX0_toStandardForm_46 0 rfl (a) rfl (by omega) (by decide) ((x, .inl (G.2.1, 6, .inl (upd t a (t b)))) :: rs) rfl ?_
          refine go_aload_n C dX0_toStandardForm_47 1 rfl rfl ?_
          refine go_iload_n C dX0_toStandardForm_48 3 rfl rfl ?_
          refine go_iload C dX0_toStandardForm_49 4 rfl ?_
          refine go_iast C dX0_toStandardForm_51 0 rfl (b) rfl (by omega) (by decide) ((x, .inl (G.2.1, 6, .inl (upd (upd t a (t b)) b (t a)))) :: rs) rfl ?_
          refine go_iinc C (nI (b + 1)) [(0, .ref bl), (1, .ref x), (2, .int (nI a)), (3, .int (nI (b + 1))), (4, .int (t a))] dX0_toStandardForm_52 3 [1, 2, 3, 0, 4] rfl (nI_add b 1) (by decide) rfl ?_
          refine go_goto C 12 dX0_toStandardForm_55 (by decide) ?_
          refine go_lv [(0, .ref bl), (1, .ref x), (2, .int (nI a)), (3, .int (nI (b + 1)))] [0, 1, 2, 3] rfl ?_
          exact ih (b + 1) (upd (upd t a (t b)) b (t a)) (by omega) (by omega) (by omega) (by rw [← hW]; first | contradiction | rfl | (simp [pc_si, pc_sw, *]; done) | (rw [decide_eq_true (by omega)]; done) | (rw [decide_eq_false (by omega)]; done) | (simp_all [pc_si, pc_sw]; done) | (simp [pc_si, pc_sw]; omega) | (simp_all [pc_si, pc_sw]; omega) | omega)
set_option maxHeartbeats 4000000 in
set_option maxRecDepth 100000 in
theorem l_X0_toStandardForm_2 {X : go_X} (G : go_G) (rs : va_W) (p0 : Nat) (p1 : Nat) (bl : Nat) (nb : Nat) (Bf : Nat → Int32) (x : Nat) (s : Nat → Int32) (hp0 : rs[p0]? = some (bl, .inr (0, [.ref nb]))) (hp1 : rs[p1]? = some (nb, .inl (G.2.1, 6, .inl Bf)))  {Rr : Option Value}  (C : go_Cx X cX0_toStandardForm RX0 none 5 2 42 0 0 G) (E : go_Ex X Rr ((x, .inl (G.2.1, 6, .inl (pc_sf Bf s))) :: rs)) (K : go_Go X (0, 0) ((x, .inl (G.2.1, 6, .inl (pc_sf Bf s))) :: rs) [(0, .ref bl), (1, .ref x)] [] 64) : ∀ (n : Nat) (a : Nat) (t : Nat → Int32) (hin : 6 < a + n) (ha : a ≤ 6) (hW : pc_so Bf n a t = pc_sf Bf s), go_Go X (0, 0) ((x, .inl (G.2.1, 6, .inl t)) :: rs) [(0, .ref bl), (1, .ref x), (2, .int (nI a))] [] 2 := by
  intro n
  induction n with
  | zero => intro a t hin ha hW; omega
  | succ n ih =>
    intro a t hin ha hW
    refine go_iload_n C dX0_toStandardForm_2 2 rfl rfl ?_
    refine go_bipush C (6) dX0_toStandardForm_3 (by decide) ?_
    refine go_icmp_geN (a := a) (b := 6) C 64 dX0_toStandardForm_5 (by decide) (by omega) (by omega) (fun c_5 => ?_) (fun c_5 => ?_)
    · refine go_lv [(0, .ref bl), (1, .ref x)] [0, 1] rfl ?_
      refine go_we ((x, .inl (G.2.1, 6, .inl (pc_sf Bf s))) :: rs) (by rw [← hW]; simp [pc_so, *]) ?_
      exact K
    · refine go_iload_n C dX0_toStandardForm_8 2 rfl rfl ?_
      refine go_iconst C (1) dX0_toStandardForm_9 (by decide) ?_
      refine go_iadd C (z := nI (a + 1)) dX0_toStandardForm_10 (nI_add a 1) ?_
      refine go_istore_n C [(0, .ref bl), (1, .ref x), (2, .int (nI a)), (3, .int (nI (a + 1)))] dX0_toStandardForm_11 [1, 2, 3, 0] rfl (by decide) rfl ?_
      refine l_X0_toStandardForm_12 G rs p0 p1 bl nb Bf x s hp0 hp1  a (pc_si Bf a 7 (a + 1) t) (by omega) C E ?_ 7 (a + 1) t (by omega) (by omega) (by omega) rfl
      show go_Go X (0, 0) ((x, .inl (G.2.1, 6, .inl (pc_si Bf a 7 (a + 1) t))) :: rs) [(0, .ref bl), (1, .ref x), (2, .int (nI a))] [] 58
      refine go_iinc C (nI (a + 1)) [(0, .ref bl), (1, .ref x), (2, .int (nI (a + 1)))] dX0_toStandardForm_58 2 [1, 2, 0] rfl (nI_add a 1) (by decide) rfl ?_
      refine go_goto C 2 dX0_toStandardForm_61 (by decide) ?_
      exact ih (a + 1) (pc_si Bf a 7 (a + 1) t) (by omega) (by omega) (by rw [← hW]; first | contradiction | rfl | (simp [pc_so, *]; done) | (rw [decide_eq_true (by omega)]; done) | (rw [decide_eq_false (by omega)]; done) | (simp_all [pc_so]; done) | (simp [pc_so]; omega) | (simp_all [pc_so]; omega) | omega)
set_option maxHeartbeats 4000000 in
set_option maxRecDepth 100000 in
theorem c_X0_toStandardForm (G : go_G) (rs : va_W) (p0 : Nat) (p1 : Nat) (bl : Nat) (nb : Nat) (Bf : Nat → Int32) (x : Nat) (s : Nat → Int32) (hp0 : rs[p0]? = some (bl, .inr (0, [.ref nb]))) (hp1 : rs[p1]? = some (nb, .inl (G.2.1, 6, .inl Bf)))  : go_Fn yX0_toStandardForm cX0_toStandardForm 5 none 2 42 G [.ref bl, .ref x] ((x, .inl (G.2.1, 6, .inl s)) :: rs) (none) ((x, .inl (G.2.1, 6, .inl (pc_sf Bf s))) :: rs) := by
  refine go_Fn_of (by decide) (Nat.le_of_ble_eq_true rfl) (fun X C E => ?_)
  show go_Go X (0, 0) ((x, .inl (G.2.1, 6, .inl s)) :: rs) [(0, .ref bl), (1, .ref x)] [] 0
  refine go_iconst C (0) dX0_toStandardForm_0 (by decide) ?_
  refine go_istore_n C [(0, .ref bl), (1, .ref x), (2, .int 0)] dX0_toStandardForm_1 [1, 2, 0] rfl (by decide) rfl ?_
  refine l_X0_toStandardForm_2 G rs p0 p1 bl nb Bf x s hp0 hp1   C E ?_ 7 0 s (by omega) (by omega) rfl
  show go_Go X (0, 0) ((x, .inl (G.2.1, 6, .inl (pc_sf Bf s))) :: rs) [(0, .ref bl), (1, .ref x)] [] 64
  exact go_vret C E dX0_toStandardForm_64 rfl rfl
set_option maxHeartbeats 4000000 in
set_option maxRecDepth 100000 in
theorem c_X2_push (G : go_G) (rs : va_W)  (ma : Nat) (sk : Nat) (h : Nat) (st : Nat → Int32) (x : Int32)  (hh : h < 8) : go_Fn yX2_push cX2_push 2 none 0 0 G [.ref ma, .int x] ((ma, .inr (2, [.ref sk, .int (nI h)])) :: (sk, .inl (G.2.1, 8, .inl st)) :: rs) (none) ((ma, .inr (2, [.ref sk, .int (nI (h + 1))])) :: (sk, .inl (G.2.1, 8, .inl (upd st h x))) :: rs) := by
  refine go_Fn_of (by decide) (Nat.le_of_ble_eq_true rfl) (fun X C E => ?_)
  show go_Go X (0, 0) ((ma, .inr (2, [.ref sk, .int (nI h)])) :: (sk, .inl (G.2.1, 8, .inl st)) :: rs) [(0, .ref ma), (1, .int x)] [] 0
  refine go_aload_n C dX2_push_0 0 rfl rfl ?_
  refine go_get C (v := .int (nI h)) fl_X2_47 dX2_push_1 0 rfl rfl ?_
  refine go_if_ltN C 36 dX2_push_4 (by decide) (by omega) ?_
  refine go_aload_n C dX2_push_7 0 rfl rfl ?_
  refine go_get C (v := .int (nI h)) fl_X2_47 dX2_push_8 0 rfl rfl ?_
  refine go_bipush C (8) dX2_push_11 (by decide) ?_
  refine go_icmp_geN (a := h) (b := 8) C 36 dX2_push_13 (by decide) (by omega) (by omega) (fun c_13 => ?_) (fun c_13 => ?_)
  · omega
  · refine go_aload_n C dX2_push_16 0 rfl rfl ?_
    refine go_get C (v := .ref sk) fl_X2_9 dX2_push_17 0 rfl rfl ?_
    refine go_aload_n C dX2_push_20 0 rfl rfl ?_
    refine go_get C (v := .int (nI h)) fl_X2_47 dX2_push_21 0 rfl rfl ?_
    refine go_iload_n C dX2_push_24 1 rfl rfl ?_
    refine go_iast C dX2_push_25 1 rfl (h) rfl (by omega) (by decide) ((ma, .inr (2, [.ref sk, .int (nI h)])) :: (sk, .inl (G.2.1, 8, .inl (upd st h x))) :: rs) rfl ?_
    refine go_aload_n C dX2_push_26 0 rfl rfl ?_
    refine go_dup C dX2_push_27 rfl ?_
    refine go_get C (v := .int (nI h)) fl_X2_47 dX2_push_28 0 rfl rfl ?_
    refine go_iconst C (1) dX2_push_31 (by decide) ?_
    refine go_iadd C (z := nI (h + 1)) dX2_push_32 (nI_add h 1) ?_
    refine go_put C fp_X2_47 dX2_push_33 0 rfl rfl rfl (Nat.le_of_ble_eq_true rfl) ((ma, .inr (2, [.ref sk, .int (nI (h + 1))])) :: (sk, .inl (G.2.1, 8, .inl (upd st h x))) :: rs) rfl ?_
    exact go_vret C E dX2_push_36 rfl rfl
set_option maxHeartbeats 4000000 in
set_option maxRecDepth 100000 in
theorem c_X2_pop (G : go_G) (rs : va_W)  (ma : Nat) (sk : Nat) (h : Nat) (st : Nat → Int32)  (h1 : 1 ≤ h) (h8 : h ≤ 8) : go_Fn yX2_pop cX2_pop 1 (some .int) 0 0 G [.ref ma] ((ma, .inr (2, [.ref sk, .int (nI h)])) :: (sk, .inl (G.2.1, 8, .inl st)) :: rs) (some (.int (st (h - 1)))) ((ma, .inr (2, [.ref sk, .int (nI (h - 1))])) :: (sk, .inl (G.2.1, 8, .inl st)) :: rs) := by
  refine go_Fn_of (by decide) (Nat.le_of_ble_eq_true rfl) (fun X C E => ?_)
  show go_Go X (0, 0) ((ma, .inr (2, [.ref sk, .int (nI h)])) :: (sk, .inl (G.2.1, 8, .inl st)) :: rs) [(0, .ref ma)] [] 0
  refine go_aload_n C dX2_pop_0 0 rfl rfl ?_
  refine go_get C (v := .int (nI h)) fl_X2_47 dX2_pop_1 0 rfl rfl ?_
  refine go_iconst C (1) dX2_pop_4 (by decide) ?_
  refine go_icmp_ltN (a := h) (b := 1) C 17 dX2_pop_5 (by decide) (by omega) (by omega) (fun c_5 => ?_) (fun c_5 => ?_)
  · omega
  · refine go_aload_n C dX2_pop_8 0 rfl rfl ?_
    refine go_get C (v := .int (nI h)) fl_X2_47 dX2_pop_9 0 rfl rfl ?_
    refine go_bipush C (8) dX2_pop_12 (by decide) ?_
    refine go_icmp_leN (a := h) (b := 8) C 19 dX2_pop_14 (by decide) (by omega) (by omega) (fun c_14 => ?_) (fun c_14 => ?_)
    · refine go_aload_n C dX2_pop_19 0 rfl rfl ?_
      refine go_dup C dX2_pop_20 rfl ?_
      refine go_get C (v := .int (nI h)) fl_X2_47 dX2_pop_21 0 rfl rfl ?_
      refine go_iconst C (1) dX2_pop_24 (by decide) ?_
      refine go_isub C (z := nI (h - 1)) dX2_pop_25 (pk_sub (a := h) (b := 1) (by omega)) ?_
      refine go_put C fp_X2_47 dX2_pop_26 0 rfl rfl rfl (Nat.le_of_ble_eq_true rfl) ((ma, .inr (2, [.ref sk, .int (nI (h - 1))])) :: (sk, .inl (G.2.1, 8, .inl st)) :: rs) rfl ?_
      refine go_aload_n C dX2_pop_29 0 rfl rfl ?_
      refine go_get C (v := .ref sk) fl_X2_9 dX2_pop_30 0 rfl rfl ?_
      refine go_aload_n C dX2_pop_33 0 rfl rfl ?_
      refine go_get C (v := .int (nI (h - 1))) fl_X2_47 dX2_pop_34 0 rfl rfl ?_
      refine go_iald C dX2_pop_37 1 rfl (h - 1) rfl (by omega) (by decide) ?_
      exact go_iret C E dX2_pop_38 rfl rfl
    · omega
set_option maxHeartbeats 4000000 in
set_option maxRecDepth 100000 in
theorem c_X2_pop0 (G : go_G) (rs : va_W)  (ma : Nat) (sk : Nat) (h : Nat) (st : Nat → Int32)  (h0 : h = 0) : go_Fn yX2_pop cX2_pop 1 (some .int) 0 0 G [.ref ma] ((ma, .inr (2, [.ref sk, .int (nI h)])) :: (sk, .inl (G.2.1, 8, .inl st)) :: rs) (some (.int 0)) ((ma, .inr (2, [.ref sk, .int (nI h)])) :: (sk, .inl (G.2.1, 8, .inl st)) :: rs) := by
  refine go_Fn_of (by decide) (Nat.le_of_ble_eq_true rfl) (fun X C E => ?_)
  show go_Go X (0, 0) ((ma, .inr (2, [.ref sk, .int (nI h)])) :: (sk, .inl (G.2.1, 8, .inl st)) :: rs) [(0, .ref ma)] [] 0
  refine go_aload_n C dX2_pop_0 0 rfl rfl ?_
  refine go_get C (v := .int (nI h)) fl_X2_47 dX2_pop_1 0 rfl rfl ?_
  refine go_iconst C (1) dX2_pop_4 (by decide) ?_
  refine go_icmp_ltN (a := h) (b := 1) C 17 dX2_pop_5 (by decide) (by omega) (by omega) (fun c_5 => ?_) (fun c_5 => ?_)
  · refine go_iconst C (0) dX2_pop_17 (by decide) ?_
    exact go_iret C E dX2_pop_18 rfl rfl
  · omega
set_option maxHeartbeats 4000000 in
set_option maxRecDepth 100000 in
theorem c_X2_joined (G : go_G) (rs : va_W)  (o : Int32) (x : Int32) (y : Int32)  (ho : pc_bo o) : go_Fn yX2_joined cX2_joined 3 (some .int) 0 0 G [.int o, .int x, .int y] rs (some (.int (pc_bin o x y))) rs := by
  refine go_Fn_of (by decide) (Nat.le_of_ble_eq_true rfl) (fun X C E => ?_)
  show go_Go X (0, 0) rs [(0, .int o), (1, .int x), (2, .int y)] [] 0
  refine go_iload_n C dX2_joined_0 0 rfl rfl ?_
  rcases ho with rfl | rfl | rfl | rfl | rfl | rfl | rfl
  · refine go_table C (off := 43) 44 dX2_joined_1 (by decide) (by decide) (by decide) (by decide) ?_
    refine go_iload_n C dX2_joined_44 1 rfl rfl ?_
    refine go_iload_n C dX2_joined_45 2 rfl rfl ?_
    refine go_iadd C (z := x + y) dX2_joined_46 rfl ?_
    exact go_iret C E dX2_joined_47 (by first | contradiction | rfl | (simp [pc_bin, *]; done) | (rw [decide_eq_true (by omega)]; done) | (rw [decide_eq_false (by omega)]; done) | (simp_all [pc_bin]; done) | (simp [pc_bin]; omega) | (simp_all [pc_bin]; omega) | omega) rfl
  · refine go_table C (off := 47) 48 dX2_joined_1 (by decide) (by decide) (by decide) (by decide) ?_
    refine go_iload_n C dX2_joined_48 1 rfl rfl ?_
    refine go_iload_n C dX2_joined_49 2 rfl rfl ?_
    refine go_isub C (z := x - y) dX2_joined_50 rfl ?_
    exact go_iret C E dX2_joined_51 (by first | contradiction | rfl | (simp [pc_bin, *]; done) | (rw [decide_eq_true (by omega)]; done) | (rw [decide_eq_false (by omega)]; done) | (simp_all [pc_bin]; done) | (simp [pc_bin]; omega) | (simp_all [pc_bin]; omega) | omega) rfl
  · refine go_table C (off := 51) 52 dX2_joined_1 (by decide) (by decide) (by decide) (by decide) ?_
    refine go_iload_n C dX2_joined_52 1 rfl rfl ?_
    refine go_iload_n C dX2_joined_53 2 rfl rfl ?_
    refine go_imul C (z := x * y) dX2_joined_54 rfl ?_
    exact go_iret C E dX2_joined_55 (by first | contradiction | rfl | (simp [pc_bin, *]; done) | (rw [decide_eq_true (by omega)]; done) | (rw [decide_eq_false (by omega)]; done) | (simp_all [pc_bin]; done) | (simp [pc_bin]; omega) | (simp_all [pc_bin]; omega) | omega) rfl
  · refine go_table C (off := 55) 56 dX2_joined_1 (by decide) (by decide) (by decide) (by decide) ?_
    refine go_iload_n C dX2_joined_56 1 rfl rfl ?_
    refine go_iload_n C dX2_joined_57 2 rfl rfl ?_
    refine go_icmp_ne C 65 dX2_joined_58 (by decide) (fun c_58 => ?_) (fun c_58 => ?_)
    · refine go_iconst C (0) dX2_joined_65 (by decide) ?_
      exact go_iret C E dX2_joined_66 (by first | contradiction | rfl | (simp [pc_bin, *]; done) | (rw [decide_eq_true (by omega)]; done) | (rw [decide_eq_false (by omega)]; done) | (simp_all [pc_bin]; done) | (simp [pc_bin]; omega) | (simp_all [pc_bin]; omega) | omega) rfl
    · refine go_iconst C (1) dX2_joined_61 (by decide) ?_
      refine go_goto C 66 dX2_joined_62 (by decide) ?_
      exact go_iret C E dX2_joined_66 (by first | contradiction | rfl | (simp [pc_bin, *]; done) | (rw [decide_eq_true (by omega)]; done) | (rw [decide_eq_false (by omega)]; done) | (simp_all [pc_bin]; done) | (simp [pc_bin]; omega) | (simp_all [pc_bin]; omega) | omega) rfl
  · refine go_table C (off := 66) 67 dX2_joined_1 (by decide) (by decide) (by decide) (by decide) ?_
    refine go_iload_n C dX2_joined_67 1 rfl rfl ?_
    refine go_iload_n C dX2_joined_68 2 rfl rfl ?_
    refine go_icmp_ge C 76 dX2_joined_69 (by decide) (fun c_69 => ?_) (fun c_69 => ?_)
    · refine go_iconst C (0) dX2_joined_76 (by decide) ?_
      exact go_iret C E dX2_joined_77 (by first | contradiction | rfl | (simp [pc_bin, *]; done) | (rw [decide_eq_true (by omega)]; done) | (rw [decide_eq_false (by omega)]; done) | (simp_all [pc_bin]; done) | (simp [pc_bin]; omega) | (simp_all [pc_bin]; omega) | omega) rfl
    · refine go_iconst C (1) dX2_joined_72 (by decide) ?_
      refine go_goto C 77 dX2_joined_73 (by decide) ?_
      exact go_iret C E dX2_joined_77 (by first | contradiction | rfl | (simp [pc_bin, *]; done) | (rw [decide_eq_true (by omega)]; done) | (rw [decide_eq_false (by omega)]; done) | (simp_all [pc_bin]; done) | (simp [pc_bin]; omega) | (simp_all [pc_bin]; omega) | omega) rfl
  · refine go_table C (off := 77) 78 dX2_joined_1 (by decide) (by decide) (by decide) (by decide) ?_
    refine go_iload_n C dX2_joined_78 1 rfl rfl ?_
    refine go_iload_n C dX2_joined_79 2 rfl rfl ?_
    refine go_iand C (z := x &&& y) dX2_joined_80 rfl ?_
    exact go_iret C E dX2_joined_81 (by first | contradiction | rfl | (simp [pc_bin, *]; done) | (rw [decide_eq_true (by omega)]; done) | (rw [decide_eq_false (by omega)]; done) | (simp_all [pc_bin]; done) | (simp [pc_bin]; omega) | (simp_all [pc_bin]; omega) | omega) rfl
  · refine go_table C (off := 81) 82 dX2_joined_1 (by decide) (by decide) (by decide) (by decide) ?_
    refine go_iload_n C dX2_joined_82 1 rfl rfl ?_
    refine go_iload_n C dX2_joined_83 2 rfl rfl ?_
    refine go_ior C (z := x ||| y) dX2_joined_84 rfl ?_
    exact go_iret C E dX2_joined_85 (by first | contradiction | rfl | (simp [pc_bin, *]; done) | (rw [decide_eq_true (by omega)]; done) | (rw [decide_eq_false (by omega)]; done) | (simp_all [pc_bin]; done) | (simp [pc_bin]; omega) | (simp_all [pc_bin]; omega) | omega) rfl
set_option maxHeartbeats 4000000 in
set_option maxRecDepth 100000 in
theorem c_X2_step (G : go_G) (rs : va_W) (p0 : Nat) (ma : Nat) (sk : Nat) (h : Nat) (st : Nat → Int32) (bf : Nat) (b : Nat → Int32) (af : Nat) (w : Int32) (hp0 : rs[p0]? = some (bf, .inl (G.2.1, 6, .inl b))) (ok : pc_okw h w) : go_Fn yX2_step cX2_step 8 none 1 22 G [.ref ma, .int w, .ref bf, .ref af] ((ma, .inr (2, [.ref sk, .int (nI h)])) :: (sk, .inl (G.2.1, 8, .inl st)) :: rs) (none) ((ma, .inr (2, [.ref sk, .int (nI (pc_hw h w))])) :: (sk, .inl (G.2.1, 8, .inl (pc_s1 b h st w))) :: rs) := by
  refine go_Fn_of (by decide) (Nat.le_of_ble_eq_true rfl) (fun X C E => ?_)
  show go_Go X (0, 0) ((ma, .inr (2, [.ref sk, .int (nI h)])) :: (sk, .inl (G.2.1, 8, .inl st)) :: rs) [(0, .ref ma), (1, .int w), (2, .ref bf), (3, .ref af)] [] 0
  refine go_iload_n C dX2_step_0 1 rfl rfl ?_
  refine go_cS C (c_X6_op G ((ma, .inr (2, [.ref sk, .int (nI h)])) :: (sk, .inl (G.2.1, 8, .inl st)) :: rs)  w  ) ml_X2_61 mc_X6_op dX2_step_1 [] rfl rfl rfl ⟨Nat.le_of_ble_eq_true rfl, Nat.le_of_ble_eq_true rfl, Nat.zero_le _, Nat.zero_le _, Nat.le_of_ble_eq_true rfl⟩ [.int (pc_op w)] rfl ?_
  refine go_istore C [(0, .ref ma), (1, .int w), (2, .ref bf), (3, .ref af), (4, .int (pc_op w))] dX2_step_4 [1, 2, 3, 4, 0] (by decide) rfl ?_
  refine go_iload_n C dX2_step_6 1 rfl rfl ?_
  refine go_cS C (c_X6_operand G ((ma, .inr (2, [.ref sk, .int (nI h)])) :: (sk, .inl (G.2.1, 8, .inl st)) :: rs)  w  ) ml_X2_66 mc_X6_operand dX2_step_7 [] rfl rfl rfl ⟨Nat.le_of_ble_eq_true rfl, Nat.le_of_ble_eq_true rfl, Nat.zero_le _, Nat.zero_le _, Nat.le_of_ble_eq_true rfl⟩ [.int (pc_k w)] rfl ?_
  refine go_istore C [(0, .ref ma), (1, .int w), (2, .ref bf), (3, .ref af), (4, .int (pc_op w)), (5, .int (pc_k w))] dX2_step_10 [1, 2, 3, 4, 5, 0] (by decide) rfl ?_
  refine go_iload C dX2_step_12 4 rfl ?_
  refine go_if_ne C 26 dX2_step_14 (by decide) (fun c_14 => ?_) (fun c_14 => ?_)
  · refine go_iload C dX2_step_26 4 rfl ?_
    refine go_iconst C (1) dX2_step_28 (by decide) ?_
    refine go_icmp_ne C 55 dX2_step_29 (by decide) (fun c_29 => ?_) (fun c_29 => ?_)
    · refine go_iload C dX2_step_55 4 rfl ?_
      refine go_bipush C (9) dX2_step_57 (by decide) ?_
      refine go_icmp_ne C 81 dX2_step_59 (by decide) (fun c_59 => ?_) (fun c_59 => ?_)
      · obtain ⟨ho, hx, hy⟩ := pc_okw_b ok c_14 c_29 c_59
        refine go_iload C dX2_step_81 4 rfl ?_
        refine go_bipush C (11) dX2_step_83 (by decide) ?_
        refine go_icmp_ne C 111 dX2_step_85 (by decide) (fun c_85 => ?_) (fun c_85 => ?_)
        · refine go_aload_n C dX2_step_111 0 rfl rfl ?_
          refine go_cV C (c_X2_pop G rs  ma sk h st  (by omega) (by omega)) ml_X2_58 mc_X2_pop dX2_step_112 [] rfl rfl 0 rfl rfl rfl ⟨Nat.le_of_ble_eq_true rfl, Nat.le_of_ble_eq_true rfl, Nat.zero_le _, Nat.zero_le _, Nat.le_of_ble_eq_true rfl⟩ [.int (st (h - 1))] rfl ?_
          refine go_istore C [(0, .ref ma), (1, .int w), (2, .ref bf), (3, .ref af), (4, .int (pc_op w)), (5, .int (pc_k w)), (6, .int (st (h - 1)))] dX2_step_115 [1, 2, 3, 4, 5, 6, 0] (by decide) rfl ?_
          refine go_aload_n C dX2_step_117 0 rfl rfl ?_
          refine go_cV C (c_X2_pop G rs  ma sk (h - 1) st  (by omega) (by omega)) ml_X2_58 mc_X2_pop dX2_step_118 [] rfl rfl 0 rfl rfl rfl ⟨Nat.le_of_ble_eq_true rfl, Nat.le_of_ble_eq_true rfl, Nat.zero_le _, Nat.zero_le _, Nat.le_of_ble_eq_true rfl⟩ [.int (st ((h - 1) - 1))] rfl ?_
          refine go_istore C [(0, .ref ma), (1, .int w), (2, .ref bf), (3, .ref af), (4, .int (pc_op w)), (5, .int (pc_k w)), (6, .int (st (h - 1))), (7, .int (st ((h - 1) - 1)))] dX2_step_121 [1, 2, 3, 4, 5, 6, 7, 0] (by decide) rfl ?_
          refine go_aload_n C dX2_step_123 0 rfl rfl ?_
          refine go_iload C dX2_step_124 4 rfl ?_
          refine go_iload C dX2_step_126 7 rfl ?_
          refine go_iload C dX2_step_128 6 rfl ?_
          refine go_cS C (c_X2_joined G ((ma, .inr (2, [.ref sk, .int (nI ((h - 1) - 1))])) :: (sk, .inl (G.2.1, 8, .inl st)) :: rs)  (pc_op w) (st ((h - 1) - 1)) (st (h - 1))  ho) ml_X2_76 mc_X2_joined dX2_step_130 [.ref ma] rfl rfl rfl ⟨Nat.le_of_ble_eq_true rfl, Nat.le_of_ble_eq_true rfl, Nat.zero_le _, Nat.zero_le _, Nat.le_of_ble_eq_true rfl⟩ [.int (pc_bin (pc_op w) (st ((h - 1) - 1)) (st (h - 1))), .ref ma] rfl ?_
          refine go_cV C (c_X2_push G rs  ma sk ((h - 1) - 1) st (pc_bin (pc_op w) (st ((h - 1) - 1)) (st (h - 1)))  (by omega)) ml_X2_69 mc_X2_push dX2_step_133 [] rfl rfl 0 rfl rfl rfl ⟨Nat.le_of_ble_eq_true rfl, Nat.le_of_ble_eq_true rfl, Nat.zero_le _, Nat.zero_le _, Nat.le_of_ble_eq_true rfl⟩ [] rfl ?_
          exact go_vret C E dX2_step_136 rfl (by first | (simp [pc_hw, pc_s1, *]; done) | (simp [pc_hw, pc_s1, *]; congr 1; omega))
        · exact absurd c_85 (pc_bo_11 ho)
      · obtain ⟨hx, hy⟩ := pc_okw_9 ok c_59
        refine go_aload_n C dX2_step_62 0 rfl rfl ?_
        refine go_aload_n C dX2_step_63 0 rfl rfl ?_
        refine go_cV C (c_X2_pop G rs  ma sk h st  (by omega) (by omega)) ml_X2_58 mc_X2_pop dX2_step_64 [.ref ma] rfl rfl 0 rfl rfl rfl ⟨Nat.le_of_ble_eq_true rfl, Nat.le_of_ble_eq_true rfl, Nat.zero_le _, Nat.zero_le _, Nat.le_of_ble_eq_true rfl⟩ [.int (st (h - 1)), .ref ma] rfl ?_
        refine go_if_ne C 74 dX2_step_67 (by decide) (fun c_67 => ?_) (fun c_67 => ?_)
        · refine go_iconst C (0) dX2_step_74 (by decide) ?_
          refine go_cV C (c_X2_push G rs  ma sk (h - 1) st 0  (by omega)) ml_X2_69 mc_X2_push dX2_step_75 [] rfl rfl 0 rfl rfl rfl ⟨Nat.le_of_ble_eq_true rfl, Nat.le_of_ble_eq_true rfl, Nat.zero_le _, Nat.zero_le _, Nat.le_of_ble_eq_true rfl⟩ [] rfl ?_
          refine go_goto C 136 dX2_step_78 (by decide) ?_
          exact go_vret C E dX2_step_136 rfl (by first | (simp [pc_hw, pc_s1, *]; done) | (simp [pc_hw, pc_s1, *]; congr 1; omega))
        · refine go_iconst C (1) dX2_step_70 (by decide) ?_
          refine go_goto C 75 dX2_step_71 (by decide) ?_
          refine go_cV C (c_X2_push G rs  ma sk (h - 1) st 1  (by omega)) ml_X2_69 mc_X2_push dX2_step_75 [] rfl rfl 0 rfl rfl rfl ⟨Nat.le_of_ble_eq_true rfl, Nat.le_of_ble_eq_true rfl, Nat.zero_le _, Nat.zero_le _, Nat.le_of_ble_eq_true rfl⟩ [] rfl ?_
          refine go_goto C 136 dX2_step_78 (by decide) ?_
          exact go_vret C E dX2_step_136 rfl (by first | (simp [pc_hw, pc_s1, *]; done) | (simp [pc_hw, pc_s1, *]; congr 1; omega))
    · obtain ⟨hx, hk⟩ := pc_okw_1 ok c_29
      refine go_aload_n C dX2_step_32 0 rfl rfl ?_
      refine go_iload C dX2_step_33 5 rfl ?_
      refine go_cN C (c_X8_isVariable G ((ma, .inr (2, [.ref sk, .int (nI h)])) :: (sk, .inl (G.2.1, 8, .inl st)) :: rs)  (pc_k w)  ) ml_X2_73 mc_X8_isVariable dX2_step_35 [.ref ma] rfl rfl rfl ⟨Nat.le_of_ble_eq_true rfl, Nat.le_of_ble_eq_true rfl, Nat.zero_le _, Nat.zero_le _, Nat.le_of_ble_eq_true rfl⟩ [.int (go_b (pc_isV (pc_k w))), .ref ma] rfl ?_
      refine go_if_eqB C 48 dX2_step_38 (by decide) (fun c_38 => ?_) (fun c_38 => ?_)
      · rw [hk] at c_38; cases c_38
      · refine go_aload_n C dX2_step_41 2 rfl rfl ?_
        refine go_iload C dX2_step_42 5 rfl ?_
        refine go_iald C dX2_step_44 (p0 + 2) hp0 ((pc_k w).toNatClampNeg) (pc_isV_nI hk).1 (pc_isV_nI hk).2 (by decide) ?_
        refine go_goto C 49 dX2_step_45 (by decide) ?_
        refine go_cV C (c_X2_push G rs  ma sk h st (b ((pc_k w).toNatClampNeg))  (by omega)) ml_X2_69 mc_X2_push dX2_step_49 [] rfl rfl 0 rfl rfl rfl ⟨Nat.le_of_ble_eq_true rfl, Nat.le_of_ble_eq_true rfl, Nat.zero_le _, Nat.zero_le _, Nat.le_of_ble_eq_true rfl⟩ [] rfl ?_
        refine go_goto C 136 dX2_step_52 (by decide) ?_
        exact go_vret C E dX2_step_136 rfl (by first | (simp [pc_hw, pc_s1, *]; done) | (simp [pc_hw, pc_s1, *]; congr 1; omega))
  · have hx := pc_okw_0 ok c_14
    refine go_aload_n C dX2_step_17 0 rfl rfl ?_
    refine go_iload C dX2_step_18 5 rfl ?_
    refine go_cV C (c_X2_push G rs  ma sk h st (pc_k w)  (by omega)) ml_X2_69 mc_X2_push dX2_step_20 [] rfl rfl 0 rfl rfl rfl ⟨Nat.le_of_ble_eq_true rfl, Nat.le_of_ble_eq_true rfl, Nat.zero_le _, Nat.zero_le _, Nat.le_of_ble_eq_true rfl⟩ [] rfl ?_
    refine go_goto C 136 dX2_step_23 (by decide) ?_
    exact go_vret C E dX2_step_136 rfl (by first | (simp [pc_hw, pc_s1, *]; done) | (simp [pc_hw, pc_s1, *]; congr 1; omega))
set_option maxHeartbeats 4000000 in
set_option maxRecDepth 100000 in
theorem c_X2_stepS (G : go_G) (rs : va_W)  (ma : Nat) (sk : Nat) (h : Nat) (st : Nat → Int32) (bf : Nat) (af : Nat) (a : Nat → Int32) (w : Int32)  (e11 : pc_op w = 11) (hk : pc_isV (pc_k w) = true) (h1 : 1 ≤ h) (h8 : h ≤ 8) : go_Fn yX2_step cX2_step 8 none 1 22 G [.ref ma, .int w, .ref bf, .ref af] ((ma, .inr (2, [.ref sk, .int (nI h)])) :: (sk, .inl (G.2.1, 8, .inl st)) :: (af, .inl (G.2.1, 6, .inl a)) :: rs) (none) ((ma, .inr (2, [.ref sk, .int (nI (h - 1))])) :: (sk, .inl (G.2.1, 8, .inl st)) :: (af, .inl (G.2.1, 6, .inl (upd a (pc_k w).toNatClampNeg (st (h - 1))))) :: rs) := by
  refine go_Fn_of (by decide) (Nat.le_of_ble_eq_true rfl) (fun X C E => ?_)
  show go_Go X (0, 0) ((ma, .inr (2, [.ref sk, .int (nI h)])) :: (sk, .inl (G.2.1, 8, .inl st)) :: (af, .inl (G.2.1, 6, .inl a)) :: rs) [(0, .ref ma), (1, .int w), (2, .ref bf), (3, .ref af)] [] 0
  refine go_iload_n C dX2_step_0 1 rfl rfl ?_
  refine go_cS C (c_X6_op G ((ma, .inr (2, [.ref sk, .int (nI h)])) :: (sk, .inl (G.2.1, 8, .inl st)) :: (af, .inl (G.2.1, 6, .inl a)) :: rs)  w  ) ml_X2_61 mc_X6_op dX2_step_1 [] rfl rfl rfl ⟨Nat.le_of_ble_eq_true rfl, Nat.le_of_ble_eq_true rfl, Nat.zero_le _, Nat.zero_le _, Nat.le_of_ble_eq_true rfl⟩ [.int (pc_op w)] rfl ?_
  refine go_istore C [(0, .ref ma), (1, .int w), (2, .ref bf), (3, .ref af), (4, .int (pc_op w))] dX2_step_4 [1, 2, 3, 4, 0] (by decide) rfl ?_
  refine go_iload_n C dX2_step_6 1 rfl rfl ?_
  refine go_cS C (c_X6_operand G ((ma, .inr (2, [.ref sk, .int (nI h)])) :: (sk, .inl (G.2.1, 8, .inl st)) :: (af, .inl (G.2.1, 6, .inl a)) :: rs)  w  ) ml_X2_66 mc_X6_operand dX2_step_7 [] rfl rfl rfl ⟨Nat.le_of_ble_eq_true rfl, Nat.le_of_ble_eq_true rfl, Nat.zero_le _, Nat.zero_le _, Nat.le_of_ble_eq_true rfl⟩ [.int (pc_k w)] rfl ?_
  refine go_istore C [(0, .ref ma), (1, .int w), (2, .ref bf), (3, .ref af), (4, .int (pc_op w)), (5, .int (pc_k w))] dX2_step_10 [1, 2, 3, 4, 5, 0] (by decide) rfl ?_
  refine go_iload C dX2_step_12 4 rfl ?_
  refine go_if_ne C 26 dX2_step_14 (by decide) (fun c_14 => ?_) (fun c_14 => ?_)
  · refine go_iload C dX2_step_26 4 rfl ?_
    refine go_iconst C (1) dX2_step_28 (by decide) ?_
    refine go_icmp_ne C 55 dX2_step_29 (by decide) (fun c_29 => ?_) (fun c_29 => ?_)
    · refine go_iload C dX2_step_55 4 rfl ?_
      refine go_bipush C (9) dX2_step_57 (by decide) ?_
      refine go_icmp_ne C 81 dX2_step_59 (by decide) (fun c_59 => ?_) (fun c_59 => ?_)
      · refine go_iload C dX2_step_81 4 rfl ?_
        refine go_bipush C (11) dX2_step_83 (by decide) ?_
        refine go_icmp_ne C 111 dX2_step_85 (by decide) (fun c_85 => ?_) (fun c_85 => ?_)
        · exact absurd e11 c_85
        · refine go_aload_n C dX2_step_88 0 rfl rfl ?_
          refine go_cV C (c_X2_pop G ((af, .inl (G.2.1, 6, .inl a)) :: rs)  ma sk h st  (by omega) (by omega)) ml_X2_58 mc_X2_pop dX2_step_89 [] rfl rfl 0 rfl rfl rfl ⟨Nat.le_of_ble_eq_true rfl, Nat.le_of_ble_eq_true rfl, Nat.zero_le _, Nat.zero_le _, Nat.le_of_ble_eq_true rfl⟩ [.int (st (h - 1))] rfl ?_
          refine go_istore C [(0, .ref ma), (1, .int w), (2, .ref bf), (3, .ref af), (4, .int (pc_op w)), (5, .int (pc_k w)), (6, .int (st (h - 1)))] dX2_step_92 [1, 2, 3, 4, 5, 6, 0] (by decide) rfl ?_
          refine go_iload C dX2_step_94 5 rfl ?_
          refine go_cN C (c_X8_isVariable G ((ma, .inr (2, [.ref sk, .int (nI (h - 1))])) :: (sk, .inl (G.2.1, 8, .inl st)) :: (af, .inl (G.2.1, 6, .inl a)) :: rs)  (pc_k w)  ) ml_X2_73 mc_X8_isVariable dX2_step_96 [] rfl rfl rfl ⟨Nat.le_of_ble_eq_true rfl, Nat.le_of_ble_eq_true rfl, Nat.zero_le _, Nat.zero_le _, Nat.le_of_ble_eq_true rfl⟩ [.int (go_b (pc_isV (pc_k w)))] rfl ?_
          refine go_if_eqB C 108 dX2_step_99 (by decide) (fun c_99 => ?_) (fun c_99 => ?_)
          · rw [hk] at c_99; cases c_99
          · refine go_aload_n C dX2_step_102 3 rfl rfl ?_
            refine go_iload C dX2_step_103 5 rfl ?_
            refine go_iload C dX2_step_105 6 rfl ?_
            refine go_iast C dX2_step_107 2 rfl ((pc_k w).toNatClampNeg) (pc_isV_nI hk).1 (pc_isV_nI hk).2 (by decide) ((ma, .inr (2, [.ref sk, .int (nI (h - 1))])) :: (sk, .inl (G.2.1, 8, .inl st)) :: (af, .inl (G.2.1, 6, .inl (upd a ((pc_k w).toNatClampNeg) (st (h - 1))))) :: rs) rfl ?_
            refine go_goto C 136 dX2_step_108 (by decide) ?_
            exact go_vret C E dX2_step_136 rfl rfl
      · exact absurd c_59 (by rw [e11]; decide)
    · exact absurd c_29 (by rw [e11]; decide)
  · exact absurd c_14 (by rw [e11]; decide)
