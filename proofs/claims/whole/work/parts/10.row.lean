set_option maxHeartbeats 4000000 in
set_option maxRecDepth 100000 in
theorem c_X8_isVariable (G : go_G) (rs : va_W)  (v : Int32)   : go_Fn yX8_isVariable cX8_isVariable 1 (some .boolean) 0 0 G [.int v] rs (some (.int (go_b (pc_isV v)))) rs := by
  refine go_Fn_of (by decide) (Nat.le_of_ble_eq_true rfl) (fun X C E => ?_)
  show go_Go X (0, 0) rs [(0, .int v)] [] 0
  refine go_iload_n C dX8_isVariable_0 0 rfl rfl ?_
  refine go_if_lt C 14 dX8_isVariable_1 (by decide) (fun c_1 => ?_) (fun c_1 => ?_)
  · refine go_iconst C (0) dX8_isVariable_14 (by decide) ?_
    refine go_se [.int (go_b (false))] rfl ?_
    exact go_zret C E dX8_isVariable_15 (go_bn _) (by first | contradiction | rfl | (simp [pc_isV, *]; done) | (rw [decide_eq_true (by omega)]; done) | (rw [decide_eq_false (by omega)]; done) | (simp_all [pc_isV]; done) | (simp [pc_isV]; omega) | (simp_all [pc_isV]; omega) | omega) rfl
  · refine go_iload_n C dX8_isVariable_4 0 rfl rfl ?_
    refine go_bipush C (6) dX8_isVariable_5 (by decide) ?_
    refine go_icmp_ge C 14 dX8_isVariable_7 (by decide) (fun c_7 => ?_) (fun c_7 => ?_)
    · refine go_iconst C (0) dX8_isVariable_14 (by decide) ?_
      refine go_se [.int (go_b (false))] rfl ?_
      exact go_zret C E dX8_isVariable_15 (go_bn _) (by first | contradiction | rfl | (simp [pc_isV, *]; done) | (rw [decide_eq_true (by omega)]; done) | (rw [decide_eq_false (by omega)]; done) | (simp_all [pc_isV]; done) | (simp [pc_isV]; omega) | (simp_all [pc_isV]; omega) | omega) rfl
    · refine go_iconst C (1) dX8_isVariable_10 (by decide) ?_
      refine go_goto C 15 dX8_isVariable_11 (by decide) ?_
      refine go_se [.int (go_b (true))] rfl ?_
      exact go_zret C E dX8_isVariable_15 (go_bn _) (by first | contradiction | rfl | (simp [pc_isV, *]; done) | (rw [decide_eq_true (by omega)]; done) | (rw [decide_eq_false (by omega)]; done) | (simp_all [pc_isV]; done) | (simp [pc_isV]; omega) | (simp_all [pc_isV]; omega) | omega) rfl
set_option maxHeartbeats 4000000 in
set_option maxRecDepth 100000 in
theorem c_X6_op (G : go_G) (rs : va_W)  (w : Int32)   : go_Fn yX6_op cX6_op 1 (some .int) 0 0 G [.int w] rs (some (.int (pc_op w))) rs := by
  refine go_Fn_of (by decide) (Nat.le_of_ble_eq_true rfl) (fun X C E => ?_)
  show go_Go X (0, 0) rs [(0, .int w)] [] 0
  refine go_iload_n C dX6_op_0 0 rfl rfl ?_
  refine go_sipush C (255) dX6_op_1 (by decide) ?_
  refine go_iand C (z := w &&& 255) dX6_op_4 rfl ?_
  exact go_iret C E dX6_op_5 rfl rfl
set_option maxHeartbeats 4000000 in
set_option maxRecDepth 100000 in
theorem c_X6_operand (G : go_G) (rs : va_W)  (w : Int32)   : go_Fn yX6_operand cX6_operand 1 (some .int) 0 0 G [.int w] rs (some (.int (pc_k w))) rs := by
  refine go_Fn_of (by decide) (Nat.le_of_ble_eq_true rfl) (fun X C E => ?_)
  show go_Go X (0, 0) rs [(0, .int w)] [] 0
  refine go_iload_n C dX6_operand_0 0 rfl rfl ?_
  refine go_bipush C (8) dX6_operand_1 (by decide) ?_
  refine go_ishr C (z := w >>> 8) dX6_operand_3 rfl ?_
  exact go_iret C E dX6_operand_4 rfl rfl
set_option maxHeartbeats 4000000 in
set_option maxRecDepth 100000 in
theorem c_X6_isWord (G : go_G) (rs : va_W)  (w : Int32)   : go_Fn yX6_isWord cX6_isWord 2 (some .boolean) 1 20 G [.int w] rs (some (.int (go_b (pc_isW w)))) rs := by
  refine go_Fn_of (by decide) (Nat.le_of_ble_eq_true rfl) (fun X C E => ?_)
  show go_Go X (0, 0) rs [(0, .int w)] [] 0
  refine go_iload_n C dX6_isWord_0 0 rfl rfl ?_
  refine go_cS C (c_X6_op G rs  w  ) ml_X6_9 mc_X6_op dX6_isWord_1 [] rfl rfl rfl ⟨Nat.le_of_ble_eq_true rfl, Nat.le_of_ble_eq_true rfl, Nat.zero_le _, Nat.zero_le _, Nat.le_of_ble_eq_true rfl⟩ [.int (pc_op w)] rfl ?_
  refine go_istore_n C [(0, .int w), (1, .int (pc_op w))] dX6_isWord_4 [1, 0] rfl (by decide) rfl ?_
  refine go_iload_n C dX6_isWord_5 1 rfl rfl ?_
  refine go_if_ne C 11 dX6_isWord_6 (by decide) (fun c_6 => ?_) (fun c_6 => ?_)
  · refine go_iload_n C dX6_isWord_11 1 rfl rfl ?_
    refine go_iconst C (1) dX6_isWord_12 (by decide) ?_
    refine go_icmp_eq C 22 dX6_isWord_13 (by decide) (fun c_13 => ?_) (fun c_13 => ?_)
    · refine go_iload_n C dX6_isWord_22 0 rfl rfl ?_
      refine go_cS C (c_X6_operand G rs  w  ) ml_X6_15 mc_X6_operand dX6_isWord_23 [] rfl rfl rfl ⟨Nat.le_of_ble_eq_true rfl, Nat.le_of_ble_eq_true rfl, Nat.zero_le _, Nat.zero_le _, Nat.le_of_ble_eq_true rfl⟩ [.int (pc_k w)] rfl ?_
      refine go_cN C (c_X8_isVariable G rs  (pc_k w)  ) ml_X6_18 mc_X8_isVariable dX6_isWord_26 [] rfl rfl rfl ⟨Nat.le_of_ble_eq_true rfl, Nat.le_of_ble_eq_true rfl, Nat.zero_le _, Nat.zero_le _, Nat.le_of_ble_eq_true rfl⟩ [.int (go_b (pc_isV (pc_k w)))] rfl ?_
      exact go_zret C E dX6_isWord_29 (go_bn _) (by first | contradiction | rfl | (simp [pc_isW, *]; done) | (rw [decide_eq_true (by omega)]; done) | (rw [decide_eq_false (by omega)]; done) | (simp_all [pc_isW]; done) | (simp [pc_isW]; omega) | (simp_all [pc_isW]; omega) | omega) rfl
    · refine go_iload_n C dX6_isWord_16 1 rfl rfl ?_
      refine go_bipush C (11) dX6_isWord_17 (by decide) ?_
      refine go_icmp_ne C 30 dX6_isWord_19 (by decide) (fun c_19 => ?_) (fun c_19 => ?_)
      · refine go_iload_n C dX6_isWord_30 1 rfl rfl ?_
        refine go_bipush C (12) dX6_isWord_31 (by decide) ?_
        refine go_icmp_gt C 47 dX6_isWord_33 (by decide) (fun c_33 => ?_) (fun c_33 => ?_)
        · refine go_iconst C (0) dX6_isWord_47 (by decide) ?_
          refine go_se [.int (go_b (false))] rfl ?_
          exact go_zret C E dX6_isWord_48 (go_bn _) (by first | contradiction | rfl | (simp [pc_isW, *]; done) | (rw [decide_eq_true (by omega)]; done) | (rw [decide_eq_false (by omega)]; done) | (simp_all [pc_isW]; done) | (simp [pc_isW]; omega) | (simp_all [pc_isW]; omega) | omega) rfl
        · refine go_iload_n C dX6_isWord_36 0 rfl rfl ?_
          refine go_cS C (c_X6_operand G rs  w  ) ml_X6_15 mc_X6_operand dX6_isWord_37 [] rfl rfl rfl ⟨Nat.le_of_ble_eq_true rfl, Nat.le_of_ble_eq_true rfl, Nat.zero_le _, Nat.zero_le _, Nat.le_of_ble_eq_true rfl⟩ [.int (pc_k w)] rfl ?_
          refine go_if_ne C 47 dX6_isWord_40 (by decide) (fun c_40 => ?_) (fun c_40 => ?_)
          · refine go_iconst C (0) dX6_isWord_47 (by decide) ?_
            refine go_se [.int (go_b (false))] rfl ?_
            exact go_zret C E dX6_isWord_48 (go_bn _) (by first | contradiction | rfl | (simp [pc_isW, *]; done) | (rw [decide_eq_true (by omega)]; done) | (rw [decide_eq_false (by omega)]; done) | (simp_all [pc_isW]; done) | (simp [pc_isW]; omega) | (simp_all [pc_isW]; omega) | omega) rfl
          · refine go_iconst C (1) dX6_isWord_43 (by decide) ?_
            refine go_goto C 48 dX6_isWord_44 (by decide) ?_
            refine go_se [.int (go_b (true))] rfl ?_
            exact go_zret C E dX6_isWord_48 (go_bn _) (by first | contradiction | rfl | (simp [pc_isW, *]; done) | (rw [decide_eq_true (by omega)]; done) | (rw [decide_eq_false (by omega)]; done) | (simp_all [pc_isW]; done) | (simp [pc_isW]; omega) | (simp_all [pc_isW]; omega) | omega) rfl
      · refine go_iload_n C dX6_isWord_22 0 rfl rfl ?_
        refine go_cS C (c_X6_operand G rs  w  ) ml_X6_15 mc_X6_operand dX6_isWord_23 [] rfl rfl rfl ⟨Nat.le_of_ble_eq_true rfl, Nat.le_of_ble_eq_true rfl, Nat.zero_le _, Nat.zero_le _, Nat.le_of_ble_eq_true rfl⟩ [.int (pc_k w)] rfl ?_
        refine go_cN C (c_X8_isVariable G rs  (pc_k w)  ) ml_X6_18 mc_X8_isVariable dX6_isWord_26 [] rfl rfl rfl ⟨Nat.le_of_ble_eq_true rfl, Nat.le_of_ble_eq_true rfl, Nat.zero_le _, Nat.zero_le _, Nat.le_of_ble_eq_true rfl⟩ [.int (go_b (pc_isV (pc_k w)))] rfl ?_
        exact go_zret C E dX6_isWord_29 (go_bn _) (by first | contradiction | rfl | (simp [pc_isW, *]; done) | (rw [decide_eq_true (by omega)]; done) | (rw [decide_eq_false (by omega)]; done) | (simp_all [pc_isW]; done) | (simp [pc_isW]; omega) | (simp_all [pc_isW]; omega) | omega) rfl
  · refine go_iconst C (1) dX6_isWord_9 (by decide) ?_
    refine go_se [.int (go_b (true))] rfl ?_
    exact go_zret C E dX6_isWord_10 (go_bn _) (by first | contradiction | rfl | (simp [pc_isW, *]; done) | (rw [decide_eq_true (by omega)]; done) | (rw [decide_eq_false (by omega)]; done) | (simp_all [pc_isW]; done) | (simp [pc_isW]; omega) | (simp_all [pc_isW]; omega) | omega) rfl
set_option maxHeartbeats 4000000 in
set_option maxRecDepth 100000 in
theorem c_X6_exchanged (G : go_G) (rs : va_W)  (w : Int32) (a : Int32) (b : Int32)   : go_Fn yX6_exchanged cX6_exchanged 5 (some .int) 1 20 G [.int w, .int a, .int b] rs (some (.int (pc_ex w a b))) rs := by
  refine go_Fn_of (by decide) (Nat.le_of_ble_eq_true rfl) (fun X C E => ?_)
  show go_Go X (0, 0) rs [(0, .int w), (1, .int a), (2, .int b)] [] 0
  refine go_iload_n C dX6_exchanged_0 0 rfl rfl ?_
  refine go_cS C (c_X6_op G rs  w  ) ml_X6_9 mc_X6_op dX6_exchanged_1 [] rfl rfl rfl ⟨Nat.le_of_ble_eq_true rfl, Nat.le_of_ble_eq_true rfl, Nat.zero_le _, Nat.zero_le _, Nat.le_of_ble_eq_true rfl⟩ [.int (pc_op w)] rfl ?_
  refine go_istore_n C [(0, .int w), (1, .int a), (2, .int b), (3, .int (pc_op w))] dX6_exchanged_4 [1, 2, 3, 0] rfl (by decide) rfl ?_
  refine go_iload_n C dX6_exchanged_5 0 rfl rfl ?_
  refine go_cS C (c_X6_operand G rs  w  ) ml_X6_15 mc_X6_operand dX6_exchanged_6 [] rfl rfl rfl ⟨Nat.le_of_ble_eq_true rfl, Nat.le_of_ble_eq_true rfl, Nat.zero_le _, Nat.zero_le _, Nat.le_of_ble_eq_true rfl⟩ [.int (pc_k w)] rfl ?_
  refine go_istore C [(0, .int w), (1, .int a), (2, .int b), (3, .int (pc_op w)), (4, .int (pc_k w))] dX6_exchanged_9 [1, 2, 3, 4, 0] (by decide) rfl ?_
  refine go_iload_n C dX6_exchanged_11 3 rfl rfl ?_
  refine go_iconst C (1) dX6_exchanged_12 (by decide) ?_
  refine go_icmp_eq C 22 dX6_exchanged_13 (by decide) (fun c_13 => ?_) (fun c_13 => ?_)
  · refine go_iload C dX6_exchanged_22 4 rfl ?_
    refine go_iload_n C dX6_exchanged_24 1 rfl rfl ?_
    refine go_icmp_eq C 36 dX6_exchanged_25 (by decide) (fun c_25 => ?_) (fun c_25 => ?_)
    · refine go_iload C dX6_exchanged_36 4 rfl ?_
      refine go_iload_n C dX6_exchanged_38 1 rfl rfl ?_
      refine go_icmp_ne C 46 dX6_exchanged_39 (by decide) (fun c_39 => ?_) (fun c_39 => ?_)
      · refine go_iload_n C dX6_exchanged_46 1 rfl rfl ?_
        refine go_bipush C (8) dX6_exchanged_47 (by decide) ?_
        refine go_ishl C (z := a <<< 8) dX6_exchanged_49 rfl ?_
        refine go_iload_n C dX6_exchanged_50 3 rfl rfl ?_
        refine go_ior C (z := (a <<< 8) ||| (pc_op w)) dX6_exchanged_51 rfl ?_
        exact go_iret C E dX6_exchanged_52 (by first | contradiction | rfl | (simp [pc_ex, *]; done) | (rw [decide_eq_true (by omega)]; done) | (rw [decide_eq_false (by omega)]; done) | (simp_all [pc_ex]; done) | (simp [pc_ex]; omega) | (simp_all [pc_ex]; omega) | omega) rfl
      · refine go_iload_n C dX6_exchanged_42 2 rfl rfl ?_
        refine go_goto C 47 dX6_exchanged_43 (by decide) ?_
        refine go_bipush C (8) dX6_exchanged_47 (by decide) ?_
        refine go_ishl C (z := b <<< 8) dX6_exchanged_49 rfl ?_
        refine go_iload_n C dX6_exchanged_50 3 rfl rfl ?_
        refine go_ior C (z := (b <<< 8) ||| (pc_op w)) dX6_exchanged_51 rfl ?_
        exact go_iret C E dX6_exchanged_52 (by first | contradiction | rfl | (simp [pc_ex, *]; done) | (rw [decide_eq_true (by omega)]; done) | (rw [decide_eq_false (by omega)]; done) | (simp_all [pc_ex]; done) | (simp [pc_ex]; omega) | (simp_all [pc_ex]; omega) | omega) rfl
    · refine go_iload C dX6_exchanged_28 4 rfl ?_
      refine go_iload_n C dX6_exchanged_30 2 rfl rfl ?_
      refine go_icmp_eq C 36 dX6_exchanged_31 (by decide) (fun c_31 => ?_) (fun c_31 => ?_)
      · refine go_iload C dX6_exchanged_36 4 rfl ?_
        refine go_iload_n C dX6_exchanged_38 1 rfl rfl ?_
        refine go_icmp_ne C 46 dX6_exchanged_39 (by decide) (fun c_39 => ?_) (fun c_39 => ?_)
        · refine go_iload_n C dX6_exchanged_46 1 rfl rfl ?_
          refine go_bipush C (8) dX6_exchanged_47 (by decide) ?_
          refine go_ishl C (z := a <<< 8) dX6_exchanged_49 rfl ?_
          refine go_iload_n C dX6_exchanged_50 3 rfl rfl ?_
          refine go_ior C (z := (a <<< 8) ||| (pc_op w)) dX6_exchanged_51 rfl ?_
          exact go_iret C E dX6_exchanged_52 (by first | contradiction | rfl | (simp [pc_ex, *]; done) | (rw [decide_eq_true (by omega)]; done) | (rw [decide_eq_false (by omega)]; done) | (simp_all [pc_ex]; done) | (simp [pc_ex]; omega) | (simp_all [pc_ex]; omega) | omega) rfl
        · refine go_iload_n C dX6_exchanged_42 2 rfl rfl ?_
          refine go_goto C 47 dX6_exchanged_43 (by decide) ?_
          refine go_bipush C (8) dX6_exchanged_47 (by decide) ?_
          refine go_ishl C (z := b <<< 8) dX6_exchanged_49 rfl ?_
          refine go_iload_n C dX6_exchanged_50 3 rfl rfl ?_
          refine go_ior C (z := (b <<< 8) ||| (pc_op w)) dX6_exchanged_51 rfl ?_
          exact go_iret C E dX6_exchanged_52 (by first | contradiction | rfl | (simp [pc_ex, *]; done) | (rw [decide_eq_true (by omega)]; done) | (rw [decide_eq_false (by omega)]; done) | (simp_all [pc_ex]; done) | (simp [pc_ex]; omega) | (simp_all [pc_ex]; omega) | omega) rfl
      · refine go_iload_n C dX6_exchanged_34 0 rfl rfl ?_
        exact go_iret C E dX6_exchanged_35 (by first | contradiction | rfl | (simp [pc_ex, *]; done) | (rw [decide_eq_true (by omega)]; done) | (rw [decide_eq_false (by omega)]; done) | (simp_all [pc_ex]; done) | (simp [pc_ex]; omega) | (simp_all [pc_ex]; omega) | omega) rfl
  · refine go_iload_n C dX6_exchanged_16 3 rfl rfl ?_
    refine go_bipush C (11) dX6_exchanged_17 (by decide) ?_
    refine go_icmp_ne C 34 dX6_exchanged_19 (by decide) (fun c_19 => ?_) (fun c_19 => ?_)
    · refine go_iload_n C dX6_exchanged_34 0 rfl rfl ?_
      exact go_iret C E dX6_exchanged_35 (by first | contradiction | rfl | (simp [pc_ex, *]; done) | (rw [decide_eq_true (by omega)]; done) | (rw [decide_eq_false (by omega)]; done) | (simp_all [pc_ex]; done) | (simp [pc_ex]; omega) | (simp_all [pc_ex]; omega) | omega) rfl
    · refine go_iload C dX6_exchanged_22 4 rfl ?_
      refine go_iload_n C dX6_exchanged_24 1 rfl rfl ?_
      refine go_icmp_eq C 36 dX6_exchanged_25 (by decide) (fun c_25 => ?_) (fun c_25 => ?_)
      · refine go_iload C dX6_exchanged_36 4 rfl ?_
        refine go_iload_n C dX6_exchanged_38 1 rfl rfl ?_
        refine go_icmp_ne C 46 dX6_exchanged_39 (by decide) (fun c_39 => ?_) (fun c_39 => ?_)
        · refine go_iload_n C dX6_exchanged_46 1 rfl rfl ?_
          refine go_bipush C (8) dX6_exchanged_47 (by decide) ?_
          refine go_ishl C (z := a <<< 8) dX6_exchanged_49 rfl ?_
          refine go_iload_n C dX6_exchanged_50 3 rfl rfl ?_
          refine go_ior C (z := (a <<< 8) ||| (pc_op w)) dX6_exchanged_51 rfl ?_
          exact go_iret C E dX6_exchanged_52 (by first | contradiction | rfl | (simp [pc_ex, *]; done) | (rw [decide_eq_true (by omega)]; done) | (rw [decide_eq_false (by omega)]; done) | (simp_all [pc_ex]; done) | (simp [pc_ex]; omega) | (simp_all [pc_ex]; omega) | omega) rfl
        · refine go_iload_n C dX6_exchanged_42 2 rfl rfl ?_
          refine go_goto C 47 dX6_exchanged_43 (by decide) ?_
          refine go_bipush C (8) dX6_exchanged_47 (by decide) ?_
          refine go_ishl C (z := b <<< 8) dX6_exchanged_49 rfl ?_
          refine go_iload_n C dX6_exchanged_50 3 rfl rfl ?_
          refine go_ior C (z := (b <<< 8) ||| (pc_op w)) dX6_exchanged_51 rfl ?_
          exact go_iret C E dX6_exchanged_52 (by first | contradiction | rfl | (simp [pc_ex, *]; done) | (rw [decide_eq_true (by omega)]; done) | (rw [decide_eq_false (by omega)]; done) | (simp_all [pc_ex]; done) | (simp [pc_ex]; omega) | (simp_all [pc_ex]; omega) | omega) rfl
      · refine go_iload C dX6_exchanged_28 4 rfl ?_
        refine go_iload_n C dX6_exchanged_30 2 rfl rfl ?_
        refine go_icmp_eq C 36 dX6_exchanged_31 (by decide) (fun c_31 => ?_) (fun c_31 => ?_)
        · refine go_iload C dX6_exchanged_36 4 rfl ?_
          refine go_iload_n C dX6_exchanged_38 1 rfl rfl ?_
          refine go_icmp_ne C 46 dX6_exchanged_39 (by decide) (fun c_39 => ?_) (fun c_39 => ?_)
          · refine go_iload_n C dX6_exchanged_46 1 rfl rfl ?_
            refine go_bipush C (8) dX6_exchanged_47 (by decide) ?_
            refine go_ishl C (z := a <<< 8) dX6_exchanged_49 rfl ?_
            refine go_iload_n C dX6_exchanged_50 3 rfl rfl ?_
            refine go_ior C (z := (a <<< 8) ||| (pc_op w)) dX6_exchanged_51 rfl ?_
            exact go_iret C E dX6_exchanged_52 (by first | contradiction | rfl | (simp [pc_ex, *]; done) | (rw [decide_eq_true (by omega)]; done) | (rw [decide_eq_false (by omega)]; done) | (simp_all [pc_ex]; done) | (simp [pc_ex]; omega) | (simp_all [pc_ex]; omega) | omega) rfl
          · refine go_iload_n C dX6_exchanged_42 2 rfl rfl ?_
            refine go_goto C 47 dX6_exchanged_43 (by decide) ?_
            refine go_bipush C (8) dX6_exchanged_47 (by decide) ?_
            refine go_ishl C (z := b <<< 8) dX6_exchanged_49 rfl ?_
            refine go_iload_n C dX6_exchanged_50 3 rfl rfl ?_
            refine go_ior C (z := (b <<< 8) ||| (pc_op w)) dX6_exchanged_51 rfl ?_
            exact go_iret C E dX6_exchanged_52 (by first | contradiction | rfl | (simp [pc_ex, *]; done) | (rw [decide_eq_true (by omega)]; done) | (rw [decide_eq_false (by omega)]; done) | (simp_all [pc_ex]; done) | (simp [pc_ex]; omega) | (simp_all [pc_ex]; omega) | omega) rfl
        · refine go_iload_n C dX6_exchanged_34 0 rfl rfl ?_
          exact go_iret C E dX6_exchanged_35 (by first | contradiction | rfl | (simp [pc_ex, *]; done) | (rw [decide_eq_true (by omega)]; done) | (rw [decide_eq_false (by omega)]; done) | (simp_all [pc_ex]; done) | (simp [pc_ex]; omega) | (simp_all [pc_ex]; omega) | omega) rfl
set_option maxHeartbeats 4000000 in
set_option maxRecDepth 100000 in
theorem c_X7_length (G : go_G) (rs : va_W) (p0 : Nat) (a : Nat) (w : Nat) (ln : Nat) (hp0 : rs[p0]? = some (a, .inr (6, [.ref w, .int (nI ln)])))  : go_Fn yX7_length cX7_length 1 (some .int) 0 0 G [.ref a] rs (some (.int (nI ln))) rs := by
  refine go_Fn_of (by decide) (Nat.le_of_ble_eq_true rfl) (fun X C E => ?_)
  show go_Go X (0, 0) rs [(0, .ref a)] [] 0
  refine go_aload_n C dX7_length_0 0 rfl rfl ?_
  refine go_get C (v := .int (nI ln)) fl_X7_15 dX7_length_1 p0 hp0 rfl ?_
  exact go_iret C E dX7_length_4 rfl rfl
set_option maxHeartbeats 4000000 in
set_option maxRecDepth 100000 in
theorem c_X7_isFull (G : go_G) (rs : va_W) (p0 : Nat) (a : Nat) (w : Nat) (ln : Nat) (hp0 : rs[p0]? = some (a, .inr (6, [.ref w, .int (nI ln)]))) (hl : ln ≤ 32) : go_Fn yX7_isFull cX7_isFull 1 (some .boolean) 0 0 G [.ref a] rs (some (.int (go_b (decide (32 ≤ ln))))) rs := by
  refine go_Fn_of (by decide) (Nat.le_of_ble_eq_true rfl) (fun X C E => ?_)
  show go_Go X (0, 0) rs [(0, .ref a)] [] 0
  refine go_aload_n C dX7_isFull_0 0 rfl rfl ?_
  refine go_get C (v := .int (nI ln)) fl_X7_15 dX7_isFull_1 p0 hp0 rfl ?_
  refine go_bipush C (32) dX7_isFull_4 (by decide) ?_
  refine go_icmp_ltN (a := ln) (b := 32) C 13 dX7_isFull_6 (by decide) (by omega) (by omega) (fun c_6 => ?_) (fun c_6 => ?_)
  · refine go_iconst C (0) dX7_isFull_13 (by decide) ?_
    refine go_se [.int (go_b (false))] rfl ?_
    exact go_zret C E dX7_isFull_14 (go_bn _) (by first | contradiction | rfl | (simp [decide_eq_true_eq, *]; done) | (rw [decide_eq_true (by omega)]; done) | (rw [decide_eq_false (by omega)]; done) | (simp_all [decide_eq_true_eq]; done) | (simp [decide_eq_true_eq]; omega) | (simp_all [decide_eq_true_eq]; omega) | omega) rfl
  · refine go_iconst C (1) dX7_isFull_9 (by decide) ?_
    refine go_goto C 14 dX7_isFull_10 (by decide) ?_
    refine go_se [.int (go_b (true))] rfl ?_
    exact go_zret C E dX7_isFull_14 (go_bn _) (by first | contradiction | rfl | (simp [decide_eq_true_eq, *]; done) | (rw [decide_eq_true (by omega)]; done) | (rw [decide_eq_false (by omega)]; done) | (simp_all [decide_eq_true_eq]; done) | (simp [decide_eq_true_eq]; omega) | (simp_all [decide_eq_true_eq]; omega) | omega) rfl
set_option maxHeartbeats 4000000 in
set_option maxRecDepth 100000 in
theorem c_X7_clear (G : go_G) (rs : va_W)  (a : Nat) (w : Nat) (ln : Nat)   : go_Fn yX7_clear cX7_clear 1 none 0 0 G [.ref a] ((a, .inr (6, [.ref w, .int (nI ln)])) :: rs) (none) ((a, .inr (6, [.ref w, .int (nI 0)])) :: rs) := by
  refine go_Fn_of (by decide) (Nat.le_of_ble_eq_true rfl) (fun X C E => ?_)
  show go_Go X (0, 0) ((a, .inr (6, [.ref w, .int (nI ln)])) :: rs) [(0, .ref a)] [] 0
  refine go_aload_n C dX7_clear_0 0 rfl rfl ?_
  refine go_iconst C (0) dX7_clear_1 (by decide) ?_
  refine go_put C fp_X7_15 dX7_clear_2 0 rfl rfl rfl (Nat.le_of_ble_eq_true rfl) ((a, .inr (6, [.ref w, .int 0])) :: rs) rfl ?_
  exact go_vret C E dX7_clear_5 rfl rfl
set_option maxHeartbeats 4000000 in
set_option maxRecDepth 100000 in
theorem c_X7_add (G : go_G) (rs : va_W)  (a : Nat) (w : Nat) (ln : Nat) (f : Nat → Int32) (x : Int32)  (hl : ln < 32) : go_Fn yX7_add cX7_add 2 none 0 0 G [.ref a, .int x] ((a, .inr (6, [.ref w, .int (nI ln)])) :: (w, .inl (G.2.1, 32, .inl f)) :: rs) (none) ((a, .inr (6, [.ref w, .int (nI (ln + 1))])) :: (w, .inl (G.2.1, 32, .inl (upd f ln x))) :: rs) := by
  refine go_Fn_of (by decide) (Nat.le_of_ble_eq_true rfl) (fun X C E => ?_)
  show go_Go X (0, 0) ((a, .inr (6, [.ref w, .int (nI ln)])) :: (w, .inl (G.2.1, 32, .inl f)) :: rs) [(0, .ref a), (1, .int x)] [] 0
  refine go_aload_n C dX7_add_0 0 rfl rfl ?_
  refine go_get C (v := .int (nI ln)) fl_X7_15 dX7_add_1 0 rfl rfl ?_
  refine go_bipush C (32) dX7_add_4 (by decide) ?_
  refine go_icmp_geN (a := ln) (b := 32) C 29 dX7_add_6 (by decide) (by omega) (by omega) (fun c_6 => ?_) (fun c_6 => ?_)
  · omega
  · refine go_aload_n C dX7_add_9 0 rfl rfl ?_
    refine go_get C (v := .ref w) fl_X7_9 dX7_add_10 0 rfl rfl ?_
    refine go_aload_n C dX7_add_13 0 rfl rfl ?_
    refine go_get C (v := .int (nI ln)) fl_X7_15 dX7_add_14 0 rfl rfl ?_
    refine go_iload_n C dX7_add_17 1 rfl rfl ?_
    refine go_iast C dX7_add_18 1 rfl (ln) rfl (by omega) (by decide) ((a, .inr (6, [.ref w, .int (nI ln)])) :: (w, .inl (G.2.1, 32, .inl (upd f ln x))) :: rs) rfl ?_
    refine go_aload_n C dX7_add_19 0 rfl rfl ?_
    refine go_dup C dX7_add_20 rfl ?_
    refine go_get C (v := .int (nI ln)) fl_X7_15 dX7_add_21 0 rfl rfl ?_
    refine go_iconst C (1) dX7_add_24 (by decide) ?_
    refine go_iadd C (z := nI (ln + 1)) dX7_add_25 (nI_add ln 1) ?_
    refine go_put C fp_X7_15 dX7_add_26 0 rfl rfl rfl (Nat.le_of_ble_eq_true rfl) ((a, .inr (6, [.ref w, .int (nI (ln + 1))])) :: (w, .inl (G.2.1, 32, .inl (upd f ln x))) :: rs) rfl ?_
    exact go_vret C E dX7_add_29 rfl rfl
set_option maxHeartbeats 4000000 in
set_option maxRecDepth 100000 in
theorem c_X7_at (G : go_G) (rs : va_W) (p0 : Nat) (p1 : Nat) (a : Nat) (w : Nat) (ln : Nat) (f : Nat → Int32) (j : Nat) (hp0 : rs[p0]? = some (a, .inr (6, [.ref w, .int (nI ln)]))) (hp1 : rs[p1]? = some (w, .inl (G.2.1, 32, .inl f))) (hl : ln ≤ 32) (hj : j < 2 ^ 31) : go_Fn yX7_at cX7_at 2 (some .int) 0 0 G [.ref a, .int (nI j)] rs (some (.int (pc_at ln f j))) rs := by
  refine go_Fn_of (by decide) (Nat.le_of_ble_eq_true rfl) (fun X C E => ?_)
  show go_Go X (0, 0) rs [(0, .ref a), (1, .int (nI j))] [] 0
  refine go_iload_n C dX7_at_0 1 rfl rfl ?_
  refine go_if_ltN C 21 dX7_at_1 (by decide) (by omega) ?_
  refine go_iload_n C dX7_at_4 1 rfl rfl ?_
  refine go_aload_n C dX7_at_5 0 rfl rfl ?_
  refine go_get C (v := .int (nI ln)) fl_X7_15 dX7_at_6 p0 hp0 rfl ?_
  refine go_icmp_geN (a := j) (b := ln) C 21 dX7_at_9 (by decide) (by omega) (by omega) (fun c_9 => ?_) (fun c_9 => ?_)
  · refine go_iconst C (0) dX7_at_21 (by decide) ?_
    exact go_iret C E dX7_at_22 (by first | contradiction | rfl | (simp [pc_at, *]; done) | (rw [decide_eq_true (by omega)]; done) | (rw [decide_eq_false (by omega)]; done) | (simp_all [pc_at]; done) | (simp [pc_at]; omega) | (simp_all [pc_at]; omega) | omega) rfl
  · refine go_aload_n C dX7_at_12 0 rfl rfl ?_
    refine go_get C (v := .ref w) fl_X7_9 dX7_at_13 p0 hp0 rfl ?_
    refine go_iload_n C dX7_at_16 1 rfl rfl ?_
    refine go_iald C dX7_at_17 p1 hp1 (j) rfl (by omega) (by decide) ?_
    refine go_goto C 22 dX7_at_18 (by decide) ?_
    exact go_iret C E dX7_at_22 (by first | contradiction | rfl | (simp [pc_at, *]; done) | (rw [decide_eq_true (by omega)]; done) | (rw [decide_eq_false (by omega)]; done) | (simp_all [pc_at]; done) | (simp [pc_at]; omega) | (simp_all [pc_at]; omega) | omega) rfl
set_option maxHeartbeats 4000000 in
set_option maxRecDepth 100000 in
theorem c_X7_opAt (G : go_G) (rs : va_W) (p0 : Nat) (p1 : Nat) (a : Nat) (w : Nat) (ln : Nat) (f : Nat → Int32) (j : Nat) (hp0 : rs[p0]? = some (a, .inr (6, [.ref w, .int (nI ln)]))) (hp1 : rs[p1]? = some (w, .inl (G.2.1, 32, .inl f))) (hl : ln ≤ 32) (hj : j < 2 ^ 31) : go_Fn yX7_opAt cX7_opAt 2 (some .int) 1 21 G [.ref a, .int (nI j)] rs (some (.int (pc_op (pc_at ln f j)))) rs := by
  refine go_Fn_of (by decide) (Nat.le_of_ble_eq_true rfl) (fun X C E => ?_)
  show go_Go X (0, 0) rs [(0, .ref a), (1, .int (nI j))] [] 0
  refine go_aload_n C dX7_opAt_0 0 rfl rfl ?_
  refine go_iload_n C dX7_opAt_1 1 rfl rfl ?_
  refine go_cV C (c_X7_at G rs p0 p1 a w ln f j hp0 hp1 (by omega) (by omega)) ml_X7_19 mc_X7_at dX7_opAt_2 [] rfl rfl p0 hp0 rfl rfl ⟨Nat.le_of_ble_eq_true rfl, Nat.le_of_ble_eq_true rfl, Nat.zero_le _, Nat.zero_le _, Nat.le_of_ble_eq_true rfl⟩ [.int (pc_at ln f j)] rfl ?_
  refine go_cS C (c_X6_op G rs  (pc_at ln f j)  ) ml_X7_23 mc_X6_op dX7_opAt_5 [] rfl rfl rfl ⟨Nat.le_of_ble_eq_true rfl, Nat.le_of_ble_eq_true rfl, Nat.zero_le _, Nat.zero_le _, Nat.le_of_ble_eq_true rfl⟩ [.int (pc_op (pc_at ln f j))] rfl ?_
  exact go_iret C E dX7_opAt_8 rfl rfl
set_option maxHeartbeats 4000000 in
set_option maxRecDepth 100000 in
theorem l_X7_next_2 {X : go_X} (G : go_G) (rs : va_W) (p0 : Nat) (p1 : Nat) (a : Nat) (w : Nat) (ln : Nat) (f : Nat → Int32) (o : Int32) (j : Nat) (hp0 : rs[p0]? = some (a, .inr (6, [.ref w, .int (nI ln)]))) (hp1 : rs[p1]? = some (w, .inl (G.2.1, 32, .inl f))) (hl : ln ≤ 32) (hj : j ≤ ln) {Rr : Option Value}  (C : go_Cx X cX7_next RX7 (some .int) 4 1 21 0 0 G) (E : go_Ex X Rr rs)  : ∀ (n : Nat) (i : Nat) (hin : ln < i + n) (hi : i ≤ ln) (hR : some (.int (nI (pc_next ln f o n i))) = Rr), go_Go X (0, 0) rs [(0, .ref a), (1, .int o), (2, .int (nI j)), (3, .int (nI i))] [] 2 := by
  intro n
  induction n with
  | zero => intro i hin hi hR; omega
  | succ n ih =>
    intro i hin hi hR
    refine go_iload_n C dX7_next_2 3 rfl rfl ?_
    refine go_aload_n C dX7_next_3 0 rfl rfl ?_
    refine go_get C (v := .int (nI ln)) fl_X7_15 dX7_next_4 p0 hp0 rfl ?_
    refine go_icmp_geN (a := i) (b := ln) C 30 dX7_next_7 (by decide) (by omega) (by omega) (fun c_7 => ?_) (fun c_7 => ?_)
    · refine go_aload_n C dX7_next_30 0 rfl rfl ?_
      refine go_get C (v := .int (nI ln)) fl_X7_15 dX7_next_31 p0 hp0 rfl ?_
      exact go_iret C E dX7_next_34 (by rw [← hR]; first | contradiction | rfl | (simp [pc_next, pc_at, *]; done) | (rw [decide_eq_true (by omega)]; done) | (rw [decide_eq_false (by omega)]; done) | (simp_all [pc_next, pc_at]; done) | (simp [pc_next, pc_at]; omega) | (simp_all [pc_next, pc_at]; omega) | omega) rfl
    · refine go_aload_n C dX7_next_10 0 rfl rfl ?_
      refine go_iload_n C dX7_next_11 3 rfl rfl ?_
      refine go_cV C (c_X7_at G rs p0 p1 a w ln f i hp0 hp1 (by omega) (by omega)) ml_X7_19 mc_X7_at dX7_next_12 [] rfl rfl p0 hp0 rfl rfl ⟨Nat.le_of_ble_eq_true rfl, Nat.le_of_ble_eq_true rfl, Nat.zero_le _, Nat.zero_le _, Nat.le_of_ble_eq_true rfl⟩ [.int (pc_at ln f i)] rfl ?_
      refine go_cS C (c_X6_op G rs  (pc_at ln f i)  ) ml_X7_23 mc_X6_op dX7_next_15 [] rfl rfl rfl ⟨Nat.le_of_ble_eq_true rfl, Nat.le_of_ble_eq_true rfl, Nat.zero_le _, Nat.zero_le _, Nat.le_of_ble_eq_true rfl⟩ [.int (pc_op (pc_at ln f i))] rfl ?_
      refine go_iload_n C dX7_next_18 1 rfl rfl ?_
      refine go_icmp_ne C 24 dX7_next_19 (by decide) (fun c_19 => ?_) (fun c_19 => ?_)
      · refine go_iinc C (nI (i + 1)) [(0, .ref a), (1, .int o), (2, .int (nI j)), (3, .int (nI (i + 1)))] dX7_next_24 3 [1, 2, 3, 0] rfl (nI_add i 1) (by decide) rfl ?_
        refine go_goto C 2 dX7_next_27 (by decide) ?_
        exact ih (i + 1) (by omega) (by omega) (by rw [← hR]; first | contradiction | rfl | (simp [pc_next, pc_at, *]; done) | (rw [decide_eq_true (by omega)]; done) | (rw [decide_eq_false (by omega)]; done) | (simp_all [pc_next, pc_at]; done) | (simp [pc_next, pc_at]; omega) | (simp_all [pc_next, pc_at]; omega) | omega)
      · refine go_iload_n C dX7_next_22 3 rfl rfl ?_
        exact go_iret C E dX7_next_23 (by rw [← hR]; first | contradiction | rfl | (simp [pc_next, pc_at, *]; done) | (rw [decide_eq_true (by omega)]; done) | (rw [decide_eq_false (by omega)]; done) | (simp_all [pc_next, pc_at]; done) | (simp [pc_next, pc_at]; omega) | (simp_all [pc_next, pc_at]; omega) | omega) rfl
set_option maxHeartbeats 4000000 in
set_option maxRecDepth 100000 in
theorem c_X7_next (G : go_G) (rs : va_W) (p0 : Nat) (p1 : Nat) (a : Nat) (w : Nat) (ln : Nat) (f : Nat → Int32) (o : Int32) (j : Nat) (hp0 : rs[p0]? = some (a, .inr (6, [.ref w, .int (nI ln)]))) (hp1 : rs[p1]? = some (w, .inl (G.2.1, 32, .inl f))) (hl : ln ≤ 32) (hj : j ≤ ln) : go_Fn yX7_next cX7_next 4 (some .int) 1 21 G [.ref a, .int o, .int (nI j)] rs (some (.int (nI (pc_next ln f o (ln + 1) j)))) rs := by
  refine go_Fn_of (by decide) (Nat.le_of_ble_eq_true rfl) (fun X C E => ?_)
  show go_Go X (0, 0) rs [(0, .ref a), (1, .int o), (2, .int (nI j))] [] 0
  refine go_iload_n C dX7_next_0 2 rfl rfl ?_
  refine go_istore_n C [(0, .ref a), (1, .int o), (2, .int (nI j)), (3, .int (nI j))] dX7_next_1 [1, 2, 3, 0] rfl (by decide) rfl ?_
  exact l_X7_next_2 G rs p0 p1 a w ln f o j hp0 hp1 hl hj  C E (ln + 1) j (by omega) (by omega) rfl
set_option maxHeartbeats 4000000 in
set_option maxRecDepth 100000 in
theorem l_X7_turnsInto_3 {X : go_X} (G : go_G) (rs : va_W) (p0 : Nat) (p1 : Nat) (p2 : Nat) (p3 : Nat) (a : Nat) (w : Nat) (ln : Nat) (f : Nat → Int32) (b : Nat) (x : Nat) (lm : Nat) (g : Nat → Int32) (fs : Nat) (m : Nat) (gs : Nat) (u : Int32) (v : Int32) (hp0 : rs[p0]? = some (a, .inr (6, [.ref w, .int (nI ln)]))) (hp1 : rs[p1]? = some (w, .inl (G.2.1, 32, .inl f))) (hp2 : rs[p2]? = some (b, .inr (6, [.ref x, .int (nI lm)]))) (hp3 : rs[p3]? = some (x, .inl (G.2.1, 32, .inl g))) (hl : ln ≤ 32) (hm : lm ≤ 32) (hf : fs < 2 ^ 20) (hg : gs < 2 ^ 20) (hk : m < 2 ^ 20) {Rr : Option Value}  (C : go_Cx X cX7_turnsInto RX7 (some .boolean) 8 2 44 0 0 G) (E : go_Ex X Rr rs)  : ∀ (n : Nat) (i : Nat) (hin : m < i + n) (hi : i ≤ m) (hR : some (.int (go_b (pc_ti (pc_at ln f) (pc_at lm g) m fs gs u v n i))) = Rr), go_Go X (0, 0) rs [(0, .ref a), (1, .int (nI fs)), (2, .int (nI m)), (3, .ref b), (4, .int (nI gs)), (5, .int u), (6, .int v), (7, .int (nI i))] [] 3 := by
  intro n
  induction n with
  | zero => intro i hin hi hR; omega
  | succ n ih =>
    intro i hin hi hR
    refine go_iload C dX7_turnsInto_3 7 rfl ?_
    refine go_iload_n C dX7_turnsInto_5 2 rfl rfl ?_
    refine go_icmp_geN (a := i) (b := m) C 44 dX7_turnsInto_6 (by decide) (by omega) (by omega) (fun c_6 => ?_) (fun c_6 => ?_)
    · refine go_iconst C (1) dX7_turnsInto_44 (by decide) ?_
      refine go_se [.int (go_b (true))] rfl ?_
      exact go_zret C E dX7_turnsInto_45 (go_bn _) (by rw [← hR]; first | contradiction | rfl | (simp [pc_ti, *]; done) | (rw [decide_eq_true (by omega)]; done) | (rw [decide_eq_false (by omega)]; done) | (simp_all [pc_ti]; done) | (simp [pc_ti]; omega) | (simp_all [pc_ti]; omega) | omega) rfl
    · refine go_aload_n C dX7_turnsInto_9 0 rfl rfl ?_
      refine go_iload_n C dX7_turnsInto_10 1 rfl rfl ?_
      refine go_iload C dX7_turnsInto_11 7 rfl ?_
      refine go_iadd C (z := nI (fs + i)) dX7_turnsInto_13 (nI_add fs i) ?_
      refine go_cV C (c_X7_at G rs p0 p1 a w ln f (fs + i) hp0 hp1 (by omega) (by omega)) ml_X7_19 mc_X7_at dX7_turnsInto_14 [] rfl rfl p0 hp0 rfl rfl ⟨Nat.le_of_ble_eq_true rfl, Nat.le_of_ble_eq_true rfl, Nat.zero_le _, Nat.zero_le _, Nat.le_of_ble_eq_true rfl⟩ [.int (pc_at ln f (fs + i))] rfl ?_
      refine go_iload C dX7_turnsInto_17 5 rfl ?_
      refine go_iload C dX7_turnsInto_19 6 rfl ?_
      refine go_cS C (c_X6_exchanged G rs  (pc_at ln f (fs + i)) u v  ) ml_X7_28 mc_X6_exchanged dX7_turnsInto_21 [] rfl rfl rfl ⟨Nat.le_of_ble_eq_true rfl, Nat.le_of_ble_eq_true rfl, Nat.zero_le _, Nat.zero_le _, Nat.le_of_ble_eq_true rfl⟩ [.int (pc_ex (pc_at ln f (fs + i)) u v)] rfl ?_
      refine go_aload_n C dX7_turnsInto_24 3 rfl rfl ?_
      refine go_iload C dX7_turnsInto_25 4 rfl ?_
      refine go_iload C dX7_turnsInto_27 7 rfl ?_
      refine go_iadd C (z := nI (gs + i)) dX7_turnsInto_29 (nI_add gs i) ?_
      refine go_cV C (c_X7_at G rs p2 p3 b x lm g (gs + i) hp2 hp3 (by omega) (by omega)) ml_X7_19 mc_X7_at dX7_turnsInto_30 [.int (pc_ex (pc_at ln f (fs + i)) u v)] rfl rfl p2 hp2 rfl rfl ⟨Nat.le_of_ble_eq_true rfl, Nat.le_of_ble_eq_true rfl, Nat.zero_le _, Nat.zero_le _, Nat.le_of_ble_eq_true rfl⟩ [.int (pc_at lm g (gs + i)), .int (pc_ex (pc_at ln f (fs + i)) u v)] rfl ?_
      refine go_icmp_eq C 38 dX7_turnsInto_33 (by decide) (fun c_33 => ?_) (fun c_33 => ?_)
      · refine go_iinc C (nI (i + 1)) [(0, .ref a), (1, .int (nI fs)), (2, .int (nI m)), (3, .ref b), (4, .int (nI gs)), (5, .int u), (6, .int v), (7, .int (nI (i + 1)))] dX7_turnsInto_38 7 [1, 2, 3, 4, 5, 6, 7, 0] rfl (nI_add i 1) (by decide) rfl ?_
        refine go_goto C 3 dX7_turnsInto_41 (by decide) ?_
        exact ih (i + 1) (by omega) (by omega) (by rw [← hR]; first | contradiction | rfl | (simp [pc_ti, *]; done) | (rw [decide_eq_true (by omega)]; done) | (rw [decide_eq_false (by omega)]; done) | (simp_all [pc_ti]; done) | (simp [pc_ti]; omega) | (simp_all [pc_ti]; omega) | omega)
      · refine go_iconst C (0) dX7_turnsInto_36 (by decide) ?_
        refine go_se [.int (go_b (false))] rfl ?_
        exact go_zret C E dX7_turnsInto_37 (go_bn _) (by rw [← hR]; first | contradiction | rfl | (simp [pc_ti, *]; done) | (rw [decide_eq_true (by omega)]; done) | (rw [decide_eq_false (by omega)]; done) | (simp_all [pc_ti]; done) | (simp [pc_ti]; omega) | (simp_all [pc_ti]; omega) | omega) rfl
set_option maxHeartbeats 4000000 in
set_option maxRecDepth 100000 in
theorem c_X7_turnsInto (G : go_G) (rs : va_W) (p0 : Nat) (p1 : Nat) (p2 : Nat) (p3 : Nat) (a : Nat) (w : Nat) (ln : Nat) (f : Nat → Int32) (b : Nat) (x : Nat) (lm : Nat) (g : Nat → Int32) (fs : Nat) (m : Nat) (gs : Nat) (u : Int32) (v : Int32) (hp0 : rs[p0]? = some (a, .inr (6, [.ref w, .int (nI ln)]))) (hp1 : rs[p1]? = some (w, .inl (G.2.1, 32, .inl f))) (hp2 : rs[p2]? = some (b, .inr (6, [.ref x, .int (nI lm)]))) (hp3 : rs[p3]? = some (x, .inl (G.2.1, 32, .inl g))) (hl : ln ≤ 32) (hm : lm ≤ 32) (hf : fs < 2 ^ 20) (hg : gs < 2 ^ 20) (hk : m < 2 ^ 20) : go_Fn yX7_turnsInto cX7_turnsInto 8 (some .boolean) 2 44 G [.ref a, .int (nI fs), .int (nI m), .ref b, .int (nI gs), .int u, .int v] rs (some (.int (go_b (pc_ti (pc_at ln f) (pc_at lm g) m fs gs u v (m + 1) 0)))) rs := by
  refine go_Fn_of (by decide) (Nat.le_of_ble_eq_true rfl) (fun X C E => ?_)
  show go_Go X (0, 0) rs [(0, .ref a), (1, .int (nI fs)), (2, .int (nI m)), (3, .ref b), (4, .int (nI gs)), (5, .int u), (6, .int v)] [] 0
  refine go_iconst C (0) dX7_turnsInto_0 (by decide) ?_
  refine go_istore C [(0, .ref a), (1, .int (nI fs)), (2, .int (nI m)), (3, .ref b), (4, .int (nI gs)), (5, .int u), (6, .int v), (7, .int 0)] dX7_turnsInto_1 [1, 2, 3, 4, 5, 6, 7, 0] (by decide) rfl ?_
  exact l_X7_turnsInto_3 G rs p0 p1 p2 p3 a w ln f b x lm g fs m gs u v hp0 hp1 hp2 hp3 hl hm hf hg hk  C E (m + 1) 0 (by omega) (by omega) rfl
