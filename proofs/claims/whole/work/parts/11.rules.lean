set_option maxHeartbeats 4000000 in
set_option maxRecDepth 100000 in
theorem c_X6_heightAfter (G : go_G) (rs : va_W)  (h : Nat) (o : Int32) (m : Bool)  (hh : h ≤ 8) : go_Fn yX6_heightAfter cX6_heightAfter 3 (some .int) 0 0 G [.int (nI h), .int o, .int (go_b (m))] rs (some (.int (pc_oi (pc_hA h o m)))) rs := by
  refine go_Fn_of (by decide) (Nat.le_of_ble_eq_true rfl) (fun X C E => ?_)
  show go_Go X (0, 0) rs [(0, .int (nI h)), (1, .int o), (2, .int (go_b (m)))] [] 0
  refine go_iload_n C dX6_heightAfter_0 1 rfl rfl ?_
  refine go_bipush C (10) dX6_heightAfter_1 (by decide) ?_
  refine go_icmp_eq C 22 dX6_heightAfter_3 (by decide) (fun c_3 => ?_) (fun c_3 => ?_)
  · refine go_iconst C ((-1)) dX6_heightAfter_22 (by decide) ?_
    exact go_iret C E dX6_heightAfter_23 (by first | contradiction | rfl | (simp [pc_oi, pc_hA, *]; done) | (rw [decide_eq_true (by omega)]; done) | (rw [decide_eq_false (by omega)]; done) | (simp_all [pc_oi, pc_hA]; done) | (simp [pc_oi, pc_hA]; omega) | (simp_all [pc_oi, pc_hA]; omega) | omega) rfl
  · refine go_iload_n C dX6_heightAfter_6 1 rfl rfl ?_
    refine go_bipush C (12) dX6_heightAfter_7 (by decide) ?_
    refine go_icmp_eq C 22 dX6_heightAfter_9 (by decide) (fun c_9 => ?_) (fun c_9 => ?_)
    · refine go_iconst C ((-1)) dX6_heightAfter_22 (by decide) ?_
      exact go_iret C E dX6_heightAfter_23 (by first | contradiction | rfl | (simp [pc_oi, pc_hA, *]; done) | (rw [decide_eq_true (by omega)]; done) | (rw [decide_eq_false (by omega)]; done) | (simp_all [pc_oi, pc_hA]; done) | (simp [pc_oi, pc_hA]; omega) | (simp_all [pc_oi, pc_hA]; omega) | omega) rfl
    · refine go_iload_n C dX6_heightAfter_12 1 rfl rfl ?_
      refine go_bipush C (11) dX6_heightAfter_13 (by decide) ?_
      refine go_icmp_ne C 24 dX6_heightAfter_15 (by decide) (fun c_15 => ?_) (fun c_15 => ?_)
      · refine go_iload_n C dX6_heightAfter_24 1 rfl rfl ?_
        refine go_if_eq C 33 dX6_heightAfter_25 (by decide) (fun c_25 => ?_) (fun c_25 => ?_)
        · refine go_iload_n C dX6_heightAfter_33 0 rfl rfl ?_
          refine go_bipush C (8) dX6_heightAfter_34 (by decide) ?_
          refine go_icmp_geN (a := h) (b := 8) C 45 dX6_heightAfter_36 (by decide) (by omega) (by omega) (fun c_36 => ?_) (fun c_36 => ?_)
          · refine go_iconst C ((-1)) dX6_heightAfter_45 (by decide) ?_
            exact go_iret C E dX6_heightAfter_46 (by first | contradiction | rfl | (simp [pc_oi, pc_hA, *]; done) | (rw [decide_eq_true (by omega)]; done) | (rw [decide_eq_false (by omega)]; done) | (simp_all [pc_oi, pc_hA]; done) | (simp [pc_oi, pc_hA]; omega) | (simp_all [pc_oi, pc_hA]; omega) | omega) rfl
          · refine go_iload_n C dX6_heightAfter_39 0 rfl rfl ?_
            refine go_iconst C (1) dX6_heightAfter_40 (by decide) ?_
            refine go_iadd C (z := nI (h + 1)) dX6_heightAfter_41 (nI_add h 1) ?_
            refine go_goto C 46 dX6_heightAfter_42 (by decide) ?_
            exact go_iret C E dX6_heightAfter_46 (by first | contradiction | rfl | (simp [pc_oi, pc_hA, *]; done) | (rw [decide_eq_true (by omega)]; done) | (rw [decide_eq_false (by omega)]; done) | (simp_all [pc_oi, pc_hA]; done) | (simp [pc_oi, pc_hA]; omega) | (simp_all [pc_oi, pc_hA]; omega) | omega) rfl
        · refine go_iload_n C dX6_heightAfter_28 1 rfl rfl ?_
          refine go_iconst C (1) dX6_heightAfter_29 (by decide) ?_
          refine go_icmp_ne C 47 dX6_heightAfter_30 (by decide) (fun c_30 => ?_) (fun c_30 => ?_)
          · refine go_iload_n C dX6_heightAfter_47 1 rfl rfl ?_
            refine go_bipush C (9) dX6_heightAfter_48 (by decide) ?_
            refine go_icmp_ne C 64 dX6_heightAfter_50 (by decide) (fun c_50 => ?_) (fun c_50 => ?_)
            · refine go_iload_n C dX6_heightAfter_64 1 rfl rfl ?_
              refine go_bipush C (11) dX6_heightAfter_65 (by decide) ?_
              refine go_icmp_ne C 83 dX6_heightAfter_67 (by decide) (fun c_67 => ?_) (fun c_67 => ?_)
              · refine go_iload_n C dX6_heightAfter_83 0 rfl rfl ?_
                refine go_iconst C (2) dX6_heightAfter_84 (by decide) ?_
                refine go_icmp_ltN (a := h) (b := 2) C 94 dX6_heightAfter_85 (by decide) (by omega) (by omega) (fun c_85 => ?_) (fun c_85 => ?_)
                · refine go_iconst C ((-1)) dX6_heightAfter_94 (by decide) ?_
                  exact go_iret C E dX6_heightAfter_95 (by first | contradiction | rfl | (simp [pc_oi, pc_hA, *]; done) | (rw [decide_eq_true (by omega)]; done) | (rw [decide_eq_false (by omega)]; done) | (simp_all [pc_oi, pc_hA]; done) | (simp [pc_oi, pc_hA]; omega) | (simp_all [pc_oi, pc_hA]; omega) | omega) rfl
                · refine go_iload_n C dX6_heightAfter_88 0 rfl rfl ?_
                  refine go_iconst C (1) dX6_heightAfter_89 (by decide) ?_
                  refine go_isub C (z := nI (h - 1)) dX6_heightAfter_90 (pk_sub (a := h) (b := 1) (by omega)) ?_
                  refine go_goto C 95 dX6_heightAfter_91 (by decide) ?_
                  exact go_iret C E dX6_heightAfter_95 (by first | contradiction | rfl | (simp [pc_oi, pc_hA, *]; done) | (rw [decide_eq_true (by omega)]; done) | (rw [decide_eq_false (by omega)]; done) | (simp_all [pc_oi, pc_hA]; done) | (simp [pc_oi, pc_hA]; omega) | (simp_all [pc_oi, pc_hA]; omega) | omega) rfl
              · refine go_iload_n C dX6_heightAfter_70 0 rfl rfl ?_
                refine go_iconst C (1) dX6_heightAfter_71 (by decide) ?_
                refine go_icmp_ltN (a := h) (b := 1) C 81 dX6_heightAfter_72 (by decide) (by omega) (by omega) (fun c_72 => ?_) (fun c_72 => ?_)
                · refine go_iconst C ((-1)) dX6_heightAfter_81 (by decide) ?_
                  exact go_iret C E dX6_heightAfter_82 (by first | contradiction | rfl | (simp [pc_oi, pc_hA, *]; done) | (rw [decide_eq_true (by omega)]; done) | (rw [decide_eq_false (by omega)]; done) | (simp_all [pc_oi, pc_hA]; done) | (simp [pc_oi, pc_hA]; omega) | (simp_all [pc_oi, pc_hA]; omega) | omega) rfl
                · refine go_iload_n C dX6_heightAfter_75 0 rfl rfl ?_
                  refine go_iconst C (1) dX6_heightAfter_76 (by decide) ?_
                  refine go_isub C (z := nI (h - 1)) dX6_heightAfter_77 (pk_sub (a := h) (b := 1) (by omega)) ?_
                  refine go_goto C 82 dX6_heightAfter_78 (by decide) ?_
                  exact go_iret C E dX6_heightAfter_82 (by first | contradiction | rfl | (simp [pc_oi, pc_hA, *]; done) | (rw [decide_eq_true (by omega)]; done) | (rw [decide_eq_false (by omega)]; done) | (simp_all [pc_oi, pc_hA]; done) | (simp [pc_oi, pc_hA]; omega) | (simp_all [pc_oi, pc_hA]; omega) | omega) rfl
            · refine go_iload_n C dX6_heightAfter_53 0 rfl rfl ?_
              refine go_iconst C (1) dX6_heightAfter_54 (by decide) ?_
              refine go_icmp_ltN (a := h) (b := 1) C 62 dX6_heightAfter_55 (by decide) (by omega) (by omega) (fun c_55 => ?_) (fun c_55 => ?_)
              · refine go_iconst C ((-1)) dX6_heightAfter_62 (by decide) ?_
                exact go_iret C E dX6_heightAfter_63 (by first | contradiction | rfl | (simp [pc_oi, pc_hA, *]; done) | (rw [decide_eq_true (by omega)]; done) | (rw [decide_eq_false (by omega)]; done) | (simp_all [pc_oi, pc_hA]; done) | (simp [pc_oi, pc_hA]; omega) | (simp_all [pc_oi, pc_hA]; omega) | omega) rfl
              · refine go_iload_n C dX6_heightAfter_58 0 rfl rfl ?_
                refine go_goto C 63 dX6_heightAfter_59 (by decide) ?_
                exact go_iret C E dX6_heightAfter_63 (by first | contradiction | rfl | (simp [pc_oi, pc_hA, *]; done) | (rw [decide_eq_true (by omega)]; done) | (rw [decide_eq_false (by omega)]; done) | (simp_all [pc_oi, pc_hA]; done) | (simp [pc_oi, pc_hA]; omega) | (simp_all [pc_oi, pc_hA]; omega) | omega) rfl
          · refine go_iload_n C dX6_heightAfter_33 0 rfl rfl ?_
            refine go_bipush C (8) dX6_heightAfter_34 (by decide) ?_
            refine go_icmp_geN (a := h) (b := 8) C 45 dX6_heightAfter_36 (by decide) (by omega) (by omega) (fun c_36 => ?_) (fun c_36 => ?_)
            · refine go_iconst C ((-1)) dX6_heightAfter_45 (by decide) ?_
              exact go_iret C E dX6_heightAfter_46 (by first | contradiction | rfl | (simp [pc_oi, pc_hA, *]; done) | (rw [decide_eq_true (by omega)]; done) | (rw [decide_eq_false (by omega)]; done) | (simp_all [pc_oi, pc_hA]; done) | (simp [pc_oi, pc_hA]; omega) | (simp_all [pc_oi, pc_hA]; omega) | omega) rfl
            · refine go_iload_n C dX6_heightAfter_39 0 rfl rfl ?_
              refine go_iconst C (1) dX6_heightAfter_40 (by decide) ?_
              refine go_iadd C (z := nI (h + 1)) dX6_heightAfter_41 (nI_add h 1) ?_
              refine go_goto C 46 dX6_heightAfter_42 (by decide) ?_
              exact go_iret C E dX6_heightAfter_46 (by first | contradiction | rfl | (simp [pc_oi, pc_hA, *]; done) | (rw [decide_eq_true (by omega)]; done) | (rw [decide_eq_false (by omega)]; done) | (simp_all [pc_oi, pc_hA]; done) | (simp [pc_oi, pc_hA]; omega) | (simp_all [pc_oi, pc_hA]; omega) | omega) rfl
      · refine go_iload_n C dX6_heightAfter_18 2 rfl rfl ?_
        refine go_if_neB C 24 dX6_heightAfter_19 (by decide) (fun c_19 => ?_) (fun c_19 => ?_)
        · refine go_iload_n C dX6_heightAfter_24 1 rfl rfl ?_
          refine go_if_eq C 33 dX6_heightAfter_25 (by decide) (fun c_25 => ?_) (fun c_25 => ?_)
          · refine go_iload_n C dX6_heightAfter_33 0 rfl rfl ?_
            refine go_bipush C (8) dX6_heightAfter_34 (by decide) ?_
            refine go_icmp_geN (a := h) (b := 8) C 45 dX6_heightAfter_36 (by decide) (by omega) (by omega) (fun c_36 => ?_) (fun c_36 => ?_)
            · refine go_iconst C ((-1)) dX6_heightAfter_45 (by decide) ?_
              exact go_iret C E dX6_heightAfter_46 (by first | contradiction | rfl | (simp [pc_oi, pc_hA, *]; done) | (rw [decide_eq_true (by omega)]; done) | (rw [decide_eq_false (by omega)]; done) | (simp_all [pc_oi, pc_hA]; done) | (simp [pc_oi, pc_hA]; omega) | (simp_all [pc_oi, pc_hA]; omega) | omega) rfl
            · refine go_iload_n C dX6_heightAfter_39 0 rfl rfl ?_
              refine go_iconst C (1) dX6_heightAfter_40 (by decide) ?_
              refine go_iadd C (z := nI (h + 1)) dX6_heightAfter_41 (nI_add h 1) ?_
              refine go_goto C 46 dX6_heightAfter_42 (by decide) ?_
              exact go_iret C E dX6_heightAfter_46 (by first | contradiction | rfl | (simp [pc_oi, pc_hA, *]; done) | (rw [decide_eq_true (by omega)]; done) | (rw [decide_eq_false (by omega)]; done) | (simp_all [pc_oi, pc_hA]; done) | (simp [pc_oi, pc_hA]; omega) | (simp_all [pc_oi, pc_hA]; omega) | omega) rfl
          · refine go_iload_n C dX6_heightAfter_28 1 rfl rfl ?_
            refine go_iconst C (1) dX6_heightAfter_29 (by decide) ?_
            refine go_icmp_ne C 47 dX6_heightAfter_30 (by decide) (fun c_30 => ?_) (fun c_30 => ?_)
            · refine go_iload_n C dX6_heightAfter_47 1 rfl rfl ?_
              refine go_bipush C (9) dX6_heightAfter_48 (by decide) ?_
              refine go_icmp_ne C 64 dX6_heightAfter_50 (by decide) (fun c_50 => ?_) (fun c_50 => ?_)
              · refine go_iload_n C dX6_heightAfter_64 1 rfl rfl ?_
                refine go_bipush C (11) dX6_heightAfter_65 (by decide) ?_
                refine go_icmp_ne C 83 dX6_heightAfter_67 (by decide) (fun c_67 => ?_) (fun c_67 => ?_)
                · refine go_iload_n C dX6_heightAfter_83 0 rfl rfl ?_
                  refine go_iconst C (2) dX6_heightAfter_84 (by decide) ?_
                  refine go_icmp_ltN (a := h) (b := 2) C 94 dX6_heightAfter_85 (by decide) (by omega) (by omega) (fun c_85 => ?_) (fun c_85 => ?_)
                  · refine go_iconst C ((-1)) dX6_heightAfter_94 (by decide) ?_
                    exact go_iret C E dX6_heightAfter_95 (by first | contradiction | rfl | (simp [pc_oi, pc_hA, *]; done) | (rw [decide_eq_true (by omega)]; done) | (rw [decide_eq_false (by omega)]; done) | (simp_all [pc_oi, pc_hA]; done) | (simp [pc_oi, pc_hA]; omega) | (simp_all [pc_oi, pc_hA]; omega) | omega) rfl
                  · refine go_iload_n C dX6_heightAfter_88 0 rfl rfl ?_
                    refine go_iconst C (1) dX6_heightAfter_89 (by decide) ?_
                    refine go_isub C (z := nI (h - 1)) dX6_heightAfter_90 (pk_sub (a := h) (b := 1) (by omega)) ?_
                    refine go_goto C 95 dX6_heightAfter_91 (by decide) ?_
                    exact go_iret C E dX6_heightAfter_95 (by first | contradiction | rfl | (simp [pc_oi, pc_hA, *]; done) | (rw [decide_eq_true (by omega)]; done) | (rw [decide_eq_false (by omega)]; done) | (simp_all [pc_oi, pc_hA]; done) | (simp [pc_oi, pc_hA]; omega) | (simp_all [pc_oi, pc_hA]; omega) | omega) rfl
                · refine go_iload_n C dX6_heightAfter_70 0 rfl rfl ?_
                  refine go_iconst C (1) dX6_heightAfter_71 (by decide) ?_
                  refine go_icmp_ltN (a := h) (b := 1) C 81 dX6_heightAfter_72 (by decide) (by omega) (by omega) (fun c_72 => ?_) (fun c_72 => ?_)
                  · refine go_iconst C ((-1)) dX6_heightAfter_81 (by decide) ?_
                    exact go_iret C E dX6_heightAfter_82 (by first | contradiction | rfl | (simp [pc_oi, pc_hA, *]; done) | (rw [decide_eq_true (by omega)]; done) | (rw [decide_eq_false (by omega)]; done) | (simp_all [pc_oi, pc_hA]; done) | (simp [pc_oi, pc_hA]; omega) | (simp_all [pc_oi, pc_hA]; omega) | omega) rfl
                  · refine go_iload_n C dX6_heightAfter_75 0 rfl rfl ?_
                    refine go_iconst C (1) dX6_heightAfter_76 (by decide) ?_
                    refine go_isub C (z := nI (h - 1)) dX6_heightAfter_77 (pk_sub (a := h) (b := 1) (by omega)) ?_
                    refine go_goto C 82 dX6_heightAfter_78 (by decide) ?_
                    exact go_iret C E dX6_heightAfter_82 (by first | contradiction | rfl | (simp [pc_oi, pc_hA, *]; done) | (rw [decide_eq_true (by omega)]; done) | (rw [decide_eq_false (by omega)]; done) | (simp_all [pc_oi, pc_hA]; done) | (simp [pc_oi, pc_hA]; omega) | (simp_all [pc_oi, pc_hA]; omega) | omega) rfl
              · refine go_iload_n C dX6_heightAfter_53 0 rfl rfl ?_
                refine go_iconst C (1) dX6_heightAfter_54 (by decide) ?_
                refine go_icmp_ltN (a := h) (b := 1) C 62 dX6_heightAfter_55 (by decide) (by omega) (by omega) (fun c_55 => ?_) (fun c_55 => ?_)
                · refine go_iconst C ((-1)) dX6_heightAfter_62 (by decide) ?_
                  exact go_iret C E dX6_heightAfter_63 (by first | contradiction | rfl | (simp [pc_oi, pc_hA, *]; done) | (rw [decide_eq_true (by omega)]; done) | (rw [decide_eq_false (by omega)]; done) | (simp_all [pc_oi, pc_hA]; done) | (simp [pc_oi, pc_hA]; omega) | (simp_all [pc_oi, pc_hA]; omega) | omega) rfl
                · refine go_iload_n C dX6_heightAfter_58 0 rfl rfl ?_
                  refine go_goto C 63 dX6_heightAfter_59 (by decide) ?_
                  exact go_iret C E dX6_heightAfter_63 (by first | contradiction | rfl | (simp [pc_oi, pc_hA, *]; done) | (rw [decide_eq_true (by omega)]; done) | (rw [decide_eq_false (by omega)]; done) | (simp_all [pc_oi, pc_hA]; done) | (simp [pc_oi, pc_hA]; omega) | (simp_all [pc_oi, pc_hA]; omega) | omega) rfl
            · refine go_iload_n C dX6_heightAfter_33 0 rfl rfl ?_
              refine go_bipush C (8) dX6_heightAfter_34 (by decide) ?_
              refine go_icmp_geN (a := h) (b := 8) C 45 dX6_heightAfter_36 (by decide) (by omega) (by omega) (fun c_36 => ?_) (fun c_36 => ?_)
              · refine go_iconst C ((-1)) dX6_heightAfter_45 (by decide) ?_
                exact go_iret C E dX6_heightAfter_46 (by first | contradiction | rfl | (simp [pc_oi, pc_hA, *]; done) | (rw [decide_eq_true (by omega)]; done) | (rw [decide_eq_false (by omega)]; done) | (simp_all [pc_oi, pc_hA]; done) | (simp [pc_oi, pc_hA]; omega) | (simp_all [pc_oi, pc_hA]; omega) | omega) rfl
              · refine go_iload_n C dX6_heightAfter_39 0 rfl rfl ?_
                refine go_iconst C (1) dX6_heightAfter_40 (by decide) ?_
                refine go_iadd C (z := nI (h + 1)) dX6_heightAfter_41 (nI_add h 1) ?_
                refine go_goto C 46 dX6_heightAfter_42 (by decide) ?_
                exact go_iret C E dX6_heightAfter_46 (by first | contradiction | rfl | (simp [pc_oi, pc_hA, *]; done) | (rw [decide_eq_true (by omega)]; done) | (rw [decide_eq_false (by omega)]; done) | (simp_all [pc_oi, pc_hA]; done) | (simp [pc_oi, pc_hA]; omega) | (simp_all [pc_oi, pc_hA]; omega) | omega) rfl
        · refine go_iconst C ((-1)) dX6_heightAfter_22 (by decide) ?_
          exact go_iret C E dX6_heightAfter_23 (by first | contradiction | rfl | (simp [pc_oi, pc_hA, *]; done) | (rw [decide_eq_true (by omega)]; done) | (rw [decide_eq_false (by omega)]; done) | (simp_all [pc_oi, pc_hA]; done) | (simp [pc_oi, pc_hA]; omega) | (simp_all [pc_oi, pc_hA]; omega) | omega) rfl
set_option maxHeartbeats 4000000 in
set_option maxRecDepth 100000 in
theorem l_X3_isRight_6 {X : go_X} (G : go_G) (rs : va_W) (p0 : Nat) (p1 : Nat) (a : Nat) (w : Nat) (ln : Nat) (f : Nat → Int32) (hp0 : rs[p0]? = some (a, .inr (6, [.ref w, .int (nI ln)]))) (hp1 : rs[p1]? = some (w, .inl (G.2.1, 32, .inl f))) (hl : ln ≤ 32) {Rr : Option Value}  (C : go_Cx X cX3_isRight RX3 (some .boolean) 4 2 42 0 0 G) (E : go_Ex X Rr rs)  : ∀ (n : Nat) (i : Nat) (bt : Bool) (h : Nat) (hin : ln < i + n) (hi : i ≤ ln) (hh : h ≤ 8) (hR : some (.int (go_b (pc_rR ln f n i bt h))) = Rr), go_Go X (0, 0) rs [(0, .ref a), (1, .int (go_b (bt))), (2, .int (nI h)), (3, .int (nI i))] [] 6 := by
  intro n
  induction n with
  | zero => intro i bt h hin hi hh hR; omega
  | succ n ih =>
    intro i bt h hin hi hh hR
    refine go_iload_n C dX3_isRight_6 3 rfl rfl ?_
    refine go_aload_n C dX3_isRight_7 0 rfl rfl ?_
    refine go_cV C (c_X7_length G rs p0 a w ln hp0 ) ml_X3_37 mc_X7_length dX3_isRight_8 [.int (nI i)] rfl rfl p0 hp0 rfl rfl ⟨Nat.le_of_ble_eq_true rfl, Nat.le_of_ble_eq_true rfl, Nat.zero_le _, Nat.zero_le _, Nat.le_of_ble_eq_true rfl⟩ [.int (nI ln), .int (nI i)] rfl ?_
    refine go_icmp_geN (a := i) (b := ln) C 66 dX3_isRight_11 (by decide) (by omega) (by omega) (fun c_11 => ?_) (fun c_11 => ?_)
    · refine go_iload_n C dX3_isRight_66 1 rfl rfl ?_
      refine go_if_eqB C 78 dX3_isRight_67 (by decide) (fun c_67 => ?_) (fun c_67 => ?_)
      · refine go_iconst C (0) dX3_isRight_78 (by decide) ?_
        refine go_se [.int (go_b (false))] rfl ?_
        exact go_zret C E dX3_isRight_79 (go_bn _) (by rw [← hR]; first | contradiction | rfl | (simp [pc_rR, pc_oi_m1 hh, *]; done) | (rw [decide_eq_true (by omega)]; done) | (rw [decide_eq_false (by omega)]; done) | (simp_all [pc_rR, pc_oi_m1 hh]; done) | (simp [pc_rR, pc_oi_m1 hh]; omega) | (simp_all [pc_rR, pc_oi_m1 hh]; omega) | omega) rfl
      · refine go_iload_n C dX3_isRight_70 2 rfl rfl ?_
        refine go_if_neN C 78 dX3_isRight_71 (by decide) (by omega) (fun c_71 => ?_) (fun c_71 => ?_)
        · refine go_iconst C (0) dX3_isRight_78 (by decide) ?_
          refine go_se [.int (go_b (false))] rfl ?_
          exact go_zret C E dX3_isRight_79 (go_bn _) (by rw [← hR]; first | contradiction | rfl | (simp [pc_rR, pc_oi_m1 hh, *]; done) | (rw [decide_eq_true (by omega)]; done) | (rw [decide_eq_false (by omega)]; done) | (simp_all [pc_rR, pc_oi_m1 hh]; done) | (simp [pc_rR, pc_oi_m1 hh]; omega) | (simp_all [pc_rR, pc_oi_m1 hh]; omega) | omega) rfl
        · refine go_iconst C (1) dX3_isRight_74 (by decide) ?_
          refine go_goto C 79 dX3_isRight_75 (by decide) ?_
          refine go_se [.int (go_b (true))] rfl ?_
          exact go_zret C E dX3_isRight_79 (go_bn _) (by rw [← hR]; first | contradiction | rfl | (simp [pc_rR, pc_oi_m1 hh, *]; done) | (rw [decide_eq_true (by omega)]; done) | (rw [decide_eq_false (by omega)]; done) | (simp_all [pc_rR, pc_oi_m1 hh]; done) | (simp [pc_rR, pc_oi_m1 hh]; omega) | (simp_all [pc_rR, pc_oi_m1 hh]; omega) | omega) rfl
    · refine go_aload_n C dX3_isRight_14 0 rfl rfl ?_
      refine go_iload_n C dX3_isRight_15 3 rfl rfl ?_
      refine go_cV C (c_X7_opAt G rs p0 p1 a w ln f i hp0 hp1 (by omega) (by omega)) ml_X3_41 mc_X7_opAt dX3_isRight_16 [] rfl rfl p0 hp0 rfl rfl ⟨Nat.le_of_ble_eq_true rfl, Nat.le_of_ble_eq_true rfl, Nat.zero_le _, Nat.zero_le _, Nat.le_of_ble_eq_true rfl⟩ [.int (pc_op (f i))] (by simp [pc_at, *]) ?_
      refine go_bipush C (10) dX3_isRight_19 (by decide) ?_
      refine go_icmp_ne C 42 dX3_isRight_21 (by decide) (fun c_21 => ?_) (fun c_21 => ?_)
      · refine go_iload_n C dX3_isRight_42 2 rfl rfl ?_
        refine go_aload_n C dX3_isRight_43 0 rfl rfl ?_
        refine go_iload_n C dX3_isRight_44 3 rfl rfl ?_
        refine go_cV C (c_X7_opAt G rs p0 p1 a w ln f i hp0 hp1 (by omega) (by omega)) ml_X3_41 mc_X7_opAt dX3_isRight_45 [.int (nI h)] rfl rfl p0 hp0 rfl rfl ⟨Nat.le_of_ble_eq_true rfl, Nat.le_of_ble_eq_true rfl, Nat.zero_le _, Nat.zero_le _, Nat.le_of_ble_eq_true rfl⟩ [.int (pc_op (f i)), .int (nI h)] (by simp [pc_at, *]) ?_
        refine go_iload_n C dX3_isRight_48 1 rfl rfl ?_
        refine go_cS C (c_X6_heightAfter G rs  h (pc_op (f i)) bt  (by omega)) ml_X3_45 mc_X6_heightAfter dX3_isRight_49 [] rfl rfl rfl ⟨Nat.le_of_ble_eq_true rfl, Nat.le_of_ble_eq_true rfl, Nat.zero_le _, Nat.zero_le _, Nat.le_of_ble_eq_true rfl⟩ [.int (pc_oi (pc_hA h (pc_op (f i)) bt))] rfl ?_
        refine go_istore_n C [(0, .ref a), (1, .int (go_b (bt))), (2, .int (pc_oi (pc_hA h (pc_op (f i)) bt))), (3, .int (nI i))] dX3_isRight_52 [1, 2, 0, 3] rfl (by decide) rfl ?_
        refine go_iload_n C dX3_isRight_53 2 rfl rfl ?_
        refine go_iconst C ((-1)) dX3_isRight_54 (by decide) ?_
        refine go_icmp_ne C 60 dX3_isRight_55 (by decide) (fun c_55 => ?_) (fun c_55 => ?_)
        · obtain ⟨h_1, hh_1, hb_1⟩ := pc_oi_ne (by omega) c_55
          refine go_le [(0, .ref a), (1, .int (go_b (bt))), (2, .int (nI h_1)), (3, .int (nI i))] (by rw [hh_1]; rfl) ?_
          refine go_iinc C (nI (i + 1)) [(0, .ref a), (1, .int (go_b (bt))), (2, .int (nI h_1)), (3, .int (nI (i + 1)))] dX3_isRight_60 3 [1, 2, 3, 0] rfl (nI_add i 1) (by decide) rfl ?_
          refine go_goto C 6 dX3_isRight_63 (by decide) ?_
          exact ih (i + 1) bt h_1 (by omega) (by omega) (by omega) (by rw [← hR]; first | contradiction | rfl | (simp [pc_rR, *]; done) | (rw [decide_eq_true (by omega)]; done) | (rw [decide_eq_false (by omega)]; done) | (simp_all [pc_rR]; done) | (simp [pc_rR]; omega) | (simp_all [pc_rR]; omega) | omega)
        · refine go_iconst C (0) dX3_isRight_58 (by decide) ?_
          refine go_se [.int (go_b (false))] rfl ?_
          exact go_zret C E dX3_isRight_59 (go_bn _) (by rw [← hR]; first | contradiction | rfl | (simp [pc_rR, pc_oi_m1 hh, *]; done) | (rw [decide_eq_true (by omega)]; done) | (rw [decide_eq_false (by omega)]; done) | (simp_all [pc_rR, pc_oi_m1 hh]; done) | (simp [pc_rR, pc_oi_m1 hh]; omega) | (simp_all [pc_rR, pc_oi_m1 hh]; omega) | omega) rfl
      · refine go_iload_n C dX3_isRight_24 1 rfl rfl ?_
        refine go_if_neB C 42 dX3_isRight_25 (by decide) (fun c_25 => ?_) (fun c_25 => ?_)
        · refine go_iload_n C dX3_isRight_42 2 rfl rfl ?_
          refine go_aload_n C dX3_isRight_43 0 rfl rfl ?_
          refine go_iload_n C dX3_isRight_44 3 rfl rfl ?_
          refine go_cV C (c_X7_opAt G rs p0 p1 a w ln f i hp0 hp1 (by omega) (by omega)) ml_X3_41 mc_X7_opAt dX3_isRight_45 [.int (nI h)] rfl rfl p0 hp0 rfl rfl ⟨Nat.le_of_ble_eq_true rfl, Nat.le_of_ble_eq_true rfl, Nat.zero_le _, Nat.zero_le _, Nat.le_of_ble_eq_true rfl⟩ [.int (pc_op (f i)), .int (nI h)] (by simp [pc_at, *]) ?_
          refine go_iload_n C dX3_isRight_48 1 rfl rfl ?_
          refine go_cS C (c_X6_heightAfter G rs  h (pc_op (f i)) bt  (by omega)) ml_X3_45 mc_X6_heightAfter dX3_isRight_49 [] rfl rfl rfl ⟨Nat.le_of_ble_eq_true rfl, Nat.le_of_ble_eq_true rfl, Nat.zero_le _, Nat.zero_le _, Nat.le_of_ble_eq_true rfl⟩ [.int (pc_oi (pc_hA h (pc_op (f i)) bt))] rfl ?_
          refine go_istore_n C [(0, .ref a), (1, .int (go_b (bt))), (2, .int (pc_oi (pc_hA h (pc_op (f i)) bt))), (3, .int (nI i))] dX3_isRight_52 [1, 2, 0, 3] rfl (by decide) rfl ?_
          refine go_iload_n C dX3_isRight_53 2 rfl rfl ?_
          refine go_iconst C ((-1)) dX3_isRight_54 (by decide) ?_
          refine go_icmp_ne C 60 dX3_isRight_55 (by decide) (fun c_55 => ?_) (fun c_55 => ?_)
          · obtain ⟨h_2, hh_2, hb_2⟩ := pc_oi_ne (by omega) c_55
            refine go_le [(0, .ref a), (1, .int (go_b (bt))), (2, .int (nI h_2)), (3, .int (nI i))] (by rw [hh_2]; rfl) ?_
            refine go_iinc C (nI (i + 1)) [(0, .ref a), (1, .int (go_b (bt))), (2, .int (nI h_2)), (3, .int (nI (i + 1)))] dX3_isRight_60 3 [1, 2, 3, 0] rfl (nI_add i 1) (by decide) rfl ?_
            refine go_goto C 6 dX3_isRight_63 (by decide) ?_
            exact ih (i + 1) bt h_2 (by omega) (by omega) (by omega) (by rw [← hR]; first | contradiction | rfl | (simp [pc_rR, *]; done) | (rw [decide_eq_true (by omega)]; done) | (rw [decide_eq_false (by omega)]; done) | (simp_all [pc_rR]; done) | (simp [pc_rR]; omega) | (simp_all [pc_rR]; omega) | omega)
          · refine go_iconst C (0) dX3_isRight_58 (by decide) ?_
            refine go_se [.int (go_b (false))] rfl ?_
            exact go_zret C E dX3_isRight_59 (go_bn _) (by rw [← hR]; first | contradiction | rfl | (simp [pc_rR, pc_oi_m1 hh, *]; done) | (rw [decide_eq_true (by omega)]; done) | (rw [decide_eq_false (by omega)]; done) | (simp_all [pc_rR, pc_oi_m1 hh]; done) | (simp [pc_rR, pc_oi_m1 hh]; omega) | (simp_all [pc_rR, pc_oi_m1 hh]; omega) | omega) rfl
        · refine go_iload_n C dX3_isRight_28 2 rfl rfl ?_
          refine go_iconst C (1) dX3_isRight_29 (by decide) ?_
          refine go_icmp_eqN (a := h) (b := 1) C 35 dX3_isRight_30 (by decide) (by omega) (by omega) (fun c_30 => ?_) (fun c_30 => ?_)
          · refine go_iconst C (1) dX3_isRight_35 (by decide) ?_
            refine go_istore_n C [(0, .ref a), (1, .int 1), (2, .int (nI h)), (3, .int (nI i))] dX3_isRight_36 [1, 0, 2, 3] rfl (by decide) rfl ?_
            refine go_iconst C (0) dX3_isRight_37 (by decide) ?_
            refine go_istore_n C [(0, .ref a), (1, .int 1), (2, .int 0), (3, .int (nI i))] dX3_isRight_38 [1, 2, 0, 3] rfl (by decide) rfl ?_
            refine go_goto C 53 dX3_isRight_39 (by decide) ?_
            refine go_iload_n C dX3_isRight_53 2 rfl rfl ?_
            refine go_iconst C ((-1)) dX3_isRight_54 (by decide) ?_
            refine go_icmp_ne C 60 dX3_isRight_55 (by decide) (fun c_55 => ?_) (fun c_55 => ?_)
            · refine go_iinc C (nI (i + 1)) [(0, .ref a), (1, .int 1), (2, .int 0), (3, .int (nI (i + 1)))] dX3_isRight_60 3 [1, 2, 3, 0] rfl (nI_add i 1) (by decide) rfl ?_
              refine go_goto C 6 dX3_isRight_63 (by decide) ?_
              exact ih (i + 1) true 0 (by omega) (by omega) (by omega) (by rw [← hR]; first | contradiction | rfl | (simp [pc_rR, *]; done) | (rw [decide_eq_true (by omega)]; done) | (rw [decide_eq_false (by omega)]; done) | (simp_all [pc_rR]; done) | (simp [pc_rR]; omega) | (simp_all [pc_rR]; omega) | omega)
            · exact absurd c_55 (by decide)
          · refine go_iconst C (0) dX3_isRight_33 (by decide) ?_
            refine go_se [.int (go_b (false))] rfl ?_
            exact go_zret C E dX3_isRight_34 (go_bn _) (by rw [← hR]; first | contradiction | rfl | (simp [pc_rR, pc_oi_m1 hh, *]; done) | (rw [decide_eq_true (by omega)]; done) | (rw [decide_eq_false (by omega)]; done) | (simp_all [pc_rR, pc_oi_m1 hh]; done) | (simp [pc_rR, pc_oi_m1 hh]; omega) | (simp_all [pc_rR, pc_oi_m1 hh]; omega) | omega) rfl
set_option maxHeartbeats 4000000 in
set_option maxRecDepth 100000 in
theorem c_X3_isRight (G : go_G) (rs : va_W) (p0 : Nat) (p1 : Nat) (a : Nat) (w : Nat) (ln : Nat) (f : Nat → Int32) (hp0 : rs[p0]? = some (a, .inr (6, [.ref w, .int (nI ln)]))) (hp1 : rs[p1]? = some (w, .inl (G.2.1, 32, .inl f))) (hl : ln ≤ 32) : go_Fn yX3_isRight cX3_isRight 4 (some .boolean) 2 42 G [.ref a] rs (some (.int (go_b (pc_rR ln f (ln + 1) 0 false 0)))) rs := by
  refine go_Fn_of (by decide) (Nat.le_of_ble_eq_true rfl) (fun X C E => ?_)
  show go_Go X (0, 0) rs [(0, .ref a)] [] 0
  refine go_iconst C (0) dX3_isRight_0 (by decide) ?_
  refine go_istore_n C [(0, .ref a), (1, .int 0)] dX3_isRight_1 [1, 0] rfl (by decide) rfl ?_
  refine go_iconst C (0) dX3_isRight_2 (by decide) ?_
  refine go_istore_n C [(0, .ref a), (1, .int 0), (2, .int 0)] dX3_isRight_3 [1, 2, 0] rfl (by decide) rfl ?_
  refine go_iconst C (0) dX3_isRight_4 (by decide) ?_
  refine go_istore_n C [(0, .ref a), (1, .int 0), (2, .int 0), (3, .int 0)] dX3_isRight_5 [1, 2, 3, 0] rfl (by decide) rfl ?_
  exact l_X3_isRight_6 G rs p0 p1 a w ln f hp0 hp1 hl  C E (ln + 1) 0 false 0 (by omega) (by omega) (by omega) rfl
set_option maxHeartbeats 4000000 in
set_option maxRecDepth 100000 in
theorem l_X1_isRight_4 {X : go_X} (G : go_G) (rs : va_W) (p0 : Nat) (p1 : Nat) (p2 : Nat) (v : Nat) (a : Nat) (w : Nat) (ln : Nat) (f : Nat → Int32) (hp0 : rs[p0]? = some (v, .inr (1, [.ref a]))) (hp1 : rs[p1]? = some (a, .inr (6, [.ref w, .int (nI ln)]))) (hp2 : rs[p2]? = some (w, .inl (G.2.1, 32, .inl f))) (hl : ln ≤ 32) {Rr : Option Value}  (C : go_Cx X cX1_isRight RX1 (some .boolean) 3 2 42 0 0 G) (E : go_Ex X Rr rs)  : ∀ (n : Nat) (i : Nat) (h : Nat) (hin : ln < i + n) (hi : i ≤ ln) (hh : h ≤ 8) (hR : some (.int (go_b (pc_iR ln f n i h))) = Rr), go_Go X (0, 0) rs [(0, .ref v), (1, .int (nI h)), (2, .int (nI i))] [] 4 := by
  intro n
  induction n with
  | zero => intro i h hin hi hh hR; omega
  | succ n ih =>
    intro i h hin hi hh hR
    refine go_iload_n C dX1_isRight_4 2 rfl rfl ?_
    refine go_aload_n C dX1_isRight_5 0 rfl rfl ?_
    refine go_get C (v := .ref a) fl_X1_12 dX1_isRight_6 p0 hp0 rfl ?_
    refine go_cV C (c_X7_length G rs p1 a w ln hp1 ) ml_X1_18 mc_X7_length dX1_isRight_9 [.int (nI i)] rfl rfl p1 hp1 rfl rfl ⟨Nat.le_of_ble_eq_true rfl, Nat.le_of_ble_eq_true rfl, Nat.zero_le _, Nat.zero_le _, Nat.le_of_ble_eq_true rfl⟩ [.int (nI ln), .int (nI i)] rfl ?_
    refine go_icmp_geN (a := i) (b := ln) C 67 dX1_isRight_12 (by decide) (by omega) (by omega) (fun c_12 => ?_) (fun c_12 => ?_)
    · refine go_iload_n C dX1_isRight_67 1 rfl rfl ?_
      refine go_iconst C (1) dX1_isRight_68 (by decide) ?_
      refine go_icmp_neN (a := h) (b := 1) C 76 dX1_isRight_69 (by decide) (by omega) (by omega) (fun c_69 => ?_) (fun c_69 => ?_)
      · refine go_iconst C (0) dX1_isRight_76 (by decide) ?_
        refine go_se [.int (go_b (false))] rfl ?_
        exact go_zret C E dX1_isRight_77 (go_bn _) (by rw [← hR]; first | contradiction | rfl | (simp [pc_iR, pc_oi_m1 hh, *]; done) | (rw [decide_eq_true (by omega)]; done) | (rw [decide_eq_false (by omega)]; done) | (simp_all [pc_iR, pc_oi_m1 hh]; done) | (simp [pc_iR, pc_oi_m1 hh]; omega) | (simp_all [pc_iR, pc_oi_m1 hh]; omega) | omega) rfl
      · refine go_iconst C (1) dX1_isRight_72 (by decide) ?_
        refine go_goto C 77 dX1_isRight_73 (by decide) ?_
        refine go_se [.int (go_b (true))] rfl ?_
        exact go_zret C E dX1_isRight_77 (go_bn _) (by rw [← hR]; first | contradiction | rfl | (simp [pc_iR, pc_oi_m1 hh, *]; done) | (rw [decide_eq_true (by omega)]; done) | (rw [decide_eq_false (by omega)]; done) | (simp_all [pc_iR, pc_oi_m1 hh]; done) | (simp [pc_iR, pc_oi_m1 hh]; omega) | (simp_all [pc_iR, pc_oi_m1 hh]; omega) | omega) rfl
    · refine go_aload_n C dX1_isRight_15 0 rfl rfl ?_
      refine go_get C (v := .ref a) fl_X1_12 dX1_isRight_16 p0 hp0 rfl ?_
      refine go_iload_n C dX1_isRight_19 2 rfl rfl ?_
      refine go_cV C (c_X7_opAt G rs p1 p2 a w ln f i hp1 hp2 (by omega) (by omega)) ml_X1_22 mc_X7_opAt dX1_isRight_20 [] rfl rfl p1 hp1 rfl rfl ⟨Nat.le_of_ble_eq_true rfl, Nat.le_of_ble_eq_true rfl, Nat.zero_le _, Nat.zero_le _, Nat.le_of_ble_eq_true rfl⟩ [.int (pc_op (f i))] (by simp [pc_at, *]) ?_
      refine go_bipush C (12) dX1_isRight_23 (by decide) ?_
      refine go_icmp_ne C 40 dX1_isRight_25 (by decide) (fun c_25 => ?_) (fun c_25 => ?_)
      · refine go_iload_n C dX1_isRight_40 1 rfl rfl ?_
        refine go_aload_n C dX1_isRight_41 0 rfl rfl ?_
        refine go_get C (v := .ref a) fl_X1_12 dX1_isRight_42 p0 hp0 rfl ?_
        refine go_iload_n C dX1_isRight_45 2 rfl rfl ?_
        refine go_cV C (c_X7_opAt G rs p1 p2 a w ln f i hp1 hp2 (by omega) (by omega)) ml_X1_22 mc_X7_opAt dX1_isRight_46 [.int (nI h)] rfl rfl p1 hp1 rfl rfl ⟨Nat.le_of_ble_eq_true rfl, Nat.le_of_ble_eq_true rfl, Nat.zero_le _, Nat.zero_le _, Nat.le_of_ble_eq_true rfl⟩ [.int (pc_op (f i)), .int (nI h)] (by simp [pc_at, *]) ?_
        refine go_iconst C (0) dX1_isRight_49 (by decide) ?_
        refine go_cS C (c_X6_heightAfter G rs  h (pc_op (f i)) false  (by omega)) ml_X1_26 mc_X6_heightAfter dX1_isRight_50 [] rfl rfl rfl ⟨Nat.le_of_ble_eq_true rfl, Nat.le_of_ble_eq_true rfl, Nat.zero_le _, Nat.zero_le _, Nat.le_of_ble_eq_true rfl⟩ [.int (pc_oi (pc_hA h (pc_op (f i)) false))] rfl ?_
        refine go_istore_n C [(0, .ref v), (1, .int (pc_oi (pc_hA h (pc_op (f i)) false))), (2, .int (nI i))] dX1_isRight_53 [1, 0, 2] rfl (by decide) rfl ?_
        refine go_iload_n C dX1_isRight_54 1 rfl rfl ?_
        refine go_iconst C ((-1)) dX1_isRight_55 (by decide) ?_
        refine go_icmp_ne C 61 dX1_isRight_56 (by decide) (fun c_56 => ?_) (fun c_56 => ?_)
        · obtain ⟨h_1, hh_1, hb_1⟩ := pc_oi_ne (by omega) c_56
          refine go_le [(0, .ref v), (1, .int (nI h_1)), (2, .int (nI i))] (by rw [hh_1]; rfl) ?_
          refine go_iinc C (nI (i + 1)) [(0, .ref v), (1, .int (nI h_1)), (2, .int (nI (i + 1)))] dX1_isRight_61 2 [1, 2, 0] rfl (nI_add i 1) (by decide) rfl ?_
          refine go_goto C 4 dX1_isRight_64 (by decide) ?_
          exact ih (i + 1) h_1 (by omega) (by omega) (by omega) (by rw [← hR]; first | contradiction | rfl | (simp [pc_iR, *]; done) | (rw [decide_eq_true (by omega)]; done) | (rw [decide_eq_false (by omega)]; done) | (simp_all [pc_iR]; done) | (simp [pc_iR]; omega) | (simp_all [pc_iR]; omega) | omega)
        · refine go_iconst C (0) dX1_isRight_59 (by decide) ?_
          refine go_se [.int (go_b (false))] rfl ?_
          exact go_zret C E dX1_isRight_60 (go_bn _) (by rw [← hR]; first | contradiction | rfl | (simp [pc_iR, pc_oi_m1 hh, *]; done) | (rw [decide_eq_true (by omega)]; done) | (rw [decide_eq_false (by omega)]; done) | (simp_all [pc_iR, pc_oi_m1 hh]; done) | (simp [pc_iR, pc_oi_m1 hh]; omega) | (simp_all [pc_iR, pc_oi_m1 hh]; omega) | omega) rfl
      · refine go_iload_n C dX1_isRight_28 1 rfl rfl ?_
        refine go_iconst C (1) dX1_isRight_29 (by decide) ?_
        refine go_icmp_eqN (a := h) (b := 1) C 35 dX1_isRight_30 (by decide) (by omega) (by omega) (fun c_30 => ?_) (fun c_30 => ?_)
        · refine go_iconst C (0) dX1_isRight_35 (by decide) ?_
          refine go_istore_n C [(0, .ref v), (1, .int 0), (2, .int (nI i))] dX1_isRight_36 [1, 0, 2] rfl (by decide) rfl ?_
          refine go_goto C 54 dX1_isRight_37 (by decide) ?_
          refine go_iload_n C dX1_isRight_54 1 rfl rfl ?_
          refine go_iconst C ((-1)) dX1_isRight_55 (by decide) ?_
          refine go_icmp_ne C 61 dX1_isRight_56 (by decide) (fun c_56 => ?_) (fun c_56 => ?_)
          · refine go_iinc C (nI (i + 1)) [(0, .ref v), (1, .int 0), (2, .int (nI (i + 1)))] dX1_isRight_61 2 [1, 2, 0] rfl (nI_add i 1) (by decide) rfl ?_
            refine go_goto C 4 dX1_isRight_64 (by decide) ?_
            exact ih (i + 1) 0 (by omega) (by omega) (by omega) (by rw [← hR]; first | contradiction | rfl | (simp [pc_iR, *]; done) | (rw [decide_eq_true (by omega)]; done) | (rw [decide_eq_false (by omega)]; done) | (simp_all [pc_iR]; done) | (simp [pc_iR]; omega) | (simp_all [pc_iR]; omega) | omega)
          · exact absurd c_56 (by decide)
        · refine go_iconst C (0) dX1_isRight_33 (by decide) ?_
          refine go_se [.int (go_b (false))] rfl ?_
          exact go_zret C E dX1_isRight_34 (go_bn _) (by rw [← hR]; first | contradiction | rfl | (simp [pc_iR, pc_oi_m1 hh, *]; done) | (rw [decide_eq_true (by omega)]; done) | (rw [decide_eq_false (by omega)]; done) | (simp_all [pc_iR, pc_oi_m1 hh]; done) | (simp [pc_iR, pc_oi_m1 hh]; omega) | (simp_all [pc_iR, pc_oi_m1 hh]; omega) | omega) rfl
set_option maxHeartbeats 4000000 in
set_option maxRecDepth 100000 in
theorem c_X1_isRight (G : go_G) (rs : va_W) (p0 : Nat) (p1 : Nat) (p2 : Nat) (v : Nat) (a : Nat) (w : Nat) (ln : Nat) (f : Nat → Int32) (hp0 : rs[p0]? = some (v, .inr (1, [.ref a]))) (hp1 : rs[p1]? = some (a, .inr (6, [.ref w, .int (nI ln)]))) (hp2 : rs[p2]? = some (w, .inl (G.2.1, 32, .inl f))) (hl : ln ≤ 32) : go_Fn yX1_isRight cX1_isRight 3 (some .boolean) 2 42 G [.ref v] rs (some (.int (go_b (pc_iR ln f (ln + 1) 0 0)))) rs := by
  refine go_Fn_of (by decide) (Nat.le_of_ble_eq_true rfl) (fun X C E => ?_)
  show go_Go X (0, 0) rs [(0, .ref v)] [] 0
  refine go_iconst C (0) dX1_isRight_0 (by decide) ?_
  refine go_istore_n C [(0, .ref v), (1, .int 0)] dX1_isRight_1 [1, 0] rfl (by decide) rfl ?_
  refine go_iconst C (0) dX1_isRight_2 (by decide) ?_
  refine go_istore_n C [(0, .ref v), (1, .int 0), (2, .int 0)] dX1_isRight_3 [1, 2, 0] rfl (by decide) rfl ?_
  exact l_X1_isRight_4 G rs p0 p1 p2 v a w ln f hp0 hp1 hp2 hl  C E (ln + 1) 0 0 (by omega) (by omega) (by omega) rfl
set_option maxHeartbeats 4000000 in
set_option maxRecDepth 100000 in
theorem c_X1_isPartStart (G : go_G) (rs : va_W) (p0 : Nat) (p1 : Nat) (p2 : Nat) (v : Nat) (a : Nat) (w : Nat) (ln : Nat) (f : Nat → Int32) (i : Nat) (hp0 : rs[p0]? = some (v, .inr (1, [.ref a]))) (hp1 : rs[p1]? = some (a, .inr (6, [.ref w, .int (nI ln)]))) (hp2 : rs[p2]? = some (w, .inl (G.2.1, 32, .inl f))) (hl : ln ≤ 32) (hi : i ≤ ln) : go_Fn yX1_isPartStart cX1_isPartStart 2 (some .boolean) 2 42 G [.ref v, .int (nI i)] rs (some (.int (go_b (pc_ps f i)))) rs := by
  refine go_Fn_of (by decide) (Nat.le_of_ble_eq_true rfl) (fun X C E => ?_)
  show go_Go X (0, 0) rs [(0, .ref v), (1, .int (nI i))] [] 0
  refine go_iload_n C dX1_isPartStart_0 1 rfl rfl ?_
  refine go_if_eqN C 19 dX1_isPartStart_1 (by decide) (by omega) (fun c_1 => ?_) (fun c_1 => ?_)
  · refine go_iconst C (1) dX1_isPartStart_19 (by decide) ?_
    refine go_goto C 24 dX1_isPartStart_20 (by decide) ?_
    refine go_se [.int (go_b (true))] rfl ?_
    exact go_zret C E dX1_isPartStart_24 (go_bn _) (by first | contradiction | rfl | (simp [pc_ps, *]; done) | (rw [decide_eq_true (by omega)]; done) | (rw [decide_eq_false (by omega)]; done) | (simp_all [pc_ps]; done) | (simp [pc_ps]; omega) | (simp_all [pc_ps]; omega) | omega) rfl
  · refine go_aload_n C dX1_isPartStart_4 0 rfl rfl ?_
    refine go_get C (v := .ref a) fl_X1_12 dX1_isPartStart_5 p0 hp0 rfl ?_
    refine go_iload_n C dX1_isPartStart_8 1 rfl rfl ?_
    refine go_iconst C (1) dX1_isPartStart_9 (by decide) ?_
    refine go_isub C (z := nI (i - 1)) dX1_isPartStart_10 (pk_sub (a := i) (b := 1) (by omega)) ?_
    refine go_cV C (c_X7_opAt G rs p1 p2 a w ln f (i - 1) hp1 hp2 (by omega) (by omega)) ml_X1_22 mc_X7_opAt dX1_isPartStart_11 [] rfl rfl p1 hp1 rfl rfl ⟨Nat.le_of_ble_eq_true rfl, Nat.le_of_ble_eq_true rfl, Nat.zero_le _, Nat.zero_le _, Nat.le_of_ble_eq_true rfl⟩ [.int (pc_op (f (i - 1)))] (by rw [pc_at, if_pos (by omega)]; rfl) ?_
    refine go_bipush C (12) dX1_isPartStart_14 (by decide) ?_
    refine go_icmp_ne C 23 dX1_isPartStart_16 (by decide) (fun c_16 => ?_) (fun c_16 => ?_)
    · refine go_iconst C (0) dX1_isPartStart_23 (by decide) ?_
      refine go_se [.int (go_b (false))] rfl ?_
      exact go_zret C E dX1_isPartStart_24 (go_bn _) (by first | contradiction | rfl | (simp [pc_ps, *]; done) | (rw [decide_eq_true (by omega)]; done) | (rw [decide_eq_false (by omega)]; done) | (simp_all [pc_ps]; done) | (simp [pc_ps]; omega) | (simp_all [pc_ps]; omega) | omega) rfl
    · refine go_iconst C (1) dX1_isPartStart_19 (by decide) ?_
      refine go_goto C 24 dX1_isPartStart_20 (by decide) ?_
      refine go_se [.int (go_b (true))] rfl ?_
      exact go_zret C E dX1_isPartStart_24 (go_bn _) (by first | contradiction | rfl | (simp [pc_ps, *]; done) | (rw [decide_eq_true (by omega)]; done) | (rw [decide_eq_false (by omega)]; done) | (simp_all [pc_ps]; done) | (simp [pc_ps]; omega) | (simp_all [pc_ps]; omega) | omega) rfl
set_option maxHeartbeats 4000000 in
set_option maxRecDepth 100000 in
theorem c_X1_partEnd (G : go_G) (rs : va_W) (p0 : Nat) (p1 : Nat) (p2 : Nat) (v : Nat) (a : Nat) (w : Nat) (ln : Nat) (f : Nat → Int32) (i : Nat) (hp0 : rs[p0]? = some (v, .inr (1, [.ref a]))) (hp1 : rs[p1]? = some (a, .inr (6, [.ref w, .int (nI ln)]))) (hp2 : rs[p2]? = some (w, .inl (G.2.1, 32, .inl f))) (hl : ln ≤ 32) (hi : i ≤ ln) : go_Fn yX1_partEnd cX1_partEnd 2 (some .int) 2 44 G [.ref v, .int (nI i)] rs (some (.int (nI (pc_pe ln f i)))) rs := by
  refine go_Fn_of (by decide) (Nat.le_of_ble_eq_true rfl) (fun X C E => ?_)
  show go_Go X (0, 0) rs [(0, .ref v), (1, .int (nI i))] [] 0
  refine go_aload_n C dX1_partEnd_0 0 rfl rfl ?_
  refine go_get C (v := .ref a) fl_X1_12 dX1_partEnd_1 p0 hp0 rfl ?_
  refine go_bipush C (12) dX1_partEnd_4 (by decide) ?_
  refine go_iload_n C dX1_partEnd_6 1 rfl rfl ?_
  refine go_cV C (c_X7_next G rs p1 p2 a w ln f 12 i hp1 hp2 (by omega) (by omega)) ml_X1_32 mc_X7_next dX1_partEnd_7 [] rfl rfl p1 hp1 rfl rfl ⟨Nat.le_of_ble_eq_true rfl, Nat.le_of_ble_eq_true rfl, Nat.zero_le _, Nat.zero_le _, Nat.le_of_ble_eq_true rfl⟩ [.int (nI (pc_next ln f 12 (ln + 1) i))] rfl ?_
  exact go_iret C E dX1_partEnd_10 rfl rfl
set_option maxHeartbeats 4000000 in
set_option maxRecDepth 100000 in
theorem l_X1_hasExchanged_12 {X : go_X} (G : go_G) (rs : va_W) (p0 : Nat) (p1 : Nat) (p2 : Nat) (v : Nat) (a : Nat) (w : Nat) (ln : Nat) (f : Nat → Int32) (j : Nat) (u : Int32) (z : Int32) (hp0 : rs[p0]? = some (v, .inr (1, [.ref a]))) (hp1 : rs[p1]? = some (a, .inr (6, [.ref w, .int (nI ln)]))) (hp2 : rs[p2]? = some (w, .inl (G.2.1, 32, .inl f))) (hl : ln ≤ 32) (hj : j ≤ ln) {Rr : Option Value}  (C : go_Cx X cX1_hasExchanged RX1 (some .boolean) 6 3 71 0 0 G) (E : go_Ex X Rr rs)  : ∀ (n : Nat) (i : Nat) (hin : ln < i + n) (hi : i ≤ ln) (hR : some (.int (go_b (pc_hE ln f j u z n i))) = Rr), go_Go X (0, 0) rs [(0, .ref v), (1, .int (nI j)), (2, .int u), (3, .int z), (4, .int (nI (pc_pe ln f j - j))), (5, .int (nI i))] [] 12 := by
  intro n
  induction n with
  | zero => intro i hin hi hR; omega
  | succ n ih =>
    intro i hin hi hR
    have hb := pc_pe_bd (ln := ln) (f := f) hj
    refine go_iload C dX1_hasExchanged_12 5 rfl ?_
    refine go_aload_n C dX1_hasExchanged_14 0 rfl rfl ?_
    refine go_get C (v := .ref a) fl_X1_12 dX1_hasExchanged_15 p0 hp0 rfl ?_
    refine go_cV C (c_X7_length G rs p1 a w ln hp1 ) ml_X1_18 mc_X7_length dX1_hasExchanged_18 [.int (nI i)] rfl rfl p1 hp1 rfl rfl ⟨Nat.le_of_ble_eq_true rfl, Nat.le_of_ble_eq_true rfl, Nat.zero_le _, Nat.zero_le _, Nat.le_of_ble_eq_true rfl⟩ [.int (nI ln), .int (nI i)] rfl ?_
    refine go_icmp_geN (a := i) (b := ln) C 76 dX1_hasExchanged_21 (by decide) (by omega) (by omega) (fun c_21 => ?_) (fun c_21 => ?_)
    · refine go_iconst C (0) dX1_hasExchanged_76 (by decide) ?_
      refine go_se [.int (go_b (false))] rfl ?_
      exact go_zret C E dX1_hasExchanged_77 (go_bn _) (by rw [← hR]; first | contradiction | rfl | (simp [pc_hE, *]; done) | (rw [decide_eq_true (by omega)]; done) | (rw [decide_eq_false (by omega)]; done) | (simp_all [pc_hE]; done) | (simp [pc_hE]; omega) | (simp_all [pc_hE]; omega) | omega) rfl
    · refine go_aload_n C dX1_hasExchanged_24 0 rfl rfl ?_
      refine go_iload C dX1_hasExchanged_25 5 rfl ?_
      refine go_cV C (c_X1_isPartStart G rs p0 p1 p2 v a w ln f i hp0 hp1 hp2 (by omega) (by omega)) ml_X1_36 mc_X1_isPartStart dX1_hasExchanged_27 [] rfl rfl p0 hp0 rfl rfl ⟨Nat.le_of_ble_eq_true rfl, Nat.le_of_ble_eq_true rfl, Nat.zero_le _, Nat.zero_le _, Nat.le_of_ble_eq_true rfl⟩ [.int (go_b (pc_ps f i))] rfl ?_
      refine go_if_eqB C 70 dX1_hasExchanged_30 (by decide) (fun c_30 => ?_) (fun c_30 => ?_)
      · refine go_iinc C (nI (i + 1)) [(0, .ref v), (1, .int (nI j)), (2, .int u), (3, .int z), (4, .int (nI (pc_pe ln f j - j))), (5, .int (nI (i + 1)))] dX1_hasExchanged_70 5 [1, 2, 3, 4, 5, 0] rfl (nI_add i 1) (by decide) rfl ?_
        refine go_goto C 12 dX1_hasExchanged_73 (by decide) ?_
        exact ih (i + 1) (by omega) (by omega) (by rw [← hR]; first | contradiction | rfl | (simp [pc_hE, *]; done) | (rw [decide_eq_true (by omega)]; done) | (rw [decide_eq_false (by omega)]; done) | (simp_all [pc_hE]; done) | (simp [pc_hE]; omega) | (simp_all [pc_hE]; omega) | omega)
      · refine go_aload_n C dX1_hasExchanged_33 0 rfl rfl ?_
        refine go_iload C dX1_hasExchanged_34 5 rfl ?_
        refine go_cV C (c_X1_partEnd G rs p0 p1 p2 v a w ln f i hp0 hp1 hp2 (by omega) (by omega)) ml_X1_44 mc_X1_partEnd dX1_hasExchanged_36 [] rfl rfl p0 hp0 rfl rfl ⟨Nat.le_of_ble_eq_true rfl, Nat.le_of_ble_eq_true rfl, Nat.zero_le _, Nat.zero_le _, Nat.le_of_ble_eq_true rfl⟩ [.int (nI (pc_pe ln f i))] rfl ?_
        have hb2 := pc_pe_bd (ln := ln) (f := f) (i := i) (by omega)
        refine go_iload C dX1_hasExchanged_39 5 rfl ?_
        refine go_isub C (z := nI ((pc_pe ln f i) - i)) dX1_hasExchanged_41 (pk_sub (a := pc_pe ln f i) (b := i) (by omega)) ?_
        refine go_iload C dX1_hasExchanged_42 4 rfl ?_
        refine go_icmp_neN (a := (pc_pe ln f i) - i) (b := pc_pe ln f j - j) C 70 dX1_hasExchanged_44 (by decide) (by omega) (by omega) (fun c_44 => ?_) (fun c_44 => ?_)
        · refine go_iinc C (nI (i + 1)) [(0, .ref v), (1, .int (nI j)), (2, .int u), (3, .int z), (4, .int (nI (pc_pe ln f j - j))), (5, .int (nI (i + 1)))] dX1_hasExchanged_70 5 [1, 2, 3, 4, 5, 0] rfl (nI_add i 1) (by decide) rfl ?_
          refine go_goto C 12 dX1_hasExchanged_73 (by decide) ?_
          exact ih (i + 1) (by omega) (by omega) (by rw [← hR]; first | contradiction | rfl | (simp [pc_hE, *]; done) | (rw [decide_eq_true (by omega)]; done) | (rw [decide_eq_false (by omega)]; done) | (simp_all [pc_hE]; done) | (simp [pc_hE]; omega) | (simp_all [pc_hE]; omega) | omega)
        · refine go_aload_n C dX1_hasExchanged_47 0 rfl rfl ?_
          refine go_get C (v := .ref a) fl_X1_12 dX1_hasExchanged_48 p0 hp0 rfl ?_
          refine go_iload_n C dX1_hasExchanged_51 1 rfl rfl ?_
          refine go_iload C dX1_hasExchanged_52 4 rfl ?_
          refine go_aload_n C dX1_hasExchanged_54 0 rfl rfl ?_
          refine go_get C (v := .ref a) fl_X1_12 dX1_hasExchanged_55 p0 hp0 rfl ?_
          refine go_iload C dX1_hasExchanged_58 5 rfl ?_
          refine go_iload_n C dX1_hasExchanged_60 2 rfl rfl ?_
          refine go_iload_n C dX1_hasExchanged_61 3 rfl rfl ?_
          refine go_cV C (c_X7_turnsInto G rs p1 p2 p1 p2 a w ln f a w ln f j (pc_pe ln f j - j) i u z hp1 hp2 hp1 hp2 (by omega) (by omega) (by omega) (by omega) (by omega)) ml_X1_47 mc_X7_turnsInto dX1_hasExchanged_62 [] rfl rfl p1 hp1 rfl rfl ⟨Nat.le_of_ble_eq_true rfl, Nat.le_of_ble_eq_true rfl, Nat.zero_le _, Nat.zero_le _, Nat.le_of_ble_eq_true rfl⟩ [.int (go_b (pc_ti (pc_at ln f) (pc_at ln f) (pc_pe ln f j - j) j i u z ((pc_pe ln f j - j) + 1) 0))] rfl ?_
          refine go_if_eqB C 70 dX1_hasExchanged_65 (by decide) (fun c_65 => ?_) (fun c_65 => ?_)
          · refine go_iinc C (nI (i + 1)) [(0, .ref v), (1, .int (nI j)), (2, .int u), (3, .int z), (4, .int (nI (pc_pe ln f j - j))), (5, .int (nI (i + 1)))] dX1_hasExchanged_70 5 [1, 2, 3, 4, 5, 0] rfl (nI_add i 1) (by decide) rfl ?_
            refine go_goto C 12 dX1_hasExchanged_73 (by decide) ?_
            exact ih (i + 1) (by omega) (by omega) (by rw [← hR]; first | contradiction | rfl | (simp [pc_hE, *]; done) | (rw [decide_eq_true (by omega)]; done) | (rw [decide_eq_false (by omega)]; done) | (simp_all [pc_hE]; done) | (simp [pc_hE]; omega) | (simp_all [pc_hE]; omega) | omega)
          · refine go_iconst C (1) dX1_hasExchanged_68 (by decide) ?_
            refine go_se [.int (go_b (true))] rfl ?_
            exact go_zret C E dX1_hasExchanged_69 (go_bn _) (by rw [← hR]; first | contradiction | rfl | (simp [pc_hE, *]; done) | (rw [decide_eq_true (by omega)]; done) | (rw [decide_eq_false (by omega)]; done) | (simp_all [pc_hE]; done) | (simp [pc_hE]; omega) | (simp_all [pc_hE]; omega) | omega) rfl
set_option maxHeartbeats 4000000 in
set_option maxRecDepth 100000 in
theorem c_X1_hasExchanged (G : go_G) (rs : va_W) (p0 : Nat) (p1 : Nat) (p2 : Nat) (v : Nat) (a : Nat) (w : Nat) (ln : Nat) (f : Nat → Int32) (j : Nat) (u : Int32) (z : Int32) (hp0 : rs[p0]? = some (v, .inr (1, [.ref a]))) (hp1 : rs[p1]? = some (a, .inr (6, [.ref w, .int (nI ln)]))) (hp2 : rs[p2]? = some (w, .inl (G.2.1, 32, .inl f))) (hl : ln ≤ 32) (hj : j ≤ ln) : go_Fn yX1_hasExchanged cX1_hasExchanged 6 (some .boolean) 3 71 G [.ref v, .int (nI j), .int u, .int z] rs (some (.int (go_b (pc_hE ln f j u z (ln + 1) 0)))) rs := by
  refine go_Fn_of (by decide) (Nat.le_of_ble_eq_true rfl) (fun X C E => ?_)
  show go_Go X (0, 0) rs [(0, .ref v), (1, .int (nI j)), (2, .int u), (3, .int z)] [] 0
  have hb := pc_pe_bd (ln := ln) (f := f) hj
  refine go_aload_n C dX1_hasExchanged_0 0 rfl rfl ?_
  refine go_iload_n C dX1_hasExchanged_1 1 rfl rfl ?_
  refine go_cV C (c_X1_partEnd G rs p0 p1 p2 v a w ln f j hp0 hp1 hp2 (by omega) (by omega)) ml_X1_44 mc_X1_partEnd dX1_hasExchanged_2 [] rfl rfl p0 hp0 rfl rfl ⟨Nat.le_of_ble_eq_true rfl, Nat.le_of_ble_eq_true rfl, Nat.zero_le _, Nat.zero_le _, Nat.le_of_ble_eq_true rfl⟩ [.int (nI (pc_pe ln f j))] rfl ?_
  refine go_iload_n C dX1_hasExchanged_5 1 rfl rfl ?_
  refine go_isub C (z := nI ((pc_pe ln f j) - j)) dX1_hasExchanged_6 (pk_sub (a := pc_pe ln f j) (b := j) (by omega)) ?_
  refine go_istore C [(0, .ref v), (1, .int (nI j)), (2, .int u), (3, .int z), (4, .int (nI ((pc_pe ln f j) - j)))] dX1_hasExchanged_7 [1, 2, 3, 4, 0] (by decide) rfl ?_
  refine go_iconst C (0) dX1_hasExchanged_9 (by decide) ?_
  refine go_istore C [(0, .ref v), (1, .int (nI j)), (2, .int u), (3, .int z), (4, .int (nI ((pc_pe ln f j) - j))), (5, .int 0)] dX1_hasExchanged_10 [1, 2, 3, 4, 5, 0] (by decide) rfl ?_
  exact l_X1_hasExchanged_12 G rs p0 p1 p2 v a w ln f j u z hp0 hp1 hp2 hl hj  C E (ln + 1) 0 (by omega) (by omega) rfl
set_option maxHeartbeats 4000000 in
set_option maxRecDepth 100000 in
theorem l_X1_bearsExchange_2 {X : go_X} (G : go_G) (rs : va_W) (p0 : Nat) (p1 : Nat) (p2 : Nat) (v : Nat) (a : Nat) (w : Nat) (ln : Nat) (f : Nat → Int32) (u : Int32) (z : Int32) (hp0 : rs[p0]? = some (v, .inr (1, [.ref a]))) (hp1 : rs[p1]? = some (a, .inr (6, [.ref w, .int (nI ln)]))) (hp2 : rs[p2]? = some (w, .inl (G.2.1, 32, .inl f))) (hl : ln ≤ 32) {Rr : Option Value}  (C : go_Cx X cX1_bearsExchange RX1 (some .boolean) 4 4 96 0 0 G) (E : go_Ex X Rr rs)  : ∀ (n : Nat) (i : Nat) (hin : ln < i + n) (hi : i ≤ ln) (hR : some (.int (go_b (pc_bE ln f u z n i))) = Rr), go_Go X (0, 0) rs [(0, .ref v), (1, .int u), (2, .int z), (3, .int (nI i))] [] 2 := by
  intro n
  induction n with
  | zero => intro i hin hi hR; omega
  | succ n ih =>
    intro i hin hi hR
    refine go_iload_n C dX1_bearsExchange_2 3 rfl rfl ?_
    refine go_aload_n C dX1_bearsExchange_3 0 rfl rfl ?_
    refine go_get C (v := .ref a) fl_X1_12 dX1_bearsExchange_4 p0 hp0 rfl ?_
    refine go_cV C (c_X7_length G rs p1 a w ln hp1 ) ml_X1_18 mc_X7_length dX1_bearsExchange_7 [.int (nI i)] rfl rfl p1 hp1 rfl rfl ⟨Nat.le_of_ble_eq_true rfl, Nat.le_of_ble_eq_true rfl, Nat.zero_le _, Nat.zero_le _, Nat.le_of_ble_eq_true rfl⟩ [.int (nI ln), .int (nI i)] rfl ?_
    refine go_icmp_geN (a := i) (b := ln) C 39 dX1_bearsExchange_10 (by decide) (by omega) (by omega) (fun c_10 => ?_) (fun c_10 => ?_)
    · refine go_iconst C (1) dX1_bearsExchange_39 (by decide) ?_
      refine go_se [.int (go_b (true))] rfl ?_
      exact go_zret C E dX1_bearsExchange_40 (go_bn _) (by rw [← hR]; first | contradiction | rfl | (simp [pc_bE, *]; done) | (rw [decide_eq_true (by omega)]; done) | (rw [decide_eq_false (by omega)]; done) | (simp_all [pc_bE]; done) | (simp [pc_bE]; omega) | (simp_all [pc_bE]; omega) | omega) rfl
    · refine go_aload_n C dX1_bearsExchange_13 0 rfl rfl ?_
      refine go_iload_n C dX1_bearsExchange_14 3 rfl rfl ?_
      refine go_cV C (c_X1_isPartStart G rs p0 p1 p2 v a w ln f i hp0 hp1 hp2 (by omega) (by omega)) ml_X1_36 mc_X1_isPartStart dX1_bearsExchange_15 [] rfl rfl p0 hp0 rfl rfl ⟨Nat.le_of_ble_eq_true rfl, Nat.le_of_ble_eq_true rfl, Nat.zero_le _, Nat.zero_le _, Nat.le_of_ble_eq_true rfl⟩ [.int (go_b (pc_ps f i))] rfl ?_
      refine go_if_eqB C 33 dX1_bearsExchange_18 (by decide) (fun c_18 => ?_) (fun c_18 => ?_)
      · refine go_iinc C (nI (i + 1)) [(0, .ref v), (1, .int u), (2, .int z), (3, .int (nI (i + 1)))] dX1_bearsExchange_33 3 [1, 2, 3, 0] rfl (nI_add i 1) (by decide) rfl ?_
        refine go_goto C 2 dX1_bearsExchange_36 (by decide) ?_
        exact ih (i + 1) (by omega) (by omega) (by rw [← hR]; first | contradiction | rfl | (simp [pc_bE, *]; done) | (rw [decide_eq_true (by omega)]; done) | (rw [decide_eq_false (by omega)]; done) | (simp_all [pc_bE]; done) | (simp [pc_bE]; omega) | (simp_all [pc_bE]; omega) | omega)
      · refine go_aload_n C dX1_bearsExchange_21 0 rfl rfl ?_
        refine go_iload_n C dX1_bearsExchange_22 3 rfl rfl ?_
        refine go_iload_n C dX1_bearsExchange_23 1 rfl rfl ?_
        refine go_iload_n C dX1_bearsExchange_24 2 rfl rfl ?_
        refine go_cV C (c_X1_hasExchanged G rs p0 p1 p2 v a w ln f i u z hp0 hp1 hp2 (by omega) (by omega)) ml_X1_40 mc_X1_hasExchanged dX1_bearsExchange_25 [] rfl rfl p0 hp0 rfl rfl ⟨Nat.le_of_ble_eq_true rfl, Nat.le_of_ble_eq_true rfl, Nat.zero_le _, Nat.zero_le _, Nat.le_of_ble_eq_true rfl⟩ [.int (go_b (pc_hE ln f i u z (ln + 1) 0))] rfl ?_
        refine go_if_neB C 33 dX1_bearsExchange_28 (by decide) (fun c_28 => ?_) (fun c_28 => ?_)
        · refine go_iinc C (nI (i + 1)) [(0, .ref v), (1, .int u), (2, .int z), (3, .int (nI (i + 1)))] dX1_bearsExchange_33 3 [1, 2, 3, 0] rfl (nI_add i 1) (by decide) rfl ?_
          refine go_goto C 2 dX1_bearsExchange_36 (by decide) ?_
          exact ih (i + 1) (by omega) (by omega) (by rw [← hR]; first | contradiction | rfl | (simp [pc_bE, *]; done) | (rw [decide_eq_true (by omega)]; done) | (rw [decide_eq_false (by omega)]; done) | (simp_all [pc_bE]; done) | (simp [pc_bE]; omega) | (simp_all [pc_bE]; omega) | omega)
        · refine go_iconst C (0) dX1_bearsExchange_31 (by decide) ?_
          refine go_se [.int (go_b (false))] rfl ?_
          exact go_zret C E dX1_bearsExchange_32 (go_bn _) (by rw [← hR]; first | contradiction | rfl | (simp [pc_bE, *]; done) | (rw [decide_eq_true (by omega)]; done) | (rw [decide_eq_false (by omega)]; done) | (simp_all [pc_bE]; done) | (simp [pc_bE]; omega) | (simp_all [pc_bE]; omega) | omega) rfl
set_option maxHeartbeats 4000000 in
set_option maxRecDepth 100000 in
theorem c_X1_bearsExchange (G : go_G) (rs : va_W) (p0 : Nat) (p1 : Nat) (p2 : Nat) (v : Nat) (a : Nat) (w : Nat) (ln : Nat) (f : Nat → Int32) (u : Int32) (z : Int32) (hp0 : rs[p0]? = some (v, .inr (1, [.ref a]))) (hp1 : rs[p1]? = some (a, .inr (6, [.ref w, .int (nI ln)]))) (hp2 : rs[p2]? = some (w, .inl (G.2.1, 32, .inl f))) (hl : ln ≤ 32) : go_Fn yX1_bearsExchange cX1_bearsExchange 4 (some .boolean) 4 96 G [.ref v, .int u, .int z] rs (some (.int (go_b (pc_bE ln f u z (ln + 1) 0)))) rs := by
  refine go_Fn_of (by decide) (Nat.le_of_ble_eq_true rfl) (fun X C E => ?_)
  show go_Go X (0, 0) rs [(0, .ref v), (1, .int u), (2, .int z)] [] 0
  refine go_iconst C (0) dX1_bearsExchange_0 (by decide) ?_
  refine go_istore_n C [(0, .ref v), (1, .int u), (2, .int z), (3, .int 0)] dX1_bearsExchange_1 [1, 2, 3, 0] rfl (by decide) rfl ?_
  exact l_X1_bearsExchange_2 G rs p0 p1 p2 v a w ln f u z hp0 hp1 hp2 hl  C E (ln + 1) 0 (by omega) (by omega) rfl
set_option maxHeartbeats 4000000 in
set_option maxRecDepth 100000 in
theorem c_X3_count (G : go_G) (rs : va_W) (p0 : Nat) (ru : Nat) (rows : Nat) (nth : Nat) (nr : Nat) (hp0 : rs[p0]? = some (ru, .inr (3, [.ref rows, .ref nth, .int (nI nr)])))  : go_Fn yX3_count cX3_count 1 (some .int) 0 0 G [.ref ru] rs (some (.int (nI nr))) rs := by
  refine go_Fn_of (by decide) (Nat.le_of_ble_eq_true rfl) (fun X C E => ?_)
  show go_Go X (0, 0) rs [(0, .ref ru)] [] 0
  refine go_aload_n C dX3_count_0 0 rfl rfl ?_
  refine go_get C (v := .int (nI nr)) fl_X3_22 dX3_count_1 p0 hp0 rfl ?_
  exact go_iret C E dX3_count_4 rfl rfl
set_option maxHeartbeats 4000000 in
set_option maxRecDepth 100000 in
theorem c_X3_clear (G : go_G) (rs : va_W)  (ru : Nat) (rows : Nat) (nth : Nat) (nr : Nat)   : go_Fn yX3_clear cX3_clear 1 none 0 0 G [.ref ru] ((ru, .inr (3, [.ref rows, .ref nth, .int (nI nr)])) :: rs) (none) ((ru, .inr (3, [.ref rows, .ref nth, .int (nI 0)])) :: rs) := by
  refine go_Fn_of (by decide) (Nat.le_of_ble_eq_true rfl) (fun X C E => ?_)
  show go_Go X (0, 0) ((ru, .inr (3, [.ref rows, .ref nth, .int (nI nr)])) :: rs) [(0, .ref ru)] [] 0
  refine go_aload_n C dX3_clear_0 0 rfl rfl ?_
  refine go_iconst C (0) dX3_clear_1 (by decide) ?_
  refine go_put C fp_X3_22 dX3_clear_2 0 rfl rfl rfl (Nat.le_of_ble_eq_true rfl) ((ru, .inr (3, [.ref rows, .ref nth, .int 0])) :: rs) rfl ?_
  exact go_vret C E dX3_clear_5 rfl rfl
set_option maxHeartbeats 4000000 in
set_option maxRecDepth 100000 in
theorem c_X3_isFull (G : go_G) (rs : va_W) (p0 : Nat) (ru : Nat) (rows : Nat) (nth : Nat) (nr : Nat) (hp0 : rs[p0]? = some (ru, .inr (3, [.ref rows, .ref nth, .int (nI nr)]))) (hnr : nr ≤ 12) : go_Fn yX3_isFull cX3_isFull 1 (some .boolean) 0 0 G [.ref ru] rs (some (.int (go_b (decide (12 ≤ nr))))) rs := by
  refine go_Fn_of (by decide) (Nat.le_of_ble_eq_true rfl) (fun X C E => ?_)
  show go_Go X (0, 0) rs [(0, .ref ru)] [] 0
  refine go_aload_n C dX3_isFull_0 0 rfl rfl ?_
  refine go_get C (v := .int (nI nr)) fl_X3_22 dX3_isFull_1 p0 hp0 rfl ?_
  refine go_bipush C (12) dX3_isFull_4 (by decide) ?_
  refine go_icmp_ltN (a := nr) (b := 12) C 13 dX3_isFull_6 (by decide) (by omega) (by omega) (fun c_6 => ?_) (fun c_6 => ?_)
  · refine go_iconst C (0) dX3_isFull_13 (by decide) ?_
    refine go_se [.int (go_b (false))] rfl ?_
    exact go_zret C E dX3_isFull_14 (go_bn _) (by first | contradiction | rfl | (simp [decide_eq_true_eq, *]; done) | (rw [decide_eq_true (by omega)]; done) | (rw [decide_eq_false (by omega)]; done) | (simp_all [decide_eq_true_eq]; done) | (simp [decide_eq_true_eq]; omega) | (simp_all [decide_eq_true_eq]; omega) | omega) rfl
  · refine go_iconst C (1) dX3_isFull_9 (by decide) ?_
    refine go_goto C 14 dX3_isFull_10 (by decide) ?_
    refine go_se [.int (go_b (true))] rfl ?_
    exact go_zret C E dX3_isFull_14 (go_bn _) (by first | contradiction | rfl | (simp [decide_eq_true_eq, *]; done) | (rw [decide_eq_true (by omega)]; done) | (rw [decide_eq_false (by omega)]; done) | (simp_all [decide_eq_true_eq]; done) | (simp [decide_eq_true_eq]; omega) | (simp_all [decide_eq_true_eq]; omega) | omega) rfl
set_option maxHeartbeats 4000000 in
set_option maxRecDepth 100000 in
theorem c_X3_at (G : go_G) (rs : va_W) (p0 : Nat) (p1 : Nat) (ru : Nat) (rows : Nat) (nth : Nat) (nr : Nat) (ra : Nat → Nat) (j : Nat) (hp0 : rs[p0]? = some (ru, .inr (3, [.ref rows, .ref nth, .int (nI nr)]))) (hp1 : rs[p1]? = some (rows, .inl (G.2.2, 12, .inr (.inr (.inr (.inr (fun r => some (ra r)))))))) (hnr : nr ≤ 12) (hj : j < nr) : go_Fn yX3_at cX3_at 2 (some (.object "ProtoCheck$WordRow")) 0 0 G [.ref ru, .int (nI j)] rs (some (.ref (ra j))) rs := by
  refine go_Fn_of (by decide) (Nat.le_of_ble_eq_true rfl) (fun X C E => ?_)
  show go_Go X (0, 0) rs [(0, .ref ru), (1, .int (nI j))] [] 0
  refine go_iload_n C dX3_at_0 1 rfl rfl ?_
  refine go_if_ltN C 21 dX3_at_1 (by decide) (by omega) ?_
  refine go_iload_n C dX3_at_4 1 rfl rfl ?_
  refine go_aload_n C dX3_at_5 0 rfl rfl ?_
  refine go_get C (v := .int (nI nr)) fl_X3_22 dX3_at_6 p0 hp0 rfl ?_
  refine go_icmp_geN (a := j) (b := nr) C 21 dX3_at_9 (by decide) (by omega) (by omega) (fun c_9 => ?_) (fun c_9 => ?_)
  · omega
  · refine go_aload_n C dX3_at_12 0 rfl rfl ?_
    refine go_get C (v := .ref rows) fl_X3_11 dX3_at_13 p0 hp0 rfl ?_
    refine go_iload_n C dX3_at_16 1 rfl rfl ?_
    refine go_aald C (b := ra j) dX3_at_17 p1 hp1 (j) rfl (by omega) (by decide) rfl ?_
    refine go_goto C 25 dX3_at_18 (by decide) ?_
    exact go_aret C E dX3_at_25 rfl rfl
set_option maxHeartbeats 4000000 in
set_option maxRecDepth 100000 in
theorem l_X3_areRight_2 {X : go_X} (G : go_G) (rs : va_W) (p0 : Nat) (p1 : Nat) (ru : Nat) (rows : Nat) (nth : Nat) (nr : Nat) (ra : Nat → Nat) (wa : Nat → Nat) (ln : Nat → Nat) (F : Nat → Nat → Int32) (pr : Nat → Nat) (pw : Nat → Nat) (hp0 : rs[p0]? = some (ru, .inr (3, [.ref rows, .ref nth, .int (nI nr)]))) (hp1 : rs[p1]? = some (rows, .inl (G.2.2, 12, .inr (.inr (.inr (.inr (fun r => some (ra r)))))))) (hrow : ∀ r, r < 12 → rs[pr r]? = some (ra r, .inr (6, [.ref (wa r), .int (nI (ln r))]))) (hwd : ∀ r, r < 12 → rs[pw r]? = some (wa r, .inl (G.2.1, 32, .inl (F r)))) (hln : ∀ r, r < 12 → ln r ≤ 32) (hnr : nr ≤ 12) {Rr : Option Value}  (C : go_Cx X cX3_areRight RX3 (some .boolean) 2 3 65 0 0 G) (E : go_Ex X Rr rs)  : ∀ (n : Nat) (r : Nat) (hin : nr < r + n) (hi : r ≤ nr) (hR : some (.int (go_b (pc_aR nr ln F n r))) = Rr), go_Go X (0, 0) rs [(0, .ref ru), (1, .int (nI r))] [] 2 := by
  intro n
  induction n with
  | zero => intro r hin hi hR; omega
  | succ n ih =>
    intro r hin hi hR
    refine go_iload_n C dX3_areRight_2 1 rfl rfl ?_
    refine go_aload_n C dX3_areRight_3 0 rfl rfl ?_
    refine go_get C (v := .int (nI nr)) fl_X3_22 dX3_areRight_4 p0 hp0 rfl ?_
    refine go_icmp_geN (a := r) (b := nr) C 29 dX3_areRight_7 (by decide) (by omega) (by omega) (fun c_7 => ?_) (fun c_7 => ?_)
    · refine go_iconst C (1) dX3_areRight_29 (by decide) ?_
      refine go_se [.int (go_b (true))] rfl ?_
      exact go_zret C E dX3_areRight_30 (go_bn _) (by rw [← hR]; first | contradiction | rfl | (simp [pc_aR, *]; done) | (rw [decide_eq_true (by omega)]; done) | (rw [decide_eq_false (by omega)]; done) | (simp_all [pc_aR]; done) | (simp [pc_aR]; omega) | (simp_all [pc_aR]; omega) | omega) rfl
    · refine go_aload_n C dX3_areRight_10 0 rfl rfl ?_
      refine go_iload_n C dX3_areRight_11 1 rfl rfl ?_
      refine go_cV C (c_X3_at G rs p0 p1 ru rows nth nr ra r hp0 hp1 (by omega) (by omega)) ml_X3_29 mc_X3_at dX3_areRight_12 [] rfl rfl p0 hp0 rfl rfl ⟨Nat.le_of_ble_eq_true rfl, Nat.le_of_ble_eq_true rfl, Nat.zero_le _, Nat.zero_le _, Nat.le_of_ble_eq_true rfl⟩ [.ref (ra r)] rfl ?_
      refine go_cS C (c_X3_isRight G rs (pr r) (pw r) (ra r) (wa r) (ln r) (F r) (hrow r (by omega)) (hwd r (by omega)) (hln r (by omega))) ml_X3_33 mc_X3_isRight dX3_areRight_15 [] rfl rfl rfl ⟨Nat.le_of_ble_eq_true rfl, Nat.le_of_ble_eq_true rfl, Nat.zero_le _, Nat.zero_le _, Nat.le_of_ble_eq_true rfl⟩ [.int (go_b (pc_rR (ln r) (F r) ((ln r) + 1) 0 false 0))] rfl ?_
      refine go_if_neB C 23 dX3_areRight_18 (by decide) (fun c_18 => ?_) (fun c_18 => ?_)
      · refine go_iinc C (nI (r + 1)) [(0, .ref ru), (1, .int (nI (r + 1)))] dX3_areRight_23 1 [1, 0] rfl (nI_add r 1) (by decide) rfl ?_
        refine go_goto C 2 dX3_areRight_26 (by decide) ?_
        exact ih (r + 1) (by omega) (by omega) (by rw [← hR]; first | contradiction | rfl | (simp [pc_aR, *]; done) | (rw [decide_eq_true (by omega)]; done) | (rw [decide_eq_false (by omega)]; done) | (simp_all [pc_aR]; done) | (simp [pc_aR]; omega) | (simp_all [pc_aR]; omega) | omega)
      · refine go_iconst C (0) dX3_areRight_21 (by decide) ?_
        refine go_se [.int (go_b (false))] rfl ?_
        exact go_zret C E dX3_areRight_22 (go_bn _) (by rw [← hR]; first | contradiction | rfl | (simp [pc_aR, *]; done) | (rw [decide_eq_true (by omega)]; done) | (rw [decide_eq_false (by omega)]; done) | (simp_all [pc_aR]; done) | (simp [pc_aR]; omega) | (simp_all [pc_aR]; omega) | omega) rfl
set_option maxHeartbeats 4000000 in
set_option maxRecDepth 100000 in
theorem c_X3_areRight (G : go_G) (rs : va_W) (p0 : Nat) (p1 : Nat) (ru : Nat) (rows : Nat) (nth : Nat) (nr : Nat) (ra : Nat → Nat) (wa : Nat → Nat) (ln : Nat → Nat) (F : Nat → Nat → Int32) (pr : Nat → Nat) (pw : Nat → Nat) (hp0 : rs[p0]? = some (ru, .inr (3, [.ref rows, .ref nth, .int (nI nr)]))) (hp1 : rs[p1]? = some (rows, .inl (G.2.2, 12, .inr (.inr (.inr (.inr (fun r => some (ra r)))))))) (hrow : ∀ r, r < 12 → rs[pr r]? = some (ra r, .inr (6, [.ref (wa r), .int (nI (ln r))]))) (hwd : ∀ r, r < 12 → rs[pw r]? = some (wa r, .inl (G.2.1, 32, .inl (F r)))) (hln : ∀ r, r < 12 → ln r ≤ 32) (hnr : nr ≤ 12) : go_Fn yX3_areRight cX3_areRight 2 (some .boolean) 3 65 G [.ref ru] rs (some (.int (go_b (pc_aR nr ln F (nr + 1) 0)))) rs := by
  refine go_Fn_of (by decide) (Nat.le_of_ble_eq_true rfl) (fun X C E => ?_)
  show go_Go X (0, 0) rs [(0, .ref ru)] [] 0
  refine go_iconst C (0) dX3_areRight_0 (by decide) ?_
  refine go_istore_n C [(0, .ref ru), (1, .int 0)] dX3_areRight_1 [1, 0] rfl (by decide) rfl ?_
  exact l_X3_areRight_2 G rs p0 p1 ru rows nth nr ra wa ln F pr pw hp0 hp1 hrow hwd hln hnr  C E (nr + 1) 0 (by omega) (by omega) rfl
set_option maxHeartbeats 4000000 in
set_option maxRecDepth 100000 in
theorem l_X3_hasExchanged_3 {X : go_X} (G : go_G) (rs : va_W) (p0 : Nat) (p1 : Nat) (ru : Nat) (rows : Nat) (nth : Nat) (nr : Nat) (ra : Nat → Nat) (wa : Nat → Nat) (ln : Nat → Nat) (F : Nat → Nat → Int32) (pr : Nat → Nat) (pw : Nat → Nat) (q : Nat) (u : Int32) (z : Int32) (hp0 : rs[p0]? = some (ru, .inr (3, [.ref rows, .ref nth, .int (nI nr)]))) (hp1 : rs[p1]? = some (rows, .inl (G.2.2, 12, .inr (.inr (.inr (.inr (fun r => some (ra r)))))))) (hrow : ∀ r, r < 12 → rs[pr r]? = some (ra r, .inr (6, [.ref (wa r), .int (nI (ln r))]))) (hwd : ∀ r, r < 12 → rs[pw r]? = some (wa r, .inl (G.2.1, 32, .inl (F r)))) (hln : ∀ r, r < 12 → ln r ≤ 32) (hnr : nr ≤ 12) (hq : q < nr) {Rr : Option Value}  (C : go_Cx X cX3_hasExchanged RX3 (some .boolean) 6 3 71 0 0 G) (E : go_Ex X Rr rs)  : ∀ (n : Nat) (r : Nat) (hin : nr < r + n) (hi : r ≤ nr) (hR : some (.int (go_b (pc_hX nr ln F q u z n r))) = Rr), go_Go X (0, 0) rs [(0, .ref ru), (1, .ref (ra q)), (2, .int u), (3, .int z), (4, .int (nI r))] [] 3 := by
  intro n
  induction n with
  | zero => intro r hin hi hR; omega
  | succ n ih =>
    intro r hin hi hR
    refine go_iload C dX3_hasExchanged_3 4 rfl ?_
    refine go_aload_n C dX3_hasExchanged_5 0 rfl rfl ?_
    refine go_get C (v := .int (nI nr)) fl_X3_22 dX3_hasExchanged_6 p0 hp0 rfl ?_
    refine go_icmp_geN (a := r) (b := nr) C 57 dX3_hasExchanged_9 (by decide) (by omega) (by omega) (fun c_9 => ?_) (fun c_9 => ?_)
    · refine go_iconst C (0) dX3_hasExchanged_57 (by decide) ?_
      refine go_se [.int (go_b (false))] rfl ?_
      exact go_zret C E dX3_hasExchanged_58 (go_bn _) (by rw [← hR]; first | contradiction | rfl | (simp [pc_hX, *]; done) | (rw [decide_eq_true (by omega)]; done) | (rw [decide_eq_false (by omega)]; done) | (simp_all [pc_hX]; done) | (simp [pc_hX]; omega) | (simp_all [pc_hX]; omega) | omega) rfl
    · refine go_aload_n C dX3_hasExchanged_12 0 rfl rfl ?_
      refine go_iload C dX3_hasExchanged_13 4 rfl ?_
      refine go_cV C (c_X3_at G rs p0 p1 ru rows nth nr ra r hp0 hp1 (by omega) (by omega)) ml_X3_29 mc_X3_at dX3_hasExchanged_15 [] rfl rfl p0 hp0 rfl rfl ⟨Nat.le_of_ble_eq_true rfl, Nat.le_of_ble_eq_true rfl, Nat.zero_le _, Nat.zero_le _, Nat.le_of_ble_eq_true rfl⟩ [.ref (ra r)] rfl ?_
      refine go_astore C [(0, .ref ru), (1, .ref (ra q)), (2, .int u), (3, .int z), (4, .int (nI r)), (5, .ref (ra r))] dX3_hasExchanged_18 [1, 2, 3, 4, 5, 0] (by decide) rfl ?_
      refine go_aload C dX3_hasExchanged_20 5 rfl ?_
      refine go_cV C (c_X7_length G rs (pr r) (ra r) (wa r) (ln r) (hrow r (by omega)) ) ml_X3_37 mc_X7_length dX3_hasExchanged_22 [] rfl rfl (pr r) (hrow r (by omega)) rfl rfl ⟨Nat.le_of_ble_eq_true rfl, Nat.le_of_ble_eq_true rfl, Nat.zero_le _, Nat.zero_le _, Nat.le_of_ble_eq_true rfl⟩ [.int (nI ((ln r)))] rfl ?_
      refine go_aload_n C dX3_hasExchanged_25 1 rfl rfl ?_
      refine go_cV C (c_X7_length G rs (pr q) (ra q) (wa q) (ln q) (hrow q (by omega)) ) ml_X3_37 mc_X7_length dX3_hasExchanged_26 [.int (nI ((ln r)))] rfl rfl (pr q) (hrow q (by omega)) rfl rfl ⟨Nat.le_of_ble_eq_true rfl, Nat.le_of_ble_eq_true rfl, Nat.zero_le _, Nat.zero_le _, Nat.le_of_ble_eq_true rfl⟩ [.int (nI ((ln q))), .int (nI ((ln r)))] rfl ?_
      refine go_icmp_neN (a := (ln r)) (b := (ln q)) C 51 dX3_hasExchanged_29 (by decide) (by have := hln r (by omega); omega) (by have := hln q (by omega); omega) (fun c_29 => ?_) (fun c_29 => ?_)
      · refine go_iinc C (nI (r + 1)) [(0, .ref ru), (1, .ref (ra q)), (2, .int u), (3, .int z), (4, .int (nI (r + 1))), (5, .ref (ra r))] dX3_hasExchanged_51 4 [1, 2, 3, 4, 0, 5] rfl (nI_add r 1) (by decide) rfl ?_
        refine go_goto C 3 dX3_hasExchanged_54 (by decide) ?_
        refine go_lv [(0, .ref ru), (1, .ref (ra q)), (2, .int u), (3, .int z), (4, .int (nI (r + 1)))] [0, 1, 2, 3, 4] rfl ?_
        exact ih (r + 1) (by omega) (by omega) (by rw [← hR]; first | contradiction | rfl | (simp [pc_hX, *]; done) | (rw [decide_eq_true (by omega)]; done) | (rw [decide_eq_false (by omega)]; done) | (simp_all [pc_hX]; done) | (simp [pc_hX]; omega) | (simp_all [pc_hX]; omega) | omega)
      · refine go_aload_n C dX3_hasExchanged_32 1 rfl rfl ?_
        refine go_iconst C (0) dX3_hasExchanged_33 (by decide) ?_
        refine go_aload_n C dX3_hasExchanged_34 1 rfl rfl ?_
        refine go_cV C (c_X7_length G rs (pr q) (ra q) (wa q) (ln q) (hrow q (by omega)) ) ml_X3_37 mc_X7_length dX3_hasExchanged_35 [.int 0, .ref (ra q)] rfl rfl (pr q) (hrow q (by omega)) rfl rfl ⟨Nat.le_of_ble_eq_true rfl, Nat.le_of_ble_eq_true rfl, Nat.zero_le _, Nat.zero_le _, Nat.le_of_ble_eq_true rfl⟩ [.int (nI ((ln q))), .int 0, .ref (ra q)] rfl ?_
        refine go_aload C dX3_hasExchanged_38 5 rfl ?_
        refine go_iconst C (0) dX3_hasExchanged_40 (by decide) ?_
        refine go_iload_n C dX3_hasExchanged_41 2 rfl rfl ?_
        refine go_iload_n C dX3_hasExchanged_42 3 rfl rfl ?_
        refine go_cV C (c_X7_turnsInto G rs (pr q) (pw q) (pr r) (pw r) (ra q) (wa q) (ln q) (F q) (ra r) (wa r) (ln r) (F r) 0 (ln q) 0 u z (hrow q (by omega)) (hwd q (by omega)) (hrow r (by omega)) (hwd r (by omega)) (hln q (by omega)) (hln r (by omega)) (by omega) (by omega) (by have := hln q (by omega); omega)) ml_X3_55 mc_X7_turnsInto dX3_hasExchanged_43 [] rfl rfl (pr q) (hrow q (by omega)) rfl rfl ⟨Nat.le_of_ble_eq_true rfl, Nat.le_of_ble_eq_true rfl, Nat.zero_le _, Nat.zero_le _, Nat.le_of_ble_eq_true rfl⟩ [.int (go_b (pc_ti (pc_at (ln q) (F q)) (pc_at (ln r) (F r)) (ln q) 0 0 u z ((ln q) + 1) 0))] rfl ?_
        refine go_if_eqB C 51 dX3_hasExchanged_46 (by decide) (fun c_46 => ?_) (fun c_46 => ?_)
        · refine go_iinc C (nI (r + 1)) [(0, .ref ru), (1, .ref (ra q)), (2, .int u), (3, .int z), (4, .int (nI (r + 1))), (5, .ref (ra r))] dX3_hasExchanged_51 4 [1, 2, 3, 4, 0, 5] rfl (nI_add r 1) (by decide) rfl ?_
          refine go_goto C 3 dX3_hasExchanged_54 (by decide) ?_
          refine go_lv [(0, .ref ru), (1, .ref (ra q)), (2, .int u), (3, .int z), (4, .int (nI (r + 1)))] [0, 1, 2, 3, 4] rfl ?_
          exact ih (r + 1) (by omega) (by omega) (by rw [← hR]; first | contradiction | rfl | (simp [pc_hX, *]; done) | (rw [decide_eq_true (by omega)]; done) | (rw [decide_eq_false (by omega)]; done) | (simp_all [pc_hX]; done) | (simp [pc_hX]; omega) | (simp_all [pc_hX]; omega) | omega)
        · refine go_iconst C (1) dX3_hasExchanged_49 (by decide) ?_
          refine go_se [.int (go_b (true))] rfl ?_
          exact go_zret C E dX3_hasExchanged_50 (go_bn _) (by rw [← hR]; first | contradiction | rfl | (simp [pc_hX, *]; done) | (rw [decide_eq_true (by omega)]; done) | (rw [decide_eq_false (by omega)]; done) | (simp_all [pc_hX]; done) | (simp [pc_hX]; omega) | (simp_all [pc_hX]; omega) | omega) rfl
set_option maxHeartbeats 4000000 in
set_option maxRecDepth 100000 in
theorem c_X3_hasExchanged (G : go_G) (rs : va_W) (p0 : Nat) (p1 : Nat) (ru : Nat) (rows : Nat) (nth : Nat) (nr : Nat) (ra : Nat → Nat) (wa : Nat → Nat) (ln : Nat → Nat) (F : Nat → Nat → Int32) (pr : Nat → Nat) (pw : Nat → Nat) (q : Nat) (u : Int32) (z : Int32) (hp0 : rs[p0]? = some (ru, .inr (3, [.ref rows, .ref nth, .int (nI nr)]))) (hp1 : rs[p1]? = some (rows, .inl (G.2.2, 12, .inr (.inr (.inr (.inr (fun r => some (ra r)))))))) (hrow : ∀ r, r < 12 → rs[pr r]? = some (ra r, .inr (6, [.ref (wa r), .int (nI (ln r))]))) (hwd : ∀ r, r < 12 → rs[pw r]? = some (wa r, .inl (G.2.1, 32, .inl (F r)))) (hln : ∀ r, r < 12 → ln r ≤ 32) (hnr : nr ≤ 12) (hq : q < nr) : go_Fn yX3_hasExchanged cX3_hasExchanged 6 (some .boolean) 3 71 G [.ref ru, .ref (ra q), .int u, .int z] rs (some (.int (go_b (pc_hX nr ln F q u z (nr + 1) 0)))) rs := by
  refine go_Fn_of (by decide) (Nat.le_of_ble_eq_true rfl) (fun X C E => ?_)
  show go_Go X (0, 0) rs [(0, .ref ru), (1, .ref (ra q)), (2, .int u), (3, .int z)] [] 0
  refine go_iconst C (0) dX3_hasExchanged_0 (by decide) ?_
  refine go_istore C [(0, .ref ru), (1, .ref (ra q)), (2, .int u), (3, .int z), (4, .int 0)] dX3_hasExchanged_1 [1, 2, 3, 4, 0] (by decide) rfl ?_
  exact l_X3_hasExchanged_3 G rs p0 p1 ru rows nth nr ra wa ln F pr pw q u z hp0 hp1 hrow hwd hln hnr hq  C E (nr + 1) 0 (by omega) (by omega) rfl
set_option maxHeartbeats 4000000 in
set_option maxRecDepth 100000 in
theorem l_X3_bearExchange_2 {X : go_X} (G : go_G) (rs : va_W) (p0 : Nat) (p1 : Nat) (ru : Nat) (rows : Nat) (nth : Nat) (nr : Nat) (ra : Nat → Nat) (wa : Nat → Nat) (ln : Nat → Nat) (F : Nat → Nat → Int32) (pr : Nat → Nat) (pw : Nat → Nat) (u : Int32) (z : Int32) (hp0 : rs[p0]? = some (ru, .inr (3, [.ref rows, .ref nth, .int (nI nr)]))) (hp1 : rs[p1]? = some (rows, .inl (G.2.2, 12, .inr (.inr (.inr (.inr (fun r => some (ra r)))))))) (hrow : ∀ r, r < 12 → rs[pr r]? = some (ra r, .inr (6, [.ref (wa r), .int (nI (ln r))]))) (hwd : ∀ r, r < 12 → rs[pw r]? = some (wa r, .inl (G.2.1, 32, .inl (F r)))) (hln : ∀ r, r < 12 → ln r ≤ 32) (hnr : nr ≤ 12) {Rr : Option Value}  (C : go_Cx X cX3_bearExchange RX3 (some .boolean) 4 4 96 0 0 G) (E : go_Ex X Rr rs)  : ∀ (n : Nat) (r : Nat) (hin : nr < r + n) (hi : r ≤ nr) (hR : some (.int (go_b (pc_bX nr ln F u z n r))) = Rr), go_Go X (0, 0) rs [(0, .ref ru), (1, .int u), (2, .int z), (3, .int (nI r))] [] 2 := by
  intro n
  induction n with
  | zero => intro r hin hi hR; omega
  | succ n ih =>
    intro r hin hi hR
    refine go_iload_n C dX3_bearExchange_2 3 rfl rfl ?_
    refine go_aload_n C dX3_bearExchange_3 0 rfl rfl ?_
    refine go_get C (v := .int (nI nr)) fl_X3_22 dX3_bearExchange_4 p0 hp0 rfl ?_
    refine go_icmp_geN (a := r) (b := nr) C 32 dX3_bearExchange_7 (by decide) (by omega) (by omega) (fun c_7 => ?_) (fun c_7 => ?_)
    · refine go_iconst C (1) dX3_bearExchange_32 (by decide) ?_
      refine go_se [.int (go_b (true))] rfl ?_
      exact go_zret C E dX3_bearExchange_33 (go_bn _) (by rw [← hR]; first | contradiction | rfl | (simp [pc_bX, *]; done) | (rw [decide_eq_true (by omega)]; done) | (rw [decide_eq_false (by omega)]; done) | (simp_all [pc_bX]; done) | (simp [pc_bX]; omega) | (simp_all [pc_bX]; omega) | omega) rfl
    · refine go_aload_n C dX3_bearExchange_10 0 rfl rfl ?_
      refine go_aload_n C dX3_bearExchange_11 0 rfl rfl ?_
      refine go_iload_n C dX3_bearExchange_12 3 rfl rfl ?_
      refine go_cV C (c_X3_at G rs p0 p1 ru rows nth nr ra r hp0 hp1 (by omega) (by omega)) ml_X3_29 mc_X3_at dX3_bearExchange_13 [.ref ru] rfl rfl p0 hp0 rfl rfl ⟨Nat.le_of_ble_eq_true rfl, Nat.le_of_ble_eq_true rfl, Nat.zero_le _, Nat.zero_le _, Nat.le_of_ble_eq_true rfl⟩ [.ref (ra r), .ref ru] rfl ?_
      refine go_iload_n C dX3_bearExchange_16 1 rfl rfl ?_
      refine go_iload_n C dX3_bearExchange_17 2 rfl rfl ?_
      refine go_cV C (c_X3_hasExchanged G rs p0 p1 ru rows nth nr ra wa ln F pr pw r u z hp0 hp1 hrow hwd hln hnr (by omega)) ml_X3_51 mc_X3_hasExchanged dX3_bearExchange_18 [] rfl rfl p0 hp0 rfl rfl ⟨Nat.le_of_ble_eq_true rfl, Nat.le_of_ble_eq_true rfl, Nat.zero_le _, Nat.zero_le _, Nat.le_of_ble_eq_true rfl⟩ [.int (go_b (pc_hX nr ln F r u z (nr + 1) 0))] rfl ?_
      refine go_if_neB C 26 dX3_bearExchange_21 (by decide) (fun c_21 => ?_) (fun c_21 => ?_)
      · refine go_iinc C (nI (r + 1)) [(0, .ref ru), (1, .int u), (2, .int z), (3, .int (nI (r + 1)))] dX3_bearExchange_26 3 [1, 2, 3, 0] rfl (nI_add r 1) (by decide) rfl ?_
        refine go_goto C 2 dX3_bearExchange_29 (by decide) ?_
        exact ih (r + 1) (by omega) (by omega) (by rw [← hR]; first | contradiction | rfl | (simp [pc_bX, *]; done) | (rw [decide_eq_true (by omega)]; done) | (rw [decide_eq_false (by omega)]; done) | (simp_all [pc_bX]; done) | (simp [pc_bX]; omega) | (simp_all [pc_bX]; omega) | omega)
      · refine go_iconst C (0) dX3_bearExchange_24 (by decide) ?_
        refine go_se [.int (go_b (false))] rfl ?_
        exact go_zret C E dX3_bearExchange_25 (go_bn _) (by rw [← hR]; first | contradiction | rfl | (simp [pc_bX, *]; done) | (rw [decide_eq_true (by omega)]; done) | (rw [decide_eq_false (by omega)]; done) | (simp_all [pc_bX]; done) | (simp [pc_bX]; omega) | (simp_all [pc_bX]; omega) | omega) rfl
set_option maxHeartbeats 4000000 in
set_option maxRecDepth 100000 in
theorem c_X3_bearExchange (G : go_G) (rs : va_W) (p0 : Nat) (p1 : Nat) (ru : Nat) (rows : Nat) (nth : Nat) (nr : Nat) (ra : Nat → Nat) (wa : Nat → Nat) (ln : Nat → Nat) (F : Nat → Nat → Int32) (pr : Nat → Nat) (pw : Nat → Nat) (u : Int32) (z : Int32) (hp0 : rs[p0]? = some (ru, .inr (3, [.ref rows, .ref nth, .int (nI nr)]))) (hp1 : rs[p1]? = some (rows, .inl (G.2.2, 12, .inr (.inr (.inr (.inr (fun r => some (ra r)))))))) (hrow : ∀ r, r < 12 → rs[pr r]? = some (ra r, .inr (6, [.ref (wa r), .int (nI (ln r))]))) (hwd : ∀ r, r < 12 → rs[pw r]? = some (wa r, .inl (G.2.1, 32, .inl (F r)))) (hln : ∀ r, r < 12 → ln r ≤ 32) (hnr : nr ≤ 12) : go_Fn yX3_bearExchange cX3_bearExchange 4 (some .boolean) 4 96 G [.ref ru, .int u, .int z] rs (some (.int (go_b (pc_bX nr ln F u z (nr + 1) 0)))) rs := by
  refine go_Fn_of (by decide) (Nat.le_of_ble_eq_true rfl) (fun X C E => ?_)
  show go_Go X (0, 0) rs [(0, .ref ru), (1, .int u), (2, .int z)] [] 0
  refine go_iconst C (0) dX3_bearExchange_0 (by decide) ?_
  refine go_istore_n C [(0, .ref ru), (1, .int u), (2, .int z), (3, .int 0)] dX3_bearExchange_1 [1, 2, 3, 0] rfl (by decide) rfl ?_
  exact l_X3_bearExchange_2 G rs p0 p1 ru rows nth nr ra wa ln F pr pw u z hp0 hp1 hrow hwd hln hnr  C E (nr + 1) 0 (by omega) (by omega) rfl
