set_option maxHeartbeats 4000000 in
set_option maxRecDepth 100000 in
theorem l_X9_fires_115 {X : go_X} (G : go_G) (rs : va_W) (p0 : Nat) (p1 : Nat) (p2 : Nat) (p3 : Nat) (mo : Nat) (mfi : Nat) (mbl : Nat) (mpb : Nat) (mru : Nat) (mle : Nat) (miv : Nat) (mst : Nat) (mpa : Nat) (mhe : Nat) (maf : Nat) (mno : Nat) (msk : Nat) (nr : Nat) (il : Nat) (ct : Nat) (ex : Nat) (br : Int32) (sl : Bool) (fu : Bool) (Rf : Nat → Int32) (ln : Nat → Nat) (st : Nat → Int32) (b : Nat → Int32) (d : Nat → Int32) (r : Nat) (hp0 : rs[p0]? = some (mo, .inr (8, [.ref mfi, .ref mbl, .ref mpb, .ref mru, .ref mle, .ref miv, .ref mst, .ref mpa, .ref mhe, .ref maf, .ref mno, .ref msk, .int (nI nr), .int (nI il), .int (nI ct), .int (nI ex), .int br, .int (go_b (sl)), .int (go_b (fu))]))) (hp1 : rs[p1]? = some (mru, .inl (G.2.1, 384, .inl Rf))) (hp2 : rs[p2]? = some (mle, .inl (G.2.1, 12, .inl (pc_lf ln)))) (hp3 : rs[p3]? = some (mhe, .inl (G.2.1, 6, .inl b))) (hr : r < 12) (hln : ∀ r, r < 12 → ln r ≤ 32) (hRK : pc_RK (ln r) (pc_rr Rf r))  (hv2 : ¬ pc_rv (pc_rr Rf r) b 0 (pc_th (ln r) (pc_rr Rf r)) = 0) (C : go_Cx X cX9_fires RX9 (some .boolean) 6 2 45 0 0 G) (E : go_Ee X (S := Nat → Int32) (fun u => True) (fun u => some (.int (go_b (pc_mf (ln r) (pc_rr Rf r) b)))) (fun u => (maf, .inl (G.2.1, 6, .inl (pc_fA (ln r) (pc_rr Rf r) b d))) :: (msk, .inl (G.2.1, 9, .inl u)) :: rs))  : ∀ (n : Nat) (i : Nat) (h : Nat) (t : Nat → Int32) (e : Nat → Int32) (k : Nat) (hin : ln r < i + n) (hk : i + k = ln r) (ok2 : pc_okf' (pc_rr Rf r) k i h) (hfo : (pc_fo' (pc_rr Rf r) b k i h t e).2.2 = pc_af (ln r) (pc_rr Rf r) b), go_Go X (0, 0) ((maf, .inl (G.2.1, 6, .inl e)) :: (msk, .inl (G.2.1, 9, .inl t)) :: rs) [(0, .ref mo), (1, .int (nI r)), (2, .int (nI h)), (4, .int (nI i))] [] 115 := by
  intro n
  induction n with
  | zero => intro i h t e k hin hk ok2 hfo; omega
  | succ n ih =>
    intro i h t e k hin hk ok2 hfo
    have hlr := hln r hr
    have hth := hRK.1
    refine go_iload C dX9_fires_115 3 rfl ?_
    refine go_aload_n C dX9_fires_117 0 rfl rfl ?_
    refine go_get C (v := .ref mle) fl_X9_22 dX9_fires_118 (p0 + 2) hp0 rfl ?_
    refine go_iload_n C dX9_fires_121 1 rfl rfl ?_
    refine go_iald C dX9_fires_122 (p2 + 2) hp2 (r) rfl (by omega) (by decide) ?_
    refine go_se [.int (nI (ln r)), .int (nI i)] rfl ?_
    refine go_icmp_geN (a := i) (b := ln r) C 187 dX9_fires_123 (by decide) (by omega) (by omega) (fun c_123 => ?_) (fun c_123 => ?_)
    · refine go_iconst C (1) dX9_fires_187 (by decide) ?_
      refine go_se [.int (go_b (true))] rfl ?_
      exact go_zretE C E dX9_fires_188 (go_bn _) (t) trivial (by simp [pc_mf, hv2]) (by simp [pc_fA, pc_mf, hv2]; rw [← hfo, show k = 0 by omega]; rfl)
    · obtain ⟨k, rfl⟩ : ∃ q, k = q + 1 := ⟨k - 1, by omega⟩
      refine go_aload_n C dX9_fires_126 0 rfl rfl ?_
      refine go_get C (v := .ref mru) fl_X9_19 dX9_fires_127 (p0 + 2) hp0 rfl ?_
      refine go_bipush C (32) dX9_fires_130 (by decide) ?_
      refine go_iload_n C dX9_fires_132 1 rfl rfl ?_
      refine go_imul C (z := nI (32 * r)) dX9_fires_133 (pk_mul 32 r) ?_
      refine go_iload C dX9_fires_134 3 rfl ?_
      refine go_iadd C (z := nI ((32 * r) + i)) dX9_fires_136 (nI_add (32 * r) i) ?_
      refine go_iald C dX9_fires_137 (p1 + 2) hp1 ((32 * r) + i) rfl (by omega) (by decide) ?_
      refine go_se [.int (pc_rr Rf r i)] rfl ?_
      refine go_istore C [(0, .ref mo), (1, .int (nI r)), (2, .int (nI h)), (4, .int (nI i)), (5, .int (pc_rr Rf r i))] dX9_fires_138 [1, 2, 3, 4, 0] (by decide) rfl ?_
      refine go_iload C dX9_fires_140 4 rfl ?_
      refine go_sipush C (255) dX9_fires_142 (by decide) ?_
      refine go_iand C (z := pc_op (pc_rr Rf r i)) dX9_fires_145 rfl ?_
      refine go_bipush C (11) dX9_fires_146 (by decide) ?_
      refine go_icmp_ne C 173 dX9_fires_148 (by decide) (fun c_148 => ?_) (fun c_148 => ?_)
      · refine go_aload_n C dX9_fires_173 0 rfl rfl ?_
        refine go_iload C dX9_fires_174 4 rfl ?_
        refine go_iload_n C dX9_fires_176 2 rfl rfl ?_
        refine go_perm [(maf, .inl (G.2.1, 6, .inl e)), (msk, .inl (G.2.1, 9, .inl t))] [(msk, .inl (G.2.1, 9, .inl t)), (maf, .inl (G.2.1, 6, .inl e))] rs [1, 0] rfl rfl rfl ?_
        refine go_cV C (c_X9_done G ((maf, .inl (G.2.1, 6, .inl e)) :: rs) (p0 + 1) (p3 + 1) mo mfi mbl mpb mru mle miv mst mpa mhe maf mno msk nr il ct ex br sl fu t b (pc_rr Rf r i) h hp0 hp3 ((ok2.1.resolve_left (fun z => c_148 z.1)).2)) ml_X9_112 mc_X9_done dX9_fires_177 [] rfl rfl (p0 + 2) hp0 rfl rfl ⟨Nat.le_of_ble_eq_true rfl, Nat.le_of_ble_eq_true rfl, Nat.zero_le _, Nat.zero_le _, Nat.le_of_ble_eq_true rfl⟩ [.int (nI (pc_hw h (pc_rr Rf r i)))] rfl ?_
        refine go_istore_n C [(0, .ref mo), (1, .int (nI r)), (2, .int (nI (pc_hw h (pc_rr Rf r i)))), (4, .int (nI i)), (5, .int (pc_rr Rf r i))] dX9_fires_180 [1, 2, 0, 3, 4] rfl (by decide) rfl ?_
        refine go_iinc C (nI (i + 1)) [(0, .ref mo), (1, .int (nI r)), (2, .int (nI (pc_hw h (pc_rr Rf r i)))), (4, .int (nI (i + 1))), (5, .int (pc_rr Rf r i))] dX9_fires_181 3 [1, 2, 3, 0, 4] rfl (nI_add i 1) (by decide) rfl ?_
        refine go_goto C 115 dX9_fires_184 (by decide) ?_
        refine go_perm [(msk, .inl (G.2.1, 9, .inl (pc_s1 b h t (pc_rr Rf r i)))), (maf, .inl (G.2.1, 6, .inl e))] [(maf, .inl (G.2.1, 6, .inl e)), (msk, .inl (G.2.1, 9, .inl (pc_s1 b h t (pc_rr Rf r i))))] rs [1, 0] rfl rfl rfl ?_
        refine go_lv [(0, .ref mo), (1, .int (nI r)), (2, .int (nI (pc_hw h (pc_rr Rf r i)))), (4, .int (nI (i + 1)))] [0, 1, 2, 3] rfl ?_
        exact ih (i + 1) (pc_hw h (pc_rr Rf r i)) (pc_s1 b h t (pc_rr Rf r i)) e k (by omega) (by omega) (by have := ok2.2; simpa [pc_hw', c_148] using this) (by rw [← hfo]; simp [pc_fo', pc_hw', pc_s1', pc_a1', c_148])
      · obtain ⟨-, hk9, hh1, hh8⟩ := ok2.1.resolve_right (fun z => z.1 c_148)
        refine go_iinc C (nI (h - 1)) [(0, .ref mo), (1, .int (nI r)), (2, .int (nI (h - 1))), (4, .int (nI i)), (5, .int (pc_rr Rf r i))] dX9_fires_151 2 [1, 2, 0, 3, 4] rfl (pc_dec (by omega)) (by decide) rfl ?_
        refine go_aload_n C dX9_fires_154 0 rfl rfl ?_
        refine go_get C (v := .ref maf) fl_X9_37 dX9_fires_155 (p0 + 2) hp0 rfl ?_
        refine go_iload C dX9_fires_158 4 rfl ?_
        refine go_bipush C (8) dX9_fires_160 (by decide) ?_
        refine go_ishr C (z := pc_k (pc_rr Rf r i)) dX9_fires_162 rfl ?_
        refine go_aload_n C dX9_fires_163 0 rfl rfl ?_
        refine go_get C (v := .ref msk) fl_X9_43 dX9_fires_164 (p0 + 2) hp0 rfl ?_
        refine go_iload_n C dX9_fires_167 2 rfl rfl ?_
        refine go_iald C dX9_fires_168 1 rfl (h - 1) rfl (by omega) (by decide) ?_
        refine go_iast C dX9_fires_169 0 rfl ((pc_k ((pc_rr Rf r) i)).toNatClampNeg) (pc_isV_nI hk9).1 (pc_isV_nI hk9).2 (by decide) ((maf, .inl (G.2.1, 6, .inl (upd e ((pc_k ((pc_rr Rf r) i)).toNatClampNeg) (t (h - 1))))) :: (msk, .inl (G.2.1, 9, .inl t)) :: rs) rfl ?_
        refine go_goto C 181 dX9_fires_170 (by decide) ?_
        refine go_iinc C (nI (i + 1)) [(0, .ref mo), (1, .int (nI r)), (2, .int (nI (h - 1))), (4, .int (nI (i + 1))), (5, .int (pc_rr Rf r i))] dX9_fires_181 3 [1, 2, 3, 0, 4] rfl (nI_add i 1) (by decide) rfl ?_
        refine go_goto C 115 dX9_fires_184 (by decide) ?_
        refine go_lv [(0, .ref mo), (1, .int (nI r)), (2, .int (nI (h - 1))), (4, .int (nI (i + 1)))] [0, 1, 2, 3] rfl ?_
        exact ih (i + 1) (h - 1) t (upd e ((pc_k ((pc_rr Rf r) i)).toNatClampNeg) (t (h - 1))) k (by omega) (by omega) (by have := ok2.2; simpa [pc_hw', c_148] using this) (by rw [← hfo]; simp [pc_fo', pc_hw', pc_s1', pc_a1', c_148])
set_option maxHeartbeats 4000000 in
set_option maxRecDepth 100000 in
theorem l_X9_fires_83 {X : go_X} (G : go_G) (rs : va_W) (p0 : Nat) (p1 : Nat) (p2 : Nat) (p3 : Nat) (mo : Nat) (mfi : Nat) (mbl : Nat) (mpb : Nat) (mru : Nat) (mle : Nat) (miv : Nat) (mst : Nat) (mpa : Nat) (mhe : Nat) (maf : Nat) (mno : Nat) (msk : Nat) (nr : Nat) (il : Nat) (ct : Nat) (ex : Nat) (br : Int32) (sl : Bool) (fu : Bool) (Rf : Nat → Int32) (ln : Nat → Nat) (st : Nat → Int32) (b : Nat → Int32) (d : Nat → Int32) (r : Nat) (hp0 : rs[p0]? = some (mo, .inr (8, [.ref mfi, .ref mbl, .ref mpb, .ref mru, .ref mle, .ref miv, .ref mst, .ref mpa, .ref mhe, .ref maf, .ref mno, .ref msk, .int (nI nr), .int (nI il), .int (nI ct), .int (nI ex), .int br, .int (go_b (sl)), .int (go_b (fu))]))) (hp1 : rs[p1]? = some (mru, .inl (G.2.1, 384, .inl Rf))) (hp2 : rs[p2]? = some (mle, .inl (G.2.1, 12, .inl (pc_lf ln)))) (hp3 : rs[p3]? = some (mhe, .inl (G.2.1, 6, .inl b))) (hr : r < 12) (hln : ∀ r, r < 12 → ln r ≤ 32) (hRK : pc_RK (ln r) (pc_rr Rf r))  (t : Nat → Int32) (j : Nat) (C : go_Cx X cX9_fires RX9 (some .boolean) 6 2 45 0 0 G) (E : go_Ee X (S := Nat → Int32) (fun u => True) (fun u => some (.int (go_b (pc_mf (ln r) (pc_rr Rf r) b)))) (fun u => (maf, .inl (G.2.1, 6, .inl (pc_fA (ln r) (pc_rr Rf r) b d))) :: (msk, .inl (G.2.1, 9, .inl u)) :: rs)) (K : go_Go X (0, 0) ((maf, .inl (G.2.1, 6, .inl (pc_cp 6 b d))) :: (msk, .inl (G.2.1, 9, .inl t)) :: rs) [(0, .ref mo), (1, .int (nI r)), (3, .int (nI j))] [] 110) : ∀ (n : Nat) (v : Nat) (hin : 6 < v + n) (hv : v ≤ 6), go_Go X (0, 0) ((maf, .inl (G.2.1, 6, .inl (pc_cp v b d))) :: (msk, .inl (G.2.1, 9, .inl t)) :: rs) [(0, .ref mo), (1, .int (nI r)), (3, .int (nI j)), (4, .int (nI v))] [] 83 := by
  intro n
  induction n with
  | zero => intro v hin hv; omega
  | succ n ih =>
    intro v hin hv
    refine go_iload C dX9_fires_83 3 rfl ?_
    refine go_bipush C (6) dX9_fires_85 (by decide) ?_
    refine go_icmp_geN (a := v) (b := 6) C 110 dX9_fires_87 (by decide) (by omega) (by omega) (fun c_87 => ?_) (fun c_87 => ?_)
    · refine go_lv [(0, .ref mo), (1, .int (nI r)), (3, .int (nI j))] [0, 1, 2] rfl ?_
      refine go_we ((maf, .inl (G.2.1, 6, .inl (pc_cp 6 b d))) :: (msk, .inl (G.2.1, 9, .inl t)) :: rs) (by rw [show v = 6 by omega]) ?_
      exact K
    · refine go_aload_n C dX9_fires_90 0 rfl rfl ?_
      refine go_get C (v := .ref maf) fl_X9_37 dX9_fires_91 (p0 + 2) hp0 rfl ?_
      refine go_iload C dX9_fires_94 3 rfl ?_
      refine go_aload_n C dX9_fires_96 0 rfl rfl ?_
      refine go_get C (v := .ref mhe) fl_X9_34 dX9_fires_97 (p0 + 2) hp0 rfl ?_
      refine go_iload C dX9_fires_100 3 rfl ?_
      refine go_iald C dX9_fires_102 (p3 + 2) hp3 (v) rfl (by omega) (by decide) ?_
      refine go_iast C dX9_fires_103 0 rfl (v) rfl (by omega) (by decide) ((maf, .inl (G.2.1, 6, .inl (upd (pc_cp v b d) v (b v)))) :: (msk, .inl (G.2.1, 9, .inl t)) :: rs) rfl ?_
      refine go_we ((maf, .inl (G.2.1, 6, .inl (pc_cp (v + 1) b d))) :: (msk, .inl (G.2.1, 9, .inl t)) :: rs) (by rw [pc_cp_s]) ?_
      refine go_iinc C (nI (v + 1)) [(0, .ref mo), (1, .int (nI r)), (3, .int (nI j)), (4, .int (nI (v + 1)))] dX9_fires_104 3 [1, 2, 3, 0] rfl (nI_add v 1) (by decide) rfl ?_
      refine go_goto C 83 dX9_fires_107 (by decide) ?_
      exact ih (v + 1) (by omega) (by omega)
set_option maxHeartbeats 4000000 in
set_option maxRecDepth 100000 in
theorem l_X9_fires_7 {X : go_X} (G : go_G) (rs : va_W) (p0 : Nat) (p1 : Nat) (p2 : Nat) (p3 : Nat) (mo : Nat) (mfi : Nat) (mbl : Nat) (mpb : Nat) (mru : Nat) (mle : Nat) (miv : Nat) (mst : Nat) (mpa : Nat) (mhe : Nat) (maf : Nat) (mno : Nat) (msk : Nat) (nr : Nat) (il : Nat) (ct : Nat) (ex : Nat) (br : Int32) (sl : Bool) (fu : Bool) (Rf : Nat → Int32) (ln : Nat → Nat) (st : Nat → Int32) (b : Nat → Int32) (d : Nat → Int32) (r : Nat) (hp0 : rs[p0]? = some (mo, .inr (8, [.ref mfi, .ref mbl, .ref mpb, .ref mru, .ref mle, .ref miv, .ref mst, .ref mpa, .ref mhe, .ref maf, .ref mno, .ref msk, .int (nI nr), .int (nI il), .int (nI ct), .int (nI ex), .int br, .int (go_b (sl)), .int (go_b (fu))]))) (hp1 : rs[p1]? = some (mru, .inl (G.2.1, 384, .inl Rf))) (hp2 : rs[p2]? = some (mle, .inl (G.2.1, 12, .inl (pc_lf ln)))) (hp3 : rs[p3]? = some (mhe, .inl (G.2.1, 6, .inl b))) (hr : r < 12) (hln : ∀ r, r < 12 → ln r ≤ 32) (hRK : pc_RK (ln r) (pc_rr Rf r))  (fin : Nat × (Nat → Int32)) (C : go_Cx X cX9_fires RX9 (some .boolean) 6 2 45 0 0 G) (E : go_Ee X (S := Nat → Int32) (fun u => True) (fun u => some (.int (go_b (pc_mf (ln r) (pc_rr Rf r) b)))) (fun u => (maf, .inl (G.2.1, 6, .inl (pc_fA (ln r) (pc_rr Rf r) b d))) :: (msk, .inl (G.2.1, 9, .inl u)) :: rs)) (K : go_Go X (0, 0) ((maf, .inl (G.2.1, 6, .inl d)) :: (msk, .inl (G.2.1, 9, .inl fin.2)) :: rs) [(0, .ref mo), (1, .int (nI r)), (3, .int (nI (pc_th (ln r) (pc_rr Rf r) + 1)))] [] 69) : ∀ (n : Nat) (i : Nat) (fr : Nat) (h : Nat) (t : Nat → Int32) (k : Nat) (hin : ln r < i + n) (hi : i ≤ ln r) (hfr : fr ≤ 33) (hI : (fr = 0 ∧ i + k = pc_th (ln r) (pc_rr Rf r) ∧ pc_okf (pc_rr Rf r) k i h ∧ pc_fo (pc_rr Rf r) b k i h t = fin) ∨ (fr = pc_th (ln r) (pc_rr Rf r) + 1 ∧ (h, t) = fin)), go_Go X (0, 0) ((maf, .inl (G.2.1, 6, .inl d)) :: (msk, .inl (G.2.1, 9, .inl t)) :: rs) [(0, .ref mo), (1, .int (nI r)), (2, .int (nI h)), (3, .int (nI fr)), (4, .int (nI i))] [] 7 := by
  intro n
  induction n with
  | zero => intro i fr h t k hin hi hfr hI; omega
  | succ n ih =>
    intro i fr h t k hin hi hfr hI
    have hlr := hln r hr
    have hth := hRK.1
    refine go_iload C dX9_fires_7 4 rfl ?_
    refine go_aload_n C dX9_fires_9 0 rfl rfl ?_
    refine go_get C (v := .ref mle) fl_X9_22 dX9_fires_10 (p0 + 2) hp0 rfl ?_
    refine go_iload_n C dX9_fires_13 1 rfl rfl ?_
    refine go_iald C dX9_fires_14 (p2 + 2) hp2 (r) rfl (by omega) (by decide) ?_
    refine go_se [.int (nI (ln r)), .int (nI i)] rfl ?_
    refine go_icmp_geN (a := i) (b := ln r) C 69 dX9_fires_15 (by decide) (by omega) (by omega) (fun c_15 => ?_) (fun c_15 => ?_)
    · have hx := hI.resolve_left (fun q => by obtain ⟨q1, q2, -, -⟩ := q; omega)
      refine go_lv [(0, .ref mo), (1, .int (nI r)), (3, .int (nI fr))] [0, 1, 3] rfl ?_
      refine go_le [(0, .ref mo), (1, .int (nI r)), (3, .int (nI (pc_th (ln r) (pc_rr Rf r) + 1)))] (by rw [hx.1]) ?_
      refine go_we ((maf, .inl (G.2.1, 6, .inl d)) :: (msk, .inl (G.2.1, 9, .inl fin.2)) :: rs) (by rw [← hx.2]) ?_
      exact K
    · refine go_iload_n C dX9_fires_18 3 rfl rfl ?_
      refine go_if_neN C 69 dX9_fires_19 (by decide) (by omega) (fun c_19 => ?_) (fun c_19 => ?_)
      · have hx := hI.resolve_left (fun q => by obtain ⟨q1, q2, -, -⟩ := q; omega)
        refine go_lv [(0, .ref mo), (1, .int (nI r)), (3, .int (nI fr))] [0, 1, 3] rfl ?_
        refine go_le [(0, .ref mo), (1, .int (nI r)), (3, .int (nI (pc_th (ln r) (pc_rr Rf r) + 1)))] (by rw [hx.1]) ?_
        refine go_we ((maf, .inl (G.2.1, 6, .inl d)) :: (msk, .inl (G.2.1, 9, .inl fin.2)) :: rs) (by rw [← hx.2]) ?_
        exact K
      · obtain ⟨h2, h5, h3, h4⟩ := hI.resolve_right (fun q => by omega)
        refine go_aload_n C dX9_fires_22 0 rfl rfl ?_
        refine go_get C (v := .ref mru) fl_X9_19 dX9_fires_23 (p0 + 2) hp0 rfl ?_
        refine go_bipush C (32) dX9_fires_26 (by decide) ?_
        refine go_iload_n C dX9_fires_28 1 rfl rfl ?_
        refine go_imul C (z := nI (32 * r)) dX9_fires_29 (pk_mul 32 r) ?_
        refine go_iload C dX9_fires_30 4 rfl ?_
        refine go_iadd C (z := nI ((32 * r) + i)) dX9_fires_32 (nI_add (32 * r) i) ?_
        refine go_iald C dX9_fires_33 (p1 + 2) hp1 ((32 * r) + i) rfl (by omega) (by decide) ?_
        refine go_se [.int (pc_rr Rf r i)] rfl ?_
        refine go_istore C [(0, .ref mo), (1, .int (nI r)), (2, .int (nI h)), (3, .int (nI fr)), (4, .int (nI i)), (5, .int (pc_rr Rf r i))] dX9_fires_34 [1, 2, 3, 4, 5, 0] (by decide) rfl ?_
        refine go_iload C dX9_fires_36 5 rfl ?_
        refine go_sipush C (255) dX9_fires_38 (by decide) ?_
        refine go_iand C (z := pc_op (pc_rr Rf r i)) dX9_fires_41 rfl ?_
        refine go_bipush C (10) dX9_fires_42 (by decide) ?_
        refine go_icmp_ne C 55 dX9_fires_44 (by decide) (fun c_44 => ?_) (fun c_44 => ?_)
        · have hk0 : 0 < k := by
            rcases Nat.eq_zero_or_pos k with q | q
            · exact absurd (by rw [show i = pc_th (ln r) (pc_rr Rf r) by omega]; exact pc_th_at hth) c_44
            · exact q
          obtain ⟨k, rfl⟩ : ∃ q, k = q + 1 := ⟨k - 1, by omega⟩
          refine go_aload_n C dX9_fires_55 0 rfl rfl ?_
          refine go_iload C dX9_fires_56 5 rfl ?_
          refine go_iload_n C dX9_fires_58 2 rfl rfl ?_
          refine go_perm [(maf, .inl (G.2.1, 6, .inl d)), (msk, .inl (G.2.1, 9, .inl t))] [(msk, .inl (G.2.1, 9, .inl t)), (maf, .inl (G.2.1, 6, .inl d))] rs [1, 0] rfl rfl rfl ?_
          refine go_cV C (c_X9_done G ((maf, .inl (G.2.1, 6, .inl d)) :: rs) (p0 + 1) (p3 + 1) mo mfi mbl mpb mru mle miv mst mpa mhe maf mno msk nr il ct ex br sl fu t b (pc_rr Rf r i) h hp0 hp3 h3.1) ml_X9_112 mc_X9_done dX9_fires_59 [] rfl rfl (p0 + 2) hp0 rfl rfl ⟨Nat.le_of_ble_eq_true rfl, Nat.le_of_ble_eq_true rfl, Nat.zero_le _, Nat.zero_le _, Nat.le_of_ble_eq_true rfl⟩ [.int (nI (pc_hw h (pc_rr Rf r i)))] rfl ?_
          refine go_istore_n C [(0, .ref mo), (1, .int (nI r)), (2, .int (nI (pc_hw h (pc_rr Rf r i)))), (3, .int (nI fr)), (4, .int (nI i)), (5, .int (pc_rr Rf r i))] dX9_fires_62 [1, 2, 0, 3, 4, 5] rfl (by decide) rfl ?_
          refine go_iinc C (nI (i + 1)) [(0, .ref mo), (1, .int (nI r)), (2, .int (nI (pc_hw h (pc_rr Rf r i)))), (3, .int (nI fr)), (4, .int (nI (i + 1))), (5, .int (pc_rr Rf r i))] dX9_fires_63 4 [1, 2, 3, 4, 0, 5] rfl (nI_add i 1) (by decide) rfl ?_
          refine go_goto C 7 dX9_fires_66 (by decide) ?_
          refine go_perm [(msk, .inl (G.2.1, 9, .inl (pc_s1 b h t (pc_rr Rf r i)))), (maf, .inl (G.2.1, 6, .inl d))] [(maf, .inl (G.2.1, 6, .inl d)), (msk, .inl (G.2.1, 9, .inl (pc_s1 b h t (pc_rr Rf r i))))] rs [1, 0] rfl rfl rfl ?_
          refine go_lv [(0, .ref mo), (1, .int (nI r)), (2, .int (nI (pc_hw h (pc_rr Rf r i)))), (3, .int (nI fr)), (4, .int (nI (i + 1)))] [0, 1, 2, 3, 4] rfl ?_
          exact ih (i + 1) fr (pc_hw h (pc_rr Rf r i)) (pc_s1 b h t (pc_rr Rf r i)) k (by omega) (by omega) (by omega) (Or.inl ⟨h2, by omega, h3.2, h4⟩)
        · have hk0 : ¬ 0 < k := fun q => pc_th_lt (ln := ln r) (f := (pc_rr Rf r)) (j := i) (by omega) c_44
          refine go_iload C dX9_fires_47 4 rfl ?_
          refine go_iconst C (1) dX9_fires_49 (by decide) ?_
          refine go_iadd C (z := nI (i + 1)) dX9_fires_50 (nI_add i 1) ?_
          refine go_istore_n C [(0, .ref mo), (1, .int (nI r)), (2, .int (nI h)), (3, .int (nI (i + 1))), (4, .int (nI i)), (5, .int (pc_rr Rf r i))] dX9_fires_51 [1, 2, 3, 0, 4, 5] rfl (by decide) rfl ?_
          refine go_goto C 63 dX9_fires_52 (by decide) ?_
          refine go_iinc C (nI (i + 1)) [(0, .ref mo), (1, .int (nI r)), (2, .int (nI h)), (3, .int (nI (i + 1))), (4, .int (nI (i + 1))), (5, .int (pc_rr Rf r i))] dX9_fires_63 4 [1, 2, 3, 4, 0, 5] rfl (nI_add i 1) (by decide) rfl ?_
          refine go_goto C 7 dX9_fires_66 (by decide) ?_
          refine go_lv [(0, .ref mo), (1, .int (nI r)), (2, .int (nI h)), (3, .int (nI (i + 1))), (4, .int (nI (i + 1)))] [0, 1, 2, 3, 4] rfl ?_
          exact ih (i + 1) (i + 1) h t 0 (by omega) (by omega) (by omega) (Or.inr ⟨by omega, by rw [← h4, show k = 0 by omega]; rfl⟩)
set_option maxHeartbeats 4000000 in
set_option maxRecDepth 100000 in
theorem c_X9_fires (G : go_G) (rs : va_W) (p0 : Nat) (p1 : Nat) (p2 : Nat) (p3 : Nat) (mo : Nat) (mfi : Nat) (mbl : Nat) (mpb : Nat) (mru : Nat) (mle : Nat) (miv : Nat) (mst : Nat) (mpa : Nat) (mhe : Nat) (maf : Nat) (mno : Nat) (msk : Nat) (nr : Nat) (il : Nat) (ct : Nat) (ex : Nat) (br : Int32) (sl : Bool) (fu : Bool) (Rf : Nat → Int32) (ln : Nat → Nat) (st : Nat → Int32) (b : Nat → Int32) (d : Nat → Int32) (r : Nat) (hp0 : rs[p0]? = some (mo, .inr (8, [.ref mfi, .ref mbl, .ref mpb, .ref mru, .ref mle, .ref miv, .ref mst, .ref mpa, .ref mhe, .ref maf, .ref mno, .ref msk, .int (nI nr), .int (nI il), .int (nI ct), .int (nI ex), .int br, .int (go_b (sl)), .int (go_b (fu))]))) (hp1 : rs[p1]? = some (mru, .inl (G.2.1, 384, .inl Rf))) (hp2 : rs[p2]? = some (mle, .inl (G.2.1, 12, .inl (pc_lf ln)))) (hp3 : rs[p3]? = some (mhe, .inl (G.2.1, 6, .inl b))) (hr : r < 12) (hln : ∀ r, r < 12 → ln r ≤ 32) (hRK : pc_RK (ln r) (pc_rr Rf r)) : go_Fe yX9_fires cX9_fires 6 (some .boolean) 2 45 G [.ref mo, .int (nI r)] ((maf, .inl (G.2.1, 6, .inl d)) :: (msk, .inl (G.2.1, 9, .inl st)) :: rs) (S := Nat → Int32) (fun u => True) (fun u => some (.int (go_b (pc_mf (ln r) (pc_rr Rf r) b)))) (fun u => (maf, .inl (G.2.1, 6, .inl (pc_fA (ln r) (pc_rr Rf r) b d))) :: (msk, .inl (G.2.1, 9, .inl u)) :: rs) := by
  refine go_Fe_of (by decide) (Nat.le_of_ble_eq_true rfl) (fun X C E => ?_)
  show go_Go X (0, 0) ((maf, .inl (G.2.1, 6, .inl d)) :: (msk, .inl (G.2.1, 9, .inl st)) :: rs) [(0, .ref mo), (1, .int (nI r))] [] 0
  have hlr := hln r hr
  have hth := hRK.1
  have he := pc_fo_eq (f := (pc_rr Rf r)) (b := b) (pc_th (ln r) (pc_rr Rf r)) 0 0 st (fun _ => 0) hRK.2.1 (fun _ q => absurd q (by omega))
  have h1 : (pc_fo (pc_rr Rf r) b (pc_th (ln r) (pc_rr Rf r)) 0 0 st).1 = 1 := (pc_fo_1 _ 0 0 st).trans hRK.2.2.1
  have hv : (pc_fo (pc_rr Rf r) b (pc_th (ln r) (pc_rr Rf r)) 0 0 st).2 0 = pc_rv (pc_rr Rf r) b 0 (pc_th (ln r) (pc_rr Rf r)) := he.2 0 (by omega)
  refine go_iconst C (0) dX9_fires_0 (by decide) ?_
  refine go_istore_n C [(0, .ref mo), (1, .int (nI r)), (2, .int 0)] dX9_fires_1 [1, 2, 0] rfl (by decide) rfl ?_
  refine go_iconst C (0) dX9_fires_2 (by decide) ?_
  refine go_istore_n C [(0, .ref mo), (1, .int (nI r)), (2, .int 0), (3, .int 0)] dX9_fires_3 [1, 2, 3, 0] rfl (by decide) rfl ?_
  refine go_iconst C (0) dX9_fires_4 (by decide) ?_
  refine go_istore C [(0, .ref mo), (1, .int (nI r)), (2, .int 0), (3, .int 0), (4, .int 0)] dX9_fires_5 [1, 2, 3, 4, 0] (by decide) rfl ?_
  refine l_X9_fires_7 G rs p0 p1 p2 p3 mo mfi mbl mpb mru mle miv mst mpa mhe maf mno msk nr il ct ex br sl fu Rf ln st b d r hp0 hp1 hp2 hp3 hr hln hRK (pc_fo (pc_rr Rf r) b (pc_th (ln r) (pc_rr Rf r)) 0 0 st) C E ?_ (ln r + 1) 0 0 0 st (pc_th (ln r) (pc_rr Rf r)) (by omega) (by omega) (by omega) (Or.inl ⟨rfl, by omega, hRK.2.1, rfl⟩)
  show go_Go X (0, 0) ((maf, .inl (G.2.1, 6, .inl d)) :: (msk, .inl (G.2.1, 9, .inl ((pc_fo (pc_rr Rf r) b (pc_th (ln r) (pc_rr Rf r)) 0 0 st).2))) :: rs) [(0, .ref mo), (1, .int (nI r)), (3, .int (nI (pc_th (ln r) (pc_rr Rf r) + 1)))] [] 69
  refine go_aload_n C dX9_fires_69 0 rfl rfl ?_
  refine go_get C (v := .ref msk) fl_X9_43 dX9_fires_70 (p0 + 2) hp0 rfl ?_
  refine go_iconst C (0) dX9_fires_73 (by decide) ?_
  refine go_iald C dX9_fires_74 1 rfl (0) rfl (by decide) (by decide) ?_
  refine go_if_ne C 80 dX9_fires_75 (by decide) (fun c_75 => ?_) (fun c_75 => ?_)
  · refine go_iconst C (0) dX9_fires_80 (by decide) ?_
    refine go_we ((maf, .inl (G.2.1, 6, .inl (pc_cp 0 b d))) :: (msk, .inl (G.2.1, 9, .inl ((pc_fo (pc_rr Rf r) b (pc_th (ln r) (pc_rr Rf r)) 0 0 st).2))) :: rs) (by rw [pc_cp_0]) ?_
    refine go_istore C [(0, .ref mo), (1, .int (nI r)), (3, .int (nI (pc_th (ln r) (pc_rr Rf r) + 1))), (4, .int 0)] dX9_fires_81 [1, 2, 3, 0] (by decide) rfl ?_
    refine l_X9_fires_83 G rs p0 p1 p2 p3 mo mfi mbl mpb mru mle miv mst mpa mhe maf mno msk nr il ct ex br sl fu Rf ln st b d r hp0 hp1 hp2 hp3 hr hln hRK ((pc_fo (pc_rr Rf r) b (pc_th (ln r) (pc_rr Rf r)) 0 0 st).2) (pc_th (ln r) (pc_rr Rf r) + 1) C E ?_ 7 0 (by omega) (by omega)
    show go_Go X (0, 0) ((maf, .inl (G.2.1, 6, .inl (pc_cp 6 b d))) :: (msk, .inl (G.2.1, 9, .inl ((pc_fo (pc_rr Rf r) b (pc_th (ln r) (pc_rr Rf r)) 0 0 st).2))) :: rs) [(0, .ref mo), (1, .int (nI r)), (3, .int (nI ((pc_th (ln r) (pc_rr Rf r) + 1))))] [] 110
    refine go_cont 0 rfl b (fun j hj => by simp [pc_cp, hj]) ((maf, .inl (G.2.1, 6, .inl b)) :: (msk, .inl (G.2.1, 9, .inl ((pc_fo (pc_rr Rf r) b (pc_th (ln r) (pc_rr Rf r)) 0 0 st).2))) :: rs) rfl ?_
    refine go_iconst C (0) dX9_fires_110 (by decide) ?_
    refine go_istore_n C [(0, .ref mo), (1, .int (nI r)), (2, .int 0), (3, .int (nI ((pc_th (ln r) (pc_rr Rf r) + 1))))] dX9_fires_111 [1, 2, 0, 3] rfl (by decide) rfl ?_
    refine go_iload_n C dX9_fires_112 3 rfl rfl ?_
    refine go_istore C [(0, .ref mo), (1, .int (nI r)), (2, .int 0), (3, .int (nI ((pc_th (ln r) (pc_rr Rf r) + 1)))), (4, .int (nI ((pc_th (ln r) (pc_rr Rf r) + 1))))] dX9_fires_113 [1, 2, 3, 4, 0] (by decide) rfl ?_
    refine go_lv [(0, .ref mo), (1, .int (nI r)), (2, .int 0), (4, .int (nI ((pc_th (ln r) (pc_rr Rf r) + 1))))] [0, 1, 2, 4] rfl ?_
    exact l_X9_fires_115 G rs p0 p1 p2 p3 mo mfi mbl mpb mru mle miv mst mpa mhe maf mno msk nr il ct ex br sl fu Rf ln st b d r hp0 hp1 hp2 hp3 hr hln hRK (by rw [← hv]; exact c_75) C E (ln r + 1) (pc_th (ln r) (pc_rr Rf r) + 1) 0 ((pc_fo (pc_rr Rf r) b (pc_th (ln r) (pc_rr Rf r)) 0 0 st).2) b (ln r - (pc_th (ln r) (pc_rr Rf r) + 1)) (by omega) (by omega) hRK.2.2.2.1 (pc_fo'_eq _ _ 0 _ (fun _ => 0) b hRK.2.2.2.1 (fun _ q => absurd q (by omega)))
  · refine go_iconst C (0) dX9_fires_78 (by decide) ?_
    refine go_se [.int (go_b (false))] rfl ?_
    exact go_zretE C E dX9_fires_79 (go_bn _) ((pc_fo (pc_rr Rf r) b (pc_th (ln r) (pc_rr Rf r)) 0 0 st).2) trivial (by simp [pc_mf, ← hv, c_75]) (by simp [pc_fA, pc_mf, ← hv, c_75])
set_option maxHeartbeats 4000000 in
set_option maxRecDepth 100000 in
theorem l_X9_place_4 {X : go_X} (G : go_G) (rs : va_W) (p0 : Nat) (p1 : Nat) (p2 : Nat) (mo : Nat) (mfi : Nat) (mbl : Nat) (mpb : Nat) (mru : Nat) (mle : Nat) (miv : Nat) (mst : Nat) (mpa : Nat) (mhe : Nat) (maf : Nat) (mno : Nat) (msk : Nat) (nr : Nat) (il : Nat) (ct : Nat) (ex : Nat) (br : Int32) (sl : Bool) (fu : Bool) (Bf : Nat → Int32) (s : Nat → Int32) (v : Nat) (hp0 : rs[p0]? = some (mo, .inr (8, [.ref mfi, .ref mbl, .ref mpb, .ref mru, .ref mle, .ref miv, .ref mst, .ref mpa, .ref mhe, .ref maf, .ref mno, .ref msk, .int (nI nr), .int (nI il), .int (nI ct), .int (nI ex), .int br, .int (go_b (sl)), .int (go_b (fu))]))) (hp1 : rs[p1]? = some (mbl, .inl (G.2.1, 6, .inl Bf))) (hp2 : rs[p2]? = some (maf, .inl (G.2.1, 6, .inl s))) (hv : v < 6) {Rr : Option Value}  (C : go_Cx X cX9_place RX9 (some .int) 4 0 0 0 0 G) (E : go_Ex X Rr rs)  : ∀ (n : Nat) (u : Nat) (m : Nat) (hin : 6 < u + n) (hu : u ≤ 6) (hm : m ≤ u) (hR : some (.int (nI (pc_pl Bf s v n u m))) = Rr), go_Go X (0, 0) rs [(0, .ref mo), (1, .int (nI v)), (2, .int (nI m)), (3, .int (nI u))] [] 4 := by
  intro n
  induction n with
  | zero => intro u m hin hu hm hR; omega
  | succ n ih =>
    intro u m hin hu hm hR
    refine go_iload_n C dX9_place_4 3 rfl rfl ?_
    refine go_bipush C (6) dX9_place_5 (by decide) ?_
    refine go_icmp_geN (a := u) (b := 6) C 74 dX9_place_7 (by decide) (by omega) (by omega) (fun c_7 => ?_) (fun c_7 => ?_)
    · refine go_iload_n C dX9_place_74 2 rfl rfl ?_
      exact go_iret C E dX9_place_75 (by rw [← hR]; simp [pc_pl, c_7]) rfl
    · refine go_iload_n C dX9_place_10 3 rfl rfl ?_
      refine go_iload_n C dX9_place_11 1 rfl rfl ?_
      refine go_icmp_eqN (a := u) (b := v) C 68 dX9_place_12 (by decide) (by omega) (by omega) (fun c_12 => ?_) (fun c_12 => ?_)
      · refine go_iinc C (nI (u + 1)) [(0, .ref mo), (1, .int (nI v)), (2, .int (nI m)), (3, .int (nI (u + 1)))] dX9_place_68 3 [1, 2, 3, 0] rfl (nI_add u 1) (by decide) rfl ?_
        refine go_goto C 4 dX9_place_71 (by decide) ?_
        exact ih (u + 1) m (by omega) (by omega) (by omega) (by rw [← hR]; first | (simp only [pc_pl, if_pos c_7, if_pos (show ¬ u = v ∧ Bf u = Bf v ∧ (s u < s v ∨ (s u = s v ∧ u < v)) by first | exact ⟨c_12, c_27, Or.inl c_42⟩ | exact ⟨c_12, c_27, Or.inr ⟨c_57, c_62⟩⟩)]; done) | (simp only [pc_pl, if_pos c_7, if_neg (show ¬ (¬ u = v ∧ Bf u = Bf v ∧ (s u < s v ∨ (s u = s v ∧ u < v))) by first | exact fun q => q.1 c_12 | exact fun q => c_27 q.2.1 | exact fun q => q.2.2.elim c_42 (fun z => c_57 z.1) | exact fun q => q.2.2.elim c_42 (fun z => c_62 z.2))]; done))
      · refine go_aload_n C dX9_place_15 0 rfl rfl ?_
        refine go_get C (v := .ref mbl) fl_X9_13 dX9_place_16 p0 hp0 rfl ?_
        refine go_iload_n C dX9_place_19 3 rfl rfl ?_
        refine go_iald C dX9_place_20 p1 hp1 (u) rfl (by omega) (by decide) ?_
        refine go_aload_n C dX9_place_21 0 rfl rfl ?_
        refine go_get C (v := .ref mbl) fl_X9_13 dX9_place_22 p0 hp0 rfl ?_
        refine go_iload_n C dX9_place_25 1 rfl rfl ?_
        refine go_iald C dX9_place_26 p1 hp1 (v) rfl (by omega) (by decide) ?_
        refine go_icmp_ne C 68 dX9_place_27 (by decide) (fun c_27 => ?_) (fun c_27 => ?_)
        · refine go_iinc C (nI (u + 1)) [(0, .ref mo), (1, .int (nI v)), (2, .int (nI m)), (3, .int (nI (u + 1)))] dX9_place_68 3 [1, 2, 3, 0] rfl (nI_add u 1) (by decide) rfl ?_
          refine go_goto C 4 dX9_place_71 (by decide) ?_
          exact ih (u + 1) m (by omega) (by omega) (by omega) (by rw [← hR]; first | (simp only [pc_pl, if_pos c_7, if_pos (show ¬ u = v ∧ Bf u = Bf v ∧ (s u < s v ∨ (s u = s v ∧ u < v)) by first | exact ⟨c_12, c_27, Or.inl c_42⟩ | exact ⟨c_12, c_27, Or.inr ⟨c_57, c_62⟩⟩)]; done) | (simp only [pc_pl, if_pos c_7, if_neg (show ¬ (¬ u = v ∧ Bf u = Bf v ∧ (s u < s v ∨ (s u = s v ∧ u < v))) by first | exact fun q => q.1 c_12 | exact fun q => c_27 q.2.1 | exact fun q => q.2.2.elim c_42 (fun z => c_57 z.1) | exact fun q => q.2.2.elim c_42 (fun z => c_62 z.2))]; done))
        · refine go_aload_n C dX9_place_30 0 rfl rfl ?_
          refine go_get C (v := .ref maf) fl_X9_37 dX9_place_31 p0 hp0 rfl ?_
          refine go_iload_n C dX9_place_34 3 rfl rfl ?_
          refine go_iald C dX9_place_35 p2 hp2 (u) rfl (by omega) (by decide) ?_
          refine go_aload_n C dX9_place_36 0 rfl rfl ?_
          refine go_get C (v := .ref maf) fl_X9_37 dX9_place_37 p0 hp0 rfl ?_
          refine go_iload_n C dX9_place_40 1 rfl rfl ?_
          refine go_iald C dX9_place_41 p2 hp2 (v) rfl (by omega) (by decide) ?_
          refine go_icmp_lt C 65 dX9_place_42 (by decide) (fun c_42 => ?_) (fun c_42 => ?_)
          · refine go_iinc C (nI (m + 1)) [(0, .ref mo), (1, .int (nI v)), (2, .int (nI (m + 1))), (3, .int (nI u))] dX9_place_65 2 [1, 2, 0, 3] rfl (nI_add m 1) (by decide) rfl ?_
            refine go_iinc C (nI (u + 1)) [(0, .ref mo), (1, .int (nI v)), (2, .int (nI (m + 1))), (3, .int (nI (u + 1)))] dX9_place_68 3 [1, 2, 3, 0] rfl (nI_add u 1) (by decide) rfl ?_
            refine go_goto C 4 dX9_place_71 (by decide) ?_
            exact ih (u + 1) (m + 1) (by omega) (by omega) (by omega) (by rw [← hR]; first | (simp only [pc_pl, if_pos c_7, if_pos (show ¬ u = v ∧ Bf u = Bf v ∧ (s u < s v ∨ (s u = s v ∧ u < v)) by first | exact ⟨c_12, c_27, Or.inl c_42⟩ | exact ⟨c_12, c_27, Or.inr ⟨c_57, c_62⟩⟩)]; done) | (simp only [pc_pl, if_pos c_7, if_neg (show ¬ (¬ u = v ∧ Bf u = Bf v ∧ (s u < s v ∨ (s u = s v ∧ u < v))) by first | exact fun q => q.1 c_12 | exact fun q => c_27 q.2.1 | exact fun q => q.2.2.elim c_42 (fun z => c_57 z.1) | exact fun q => q.2.2.elim c_42 (fun z => c_62 z.2))]; done))
          · refine go_aload_n C dX9_place_45 0 rfl rfl ?_
            refine go_get C (v := .ref maf) fl_X9_37 dX9_place_46 p0 hp0 rfl ?_
            refine go_iload_n C dX9_place_49 3 rfl rfl ?_
            refine go_iald C dX9_place_50 p2 hp2 (u) rfl (by omega) (by decide) ?_
            refine go_aload_n C dX9_place_51 0 rfl rfl ?_
            refine go_get C (v := .ref maf) fl_X9_37 dX9_place_52 p0 hp0 rfl ?_
            refine go_iload_n C dX9_place_55 1 rfl rfl ?_
            refine go_iald C dX9_place_56 p2 hp2 (v) rfl (by omega) (by decide) ?_
            refine go_icmp_ne C 68 dX9_place_57 (by decide) (fun c_57 => ?_) (fun c_57 => ?_)
            · refine go_iinc C (nI (u + 1)) [(0, .ref mo), (1, .int (nI v)), (2, .int (nI m)), (3, .int (nI (u + 1)))] dX9_place_68 3 [1, 2, 3, 0] rfl (nI_add u 1) (by decide) rfl ?_
              refine go_goto C 4 dX9_place_71 (by decide) ?_
              exact ih (u + 1) m (by omega) (by omega) (by omega) (by rw [← hR]; first | (simp only [pc_pl, if_pos c_7, if_pos (show ¬ u = v ∧ Bf u = Bf v ∧ (s u < s v ∨ (s u = s v ∧ u < v)) by first | exact ⟨c_12, c_27, Or.inl c_42⟩ | exact ⟨c_12, c_27, Or.inr ⟨c_57, c_62⟩⟩)]; done) | (simp only [pc_pl, if_pos c_7, if_neg (show ¬ (¬ u = v ∧ Bf u = Bf v ∧ (s u < s v ∨ (s u = s v ∧ u < v))) by first | exact fun q => q.1 c_12 | exact fun q => c_27 q.2.1 | exact fun q => q.2.2.elim c_42 (fun z => c_57 z.1) | exact fun q => q.2.2.elim c_42 (fun z => c_62 z.2))]; done))
            · refine go_iload_n C dX9_place_60 3 rfl rfl ?_
              refine go_iload_n C dX9_place_61 1 rfl rfl ?_
              refine go_icmp_geN (a := u) (b := v) C 68 dX9_place_62 (by decide) (by omega) (by omega) (fun c_62 => ?_) (fun c_62 => ?_)
              · refine go_iinc C (nI (u + 1)) [(0, .ref mo), (1, .int (nI v)), (2, .int (nI m)), (3, .int (nI (u + 1)))] dX9_place_68 3 [1, 2, 3, 0] rfl (nI_add u 1) (by decide) rfl ?_
                refine go_goto C 4 dX9_place_71 (by decide) ?_
                exact ih (u + 1) m (by omega) (by omega) (by omega) (by rw [← hR]; first | (simp only [pc_pl, if_pos c_7, if_pos (show ¬ u = v ∧ Bf u = Bf v ∧ (s u < s v ∨ (s u = s v ∧ u < v)) by first | exact ⟨c_12, c_27, Or.inl c_42⟩ | exact ⟨c_12, c_27, Or.inr ⟨c_57, c_62⟩⟩)]; done) | (simp only [pc_pl, if_pos c_7, if_neg (show ¬ (¬ u = v ∧ Bf u = Bf v ∧ (s u < s v ∨ (s u = s v ∧ u < v))) by first | exact fun q => q.1 c_12 | exact fun q => c_27 q.2.1 | exact fun q => q.2.2.elim c_42 (fun z => c_57 z.1) | exact fun q => q.2.2.elim c_42 (fun z => c_62 z.2))]; done))
              · refine go_iinc C (nI (m + 1)) [(0, .ref mo), (1, .int (nI v)), (2, .int (nI (m + 1))), (3, .int (nI u))] dX9_place_65 2 [1, 2, 0, 3] rfl (nI_add m 1) (by decide) rfl ?_
                refine go_iinc C (nI (u + 1)) [(0, .ref mo), (1, .int (nI v)), (2, .int (nI (m + 1))), (3, .int (nI (u + 1)))] dX9_place_68 3 [1, 2, 3, 0] rfl (nI_add u 1) (by decide) rfl ?_
                refine go_goto C 4 dX9_place_71 (by decide) ?_
                exact ih (u + 1) (m + 1) (by omega) (by omega) (by omega) (by rw [← hR]; first | (simp only [pc_pl, if_pos c_7, if_pos (show ¬ u = v ∧ Bf u = Bf v ∧ (s u < s v ∨ (s u = s v ∧ u < v)) by first | exact ⟨c_12, c_27, Or.inl c_42⟩ | exact ⟨c_12, c_27, Or.inr ⟨c_57, c_62⟩⟩)]; done) | (simp only [pc_pl, if_pos c_7, if_neg (show ¬ (¬ u = v ∧ Bf u = Bf v ∧ (s u < s v ∨ (s u = s v ∧ u < v))) by first | exact fun q => q.1 c_12 | exact fun q => c_27 q.2.1 | exact fun q => q.2.2.elim c_42 (fun z => c_57 z.1) | exact fun q => q.2.2.elim c_42 (fun z => c_62 z.2))]; done))
set_option maxHeartbeats 4000000 in
set_option maxRecDepth 100000 in
theorem c_X9_place (G : go_G) (rs : va_W) (p0 : Nat) (p1 : Nat) (p2 : Nat) (mo : Nat) (mfi : Nat) (mbl : Nat) (mpb : Nat) (mru : Nat) (mle : Nat) (miv : Nat) (mst : Nat) (mpa : Nat) (mhe : Nat) (maf : Nat) (mno : Nat) (msk : Nat) (nr : Nat) (il : Nat) (ct : Nat) (ex : Nat) (br : Int32) (sl : Bool) (fu : Bool) (Bf : Nat → Int32) (s : Nat → Int32) (v : Nat) (hp0 : rs[p0]? = some (mo, .inr (8, [.ref mfi, .ref mbl, .ref mpb, .ref mru, .ref mle, .ref miv, .ref mst, .ref mpa, .ref mhe, .ref maf, .ref mno, .ref msk, .int (nI nr), .int (nI il), .int (nI ct), .int (nI ex), .int br, .int (go_b (sl)), .int (go_b (fu))]))) (hp1 : rs[p1]? = some (mbl, .inl (G.2.1, 6, .inl Bf))) (hp2 : rs[p2]? = some (maf, .inl (G.2.1, 6, .inl s))) (hv : v < 6) : go_Fn yX9_place cX9_place 4 (some .int) 0 0 G [.ref mo, .int (nI v)] rs (some (.int (nI (pc_pl Bf s v 7 0 0)))) rs := by
  refine go_Fn_of (by decide) (Nat.le_of_ble_eq_true rfl) (fun X C E => ?_)
  show go_Go X (0, 0) rs [(0, .ref mo), (1, .int (nI v))] [] 0
  refine go_iconst C (0) dX9_place_0 (by decide) ?_
  refine go_istore_n C [(0, .ref mo), (1, .int (nI v)), (2, .int 0)] dX9_place_1 [1, 2, 0] rfl (by decide) rfl ?_
  refine go_iconst C (0) dX9_place_2 (by decide) ?_
  refine go_istore_n C [(0, .ref mo), (1, .int (nI v)), (2, .int 0), (3, .int 0)] dX9_place_3 [1, 2, 3, 0] rfl (by decide) rfl ?_
  exact l_X9_place_4 G rs p0 p1 p2 mo mfi mbl mpb mru mle miv mst mpa mhe maf mno msk nr il ct ex br sl fu Bf s v hp0 hp1 hp2 hv  C E 7 0 0 (by omega) (by omega) (by omega) rfl
set_option maxHeartbeats 4000000 in
set_option maxRecDepth 100000 in
theorem l_X9_inOrder_51 {X : go_X} (G : go_G) (rs : va_W) (p0 : Nat) (p1 : Nat) (p2 : Nat) (mo : Nat) (mfi : Nat) (mbl : Nat) (mpb : Nat) (mru : Nat) (mle : Nat) (miv : Nat) (mst : Nat) (mpa : Nat) (mhe : Nat) (maf : Nat) (mno : Nat) (msk : Nat) (nr : Nat) (il : Nat) (ct : Nat) (ex : Nat) (br : Int32) (sl : Bool) (fu : Bool) (Bf : Nat → Int32) (s : Nat → Int32) (v : Nat) (hp0 : rs[p0]? = some (mo, .inr (8, [.ref mfi, .ref mbl, .ref mpb, .ref mru, .ref mle, .ref miv, .ref mst, .ref mpa, .ref mhe, .ref maf, .ref mno, .ref msk, .int (nI nr), .int (nI il), .int (nI ct), .int (nI ex), .int br, .int (go_b (sl)), .int (go_b (fu))]))) (hp1 : rs[p1]? = some (mbl, .inl (G.2.1, 6, .inl Bf))) (hp2 : rs[p2]? = some (maf, .inl (G.2.1, 6, .inl s))) (hv : v < 6) {Rr : Option Value} (rk : Nat) (hrk : rk ≤ 6) (C : go_Cx X cX9_inOrder RX9 (some .int) 4 1 23 0 0 G) (E : go_Ex X Rr rs)  : ∀ (n : Nat) (u : Nat) (hin : 6 < u + n) (hu : u ≤ 6) (hR : some (.int (pc_sl Bf s v rk n u)) = Rr), go_Go X (0, 0) rs [(0, .ref mo), (1, .int (nI v)), (2, .int (nI rk)), (3, .int (nI u))] [] 51 := by
  intro n
  induction n with
  | zero => intro u hin hu hR; omega
  | succ n ih =>
    intro u hin hu hR
    refine go_iload_n C dX9_inOrder_51 3 rfl rfl ?_
    refine go_bipush C (6) dX9_inOrder_52 (by decide) ?_
    refine go_icmp_geN (a := u) (b := 6) C 94 dX9_inOrder_54 (by decide) (by omega) (by omega) (fun c_54 => ?_) (fun c_54 => ?_)
    · refine go_iconst C (0) dX9_inOrder_94 (by decide) ?_
      exact go_iret C E dX9_inOrder_95 (by rw [← hR]; first | (simp only [pc_sl, if_pos c_54, if_pos (show Bf u = Bf v ∧ pc_pl Bf s u 7 0 0 = rk from ⟨c_69, c_78⟩)]; done) | (simp [pc_sl, c_54]; done)) rfl
    · refine go_aload_n C dX9_inOrder_57 0 rfl rfl ?_
      refine go_get C (v := .ref mbl) fl_X9_13 dX9_inOrder_58 p0 hp0 rfl ?_
      refine go_iload_n C dX9_inOrder_61 3 rfl rfl ?_
      refine go_iald C dX9_inOrder_62 p1 hp1 (u) rfl (by omega) (by decide) ?_
      refine go_aload_n C dX9_inOrder_63 0 rfl rfl ?_
      refine go_get C (v := .ref mbl) fl_X9_13 dX9_inOrder_64 p0 hp0 rfl ?_
      refine go_iload_n C dX9_inOrder_67 1 rfl rfl ?_
      refine go_iald C dX9_inOrder_68 p1 hp1 (v) rfl (by omega) (by decide) ?_
      refine go_icmp_ne C 88 dX9_inOrder_69 (by decide) (fun c_69 => ?_) (fun c_69 => ?_)
      · refine go_iinc C (nI (u + 1)) [(0, .ref mo), (1, .int (nI v)), (2, .int (nI rk)), (3, .int (nI (u + 1)))] dX9_inOrder_88 3 [1, 2, 3, 0] rfl (nI_add u 1) (by decide) rfl ?_
        refine go_goto C 51 dX9_inOrder_91 (by decide) ?_
        exact ih (u + 1) (by omega) (by omega) (by rw [← hR]; first | (simp only [pc_sl, if_pos c_54, if_neg (show ¬ (Bf u = Bf v ∧ pc_pl Bf s u 7 0 0 = rk) from fun q => c_78 q.2)]; done) | (simp only [pc_sl, if_pos c_54, if_neg (show ¬ (Bf u = Bf v ∧ pc_pl Bf s u 7 0 0 = rk) from fun q => c_69 q.1)]; done))
      · refine go_aload_n C dX9_inOrder_72 0 rfl rfl ?_
        refine go_iload_n C dX9_inOrder_73 3 rfl rfl ?_
        refine go_cV C (c_X9_place G rs p0 p1 p2 mo mfi mbl mpb mru mle miv mst mpa mhe maf mno msk nr il ct ex br sl fu Bf s u hp0 hp1 hp2 (by omega)) ml_X9_115 mc_X9_place dX9_inOrder_74 [] rfl rfl p0 hp0 rfl rfl ⟨Nat.le_of_ble_eq_true rfl, Nat.le_of_ble_eq_true rfl, Nat.zero_le _, Nat.zero_le _, Nat.le_of_ble_eq_true rfl⟩ [.int (nI (pc_pl Bf s u 7 0 0))] rfl ?_
        have hpl := pc_pl_le (B := Bf) (s := s) (v := u) 7 0 0 (by omega) (by omega)
        refine go_iload_n C dX9_inOrder_77 2 rfl rfl ?_
        refine go_icmp_neN (a := pc_pl Bf s u 7 0 0) (b := rk) C 88 dX9_inOrder_78 (by decide) (by omega) (by omega) (fun c_78 => ?_) (fun c_78 => ?_)
        · refine go_iinc C (nI (u + 1)) [(0, .ref mo), (1, .int (nI v)), (2, .int (nI rk)), (3, .int (nI (u + 1)))] dX9_inOrder_88 3 [1, 2, 3, 0] rfl (nI_add u 1) (by decide) rfl ?_
          refine go_goto C 51 dX9_inOrder_91 (by decide) ?_
          exact ih (u + 1) (by omega) (by omega) (by rw [← hR]; first | (simp only [pc_sl, if_pos c_54, if_neg (show ¬ (Bf u = Bf v ∧ pc_pl Bf s u 7 0 0 = rk) from fun q => c_78 q.2)]; done) | (simp only [pc_sl, if_pos c_54, if_neg (show ¬ (Bf u = Bf v ∧ pc_pl Bf s u 7 0 0 = rk) from fun q => c_69 q.1)]; done))
        · refine go_aload_n C dX9_inOrder_81 0 rfl rfl ?_
          refine go_get C (v := .ref maf) fl_X9_37 dX9_inOrder_82 p0 hp0 rfl ?_
          refine go_iload_n C dX9_inOrder_85 3 rfl rfl ?_
          refine go_iald C dX9_inOrder_86 p2 hp2 (u) rfl (by omega) (by decide) ?_
          exact go_iret C E dX9_inOrder_87 (by rw [← hR]; first | (simp only [pc_sl, if_pos c_54, if_pos (show Bf u = Bf v ∧ pc_pl Bf s u 7 0 0 = rk from ⟨c_69, c_78⟩)]; done) | (simp [pc_sl, c_54]; done)) rfl
set_option maxHeartbeats 4000000 in
set_option maxRecDepth 100000 in
theorem l_X9_inOrder_20 {X : go_X} (G : go_G) (rs : va_W) (p0 : Nat) (p1 : Nat) (p2 : Nat) (mo : Nat) (mfi : Nat) (mbl : Nat) (mpb : Nat) (mru : Nat) (mle : Nat) (miv : Nat) (mst : Nat) (mpa : Nat) (mhe : Nat) (maf : Nat) (mno : Nat) (msk : Nat) (nr : Nat) (il : Nat) (ct : Nat) (ex : Nat) (br : Int32) (sl : Bool) (fu : Bool) (Bf : Nat → Int32) (s : Nat → Int32) (v : Nat) (hp0 : rs[p0]? = some (mo, .inr (8, [.ref mfi, .ref mbl, .ref mpb, .ref mru, .ref mle, .ref miv, .ref mst, .ref mpa, .ref mhe, .ref maf, .ref mno, .ref msk, .int (nI nr), .int (nI il), .int (nI ct), .int (nI ex), .int br, .int (go_b (sl)), .int (go_b (fu))]))) (hp1 : rs[p1]? = some (mbl, .inl (G.2.1, 6, .inl Bf))) (hp2 : rs[p2]? = some (maf, .inl (G.2.1, 6, .inl s))) (hv : v < 6) {Rr : Option Value} {W1 : va_W} (fin : Nat) (C : go_Cx X cX9_inOrder RX9 (some .int) 4 1 23 0 0 G) (E : go_Ex X Rr W1) (K : go_Go X (0, 0) rs [(0, .ref mo), (1, .int (nI v)), (2, .int (nI fin))] [] 49) : ∀ (n : Nat) (u : Nat) (m : Nat) (hin : 6 < u + n) (hu : u ≤ 6) (hm : m ≤ u) (hF : pc_rk Bf v n u m = fin), go_Go X (0, 0) rs [(0, .ref mo), (1, .int (nI v)), (2, .int (nI m)), (3, .int (nI u))] [] 20 := by
  intro n
  induction n with
  | zero => intro u m hin hu hm hF; omega
  | succ n ih =>
    intro u m hin hu hm hF
    refine go_iload_n C dX9_inOrder_20 3 rfl rfl ?_
    refine go_iload_n C dX9_inOrder_21 1 rfl rfl ?_
    refine go_icmp_geN (a := u) (b := v) C 49 dX9_inOrder_22 (by decide) (by omega) (by omega) (fun c_22 => ?_) (fun c_22 => ?_)
    · refine go_lv [(0, .ref mo), (1, .int (nI v)), (2, .int (nI m))] [0, 1, 2] rfl ?_
      refine go_le [(0, .ref mo), (1, .int (nI v)), (2, .int (nI fin))] (by rw [← hF]; simp [pc_rk, c_22]) ?_
      exact K
    · refine go_aload_n C dX9_inOrder_25 0 rfl rfl ?_
      refine go_get C (v := .ref mbl) fl_X9_13 dX9_inOrder_26 p0 hp0 rfl ?_
      refine go_iload_n C dX9_inOrder_29 3 rfl rfl ?_
      refine go_iald C dX9_inOrder_30 p1 hp1 (u) rfl (by omega) (by decide) ?_
      refine go_aload_n C dX9_inOrder_31 0 rfl rfl ?_
      refine go_get C (v := .ref mbl) fl_X9_13 dX9_inOrder_32 p0 hp0 rfl ?_
      refine go_iload_n C dX9_inOrder_35 1 rfl rfl ?_
      refine go_iald C dX9_inOrder_36 p1 hp1 (v) rfl (by omega) (by decide) ?_
      refine go_icmp_ne C 43 dX9_inOrder_37 (by decide) (fun c_37 => ?_) (fun c_37 => ?_)
      · refine go_iinc C (nI (u + 1)) [(0, .ref mo), (1, .int (nI v)), (2, .int (nI m)), (3, .int (nI (u + 1)))] dX9_inOrder_43 3 [1, 2, 3, 0] rfl (nI_add u 1) (by decide) rfl ?_
        refine go_goto C 20 dX9_inOrder_46 (by decide) ?_
        exact ih (u + 1) m (by omega) (by omega) (by omega) (by rw [← hF]; simp [pc_rk, c_22, c_37])
      · refine go_iinc C (nI (m + 1)) [(0, .ref mo), (1, .int (nI v)), (2, .int (nI (m + 1))), (3, .int (nI u))] dX9_inOrder_40 2 [1, 2, 0, 3] rfl (nI_add m 1) (by decide) rfl ?_
        refine go_iinc C (nI (u + 1)) [(0, .ref mo), (1, .int (nI v)), (2, .int (nI (m + 1))), (3, .int (nI (u + 1)))] dX9_inOrder_43 3 [1, 2, 3, 0] rfl (nI_add u 1) (by decide) rfl ?_
        refine go_goto C 20 dX9_inOrder_46 (by decide) ?_
        exact ih (u + 1) (m + 1) (by omega) (by omega) (by omega) (by rw [← hF]; simp [pc_rk, c_22, c_37])
set_option maxHeartbeats 4000000 in
set_option maxRecDepth 100000 in
theorem c_X9_inOrder (G : go_G) (rs : va_W) (p0 : Nat) (p1 : Nat) (p2 : Nat) (mo : Nat) (mfi : Nat) (mbl : Nat) (mpb : Nat) (mru : Nat) (mle : Nat) (miv : Nat) (mst : Nat) (mpa : Nat) (mhe : Nat) (maf : Nat) (mno : Nat) (msk : Nat) (nr : Nat) (il : Nat) (ct : Nat) (ex : Nat) (br : Int32) (sl : Bool) (fu : Bool) (Bf : Nat → Int32) (s : Nat → Int32) (v : Nat) (hp0 : rs[p0]? = some (mo, .inr (8, [.ref mfi, .ref mbl, .ref mpb, .ref mru, .ref mle, .ref miv, .ref mst, .ref mpa, .ref mhe, .ref maf, .ref mno, .ref msk, .int (nI nr), .int (nI il), .int (nI ct), .int (nI ex), .int br, .int (go_b (sl)), .int (go_b (fu))]))) (hp1 : rs[p1]? = some (mbl, .inl (G.2.1, 6, .inl Bf))) (hp2 : rs[p2]? = some (maf, .inl (G.2.1, 6, .inl s))) (hv : v < 6) : go_Fn yX9_inOrder cX9_inOrder 4 (some .int) 1 23 G [.ref mo, .int (nI v)] rs (some (.int (pc_io Bf s v))) rs := by
  refine go_Fn_of (by decide) (Nat.le_of_ble_eq_true rfl) (fun X C E => ?_)
  show go_Go X (0, 0) rs [(0, .ref mo), (1, .int (nI v))] [] 0
  have hrk := pc_rk_le (B := Bf) (v := v) (by omega) 7 0 0 (by omega) (by omega)
  refine go_aload_n C dX9_inOrder_0 0 rfl rfl ?_
  refine go_get C (v := .ref mbl) fl_X9_13 dX9_inOrder_1 p0 hp0 rfl ?_
  refine go_iload_n C dX9_inOrder_4 1 rfl rfl ?_
  refine go_iald C dX9_inOrder_5 p1 hp1 (v) rfl (by omega) (by decide) ?_
  refine go_if_ne C 16 dX9_inOrder_6 (by decide) (fun c_6 => ?_) (fun c_6 => ?_)
  · refine go_iconst C (0) dX9_inOrder_16 (by decide) ?_
    refine go_istore_n C [(0, .ref mo), (1, .int (nI v)), (2, .int 0)] dX9_inOrder_17 [1, 2, 0] rfl (by decide) rfl ?_
    refine go_iconst C (0) dX9_inOrder_18 (by decide) ?_
    refine go_istore_n C [(0, .ref mo), (1, .int (nI v)), (2, .int 0), (3, .int 0)] dX9_inOrder_19 [1, 2, 3, 0] rfl (by decide) rfl ?_
    refine l_X9_inOrder_20 G rs p0 p1 p2 mo mfi mbl mpb mru mle miv mst mpa mhe maf mno msk nr il ct ex br sl fu Bf s v hp0 hp1 hp2 hv (pc_rk Bf v 7 0 0) C E ?_ 7 0 0 (by omega) (by omega) (by omega) rfl
    show go_Go X (0, 0) rs [(0, .ref mo), (1, .int (nI v)), (2, .int (nI ((pc_rk Bf v 7 0 0))))] [] 49
    refine go_iconst C (0) dX9_inOrder_49 (by decide) ?_
    refine go_istore_n C [(0, .ref mo), (1, .int (nI v)), (2, .int (nI ((pc_rk Bf v 7 0 0)))), (3, .int 0)] dX9_inOrder_50 [1, 2, 3, 0] rfl (by decide) rfl ?_
    exact l_X9_inOrder_51 G rs p0 p1 p2 mo mfi mbl mpb mru mle miv mst mpa mhe maf mno msk nr il ct ex br sl fu Bf s v hp0 hp1 hp2 hv (pc_rk Bf v 7 0 0) hrk C E 7 0 (by omega) (by omega) (by simp [pc_io, c_6])
  · refine go_aload_n C dX9_inOrder_9 0 rfl rfl ?_
    refine go_get C (v := .ref maf) fl_X9_37 dX9_inOrder_10 p0 hp0 rfl ?_
    refine go_iload_n C dX9_inOrder_13 1 rfl rfl ?_
    refine go_iald C dX9_inOrder_14 p2 hp2 (v) rfl (by omega) (by decide) ?_
    exact go_iret C E dX9_inOrder_15 (by simp [pc_io, c_6]) rfl
set_option maxHeartbeats 4000000 in
set_option maxRecDepth 100000 in
theorem l_X9_standardise_2 {X : go_X} (G : go_G) (rs : va_W) (p0 : Nat) (p1 : Nat) (p2 : Nat) (mo : Nat) (mfi : Nat) (mbl : Nat) (mpb : Nat) (mru : Nat) (mle : Nat) (miv : Nat) (mst : Nat) (mpa : Nat) (mhe : Nat) (maf : Nat) (mno : Nat) (msk : Nat) (nr : Nat) (il : Nat) (ct : Nat) (ex : Nat) (br : Int32) (sl : Bool) (fu : Bool) (Bf : Nat → Int32) (s : Nat → Int32) (g : Nat → Int32) (hp0 : rs[p0]? = some (mo, .inr (8, [.ref mfi, .ref mbl, .ref mpb, .ref mru, .ref mle, .ref miv, .ref mst, .ref mpa, .ref mhe, .ref maf, .ref mno, .ref msk, .int (nI nr), .int (nI il), .int (nI ct), .int (nI ex), .int br, .int (go_b (sl)), .int (go_b (fu))]))) (hp1 : rs[p1]? = some (mbl, .inl (G.2.1, 6, .inl Bf))) (hp2 : rs[p2]? = some (maf, .inl (G.2.1, 6, .inl s)))  {Rr : Option Value} {W1 : va_W}  (C : go_Cx X cX9_standardise RX9 none 2 2 46 0 0 G) (E : go_Ex X Rr W1) (K : go_Go X (0, 0) ((mno, .inl (G.2.1, 6, .inl (pc_cp 6 (pc_io Bf s) g))) :: rs) [(0, .ref mo)] [] 25) : ∀ (n : Nat) (v : Nat) (hin : 6 < v + n) (hv : v ≤ 6), go_Go X (0, 0) ((mno, .inl (G.2.1, 6, .inl (pc_cp v (pc_io Bf s) g))) :: rs) [(0, .ref mo), (1, .int (nI v))] [] 2 := by
  intro n
  induction n with
  | zero => intro v hin hv; omega
  | succ n ih =>
    intro v hin hv
    refine go_iload_n C dX9_standardise_2 1 rfl rfl ?_
    refine go_bipush C (6) dX9_standardise_3 (by decide) ?_
    refine go_icmp_geN (a := v) (b := 6) C 25 dX9_standardise_5 (by decide) (by omega) (by omega) (fun c_5 => ?_) (fun c_5 => ?_)
    · refine go_lv [(0, .ref mo)] [0] rfl ?_
      refine go_we ((mno, .inl (G.2.1, 6, .inl (pc_cp 6 (pc_io Bf s) g))) :: rs) (by rw [show v = 6 by omega]) ?_
      exact K
    · refine go_aload_n C dX9_standardise_8 0 rfl rfl ?_
      refine go_get C (v := .ref mno) fl_X9_40 dX9_standardise_9 (p0 + 1) hp0 rfl ?_
      refine go_iload_n C dX9_standardise_12 1 rfl rfl ?_
      refine go_aload_n C dX9_standardise_13 0 rfl rfl ?_
      refine go_iload_n C dX9_standardise_14 1 rfl rfl ?_
      refine go_cV C (c_X9_inOrder G ((mno, .inl (G.2.1, 6, .inl (pc_cp v (pc_io Bf s) g))) :: rs) (p0 + 1) (p1 + 1) (p2 + 1) mo mfi mbl mpb mru mle miv mst mpa mhe maf mno msk nr il ct ex br sl fu Bf s v hp0 hp1 hp2 (by omega)) ml_X9_118 mc_X9_inOrder dX9_standardise_15 [.int (nI v), .ref mno] rfl rfl (p0 + 1) hp0 rfl rfl ⟨Nat.le_of_ble_eq_true rfl, Nat.le_of_ble_eq_true rfl, Nat.zero_le _, Nat.zero_le _, Nat.le_of_ble_eq_true rfl⟩ [.int (pc_io Bf s v), .int (nI v), .ref mno] rfl ?_
      refine go_iast C dX9_standardise_18 0 rfl (v) rfl (by omega) (by decide) ((mno, .inl (G.2.1, 6, .inl (upd (pc_cp v (pc_io Bf s) g) v (pc_io Bf s v)))) :: rs) rfl ?_
      refine go_we ((mno, .inl (G.2.1, 6, .inl (pc_cp (v + 1) (pc_io Bf s) g))) :: rs) (by rw [pc_cp_s]) ?_
      refine go_iinc C (nI (v + 1)) [(0, .ref mo), (1, .int (nI (v + 1)))] dX9_standardise_19 1 [1, 0] rfl (nI_add v 1) (by decide) rfl ?_
      refine go_goto C 2 dX9_standardise_22 (by decide) ?_
      exact ih (v + 1) (by omega) (by omega)
set_option maxHeartbeats 4000000 in
set_option maxRecDepth 100000 in
theorem c_X9_standardise (G : go_G) (rs : va_W) (p0 : Nat) (p1 : Nat) (p2 : Nat) (mo : Nat) (mfi : Nat) (mbl : Nat) (mpb : Nat) (mru : Nat) (mle : Nat) (miv : Nat) (mst : Nat) (mpa : Nat) (mhe : Nat) (maf : Nat) (mno : Nat) (msk : Nat) (nr : Nat) (il : Nat) (ct : Nat) (ex : Nat) (br : Int32) (sl : Bool) (fu : Bool) (Bf : Nat → Int32) (s : Nat → Int32) (g : Nat → Int32) (hp0 : rs[p0]? = some (mo, .inr (8, [.ref mfi, .ref mbl, .ref mpb, .ref mru, .ref mle, .ref miv, .ref mst, .ref mpa, .ref mhe, .ref maf, .ref mno, .ref msk, .int (nI nr), .int (nI il), .int (nI ct), .int (nI ex), .int br, .int (go_b (sl)), .int (go_b (fu))]))) (hp1 : rs[p1]? = some (mbl, .inl (G.2.1, 6, .inl Bf))) (hp2 : rs[p2]? = some (maf, .inl (G.2.1, 6, .inl s)))  : go_Fn yX9_standardise cX9_standardise 2 none 2 46 G [.ref mo] ((mno, .inl (G.2.1, 6, .inl g)) :: rs) (none) ((mno, .inl (G.2.1, 6, .inl (pc_sf Bf s))) :: rs) := by
  refine go_Fn_of (by decide) (Nat.le_of_ble_eq_true rfl) (fun X C E => ?_)
  show go_Go X (0, 0) ((mno, .inl (G.2.1, 6, .inl g)) :: rs) [(0, .ref mo)] [] 0
  refine go_iconst C (0) dX9_standardise_0 (by decide) ?_
  refine go_we ((mno, .inl (G.2.1, 6, .inl (pc_cp 0 (pc_io Bf s) g))) :: rs) (by rw [pc_cp_0]) ?_
  refine go_istore_n C [(0, .ref mo), (1, .int 0)] dX9_standardise_1 [1, 0] rfl (by decide) rfl ?_
  refine l_X9_standardise_2 G rs p0 p1 p2 mo mfi mbl mpb mru mle miv mst mpa mhe maf mno msk nr il ct ex br sl fu Bf s g hp0 hp1 hp2   C E ?_ 7 0 (by omega) (by omega)
  show go_Go X (0, 0) ((mno, .inl (G.2.1, 6, .inl (pc_cp 6 (pc_io Bf s) g))) :: rs) [(0, .ref mo)] [] 25
  refine go_cont 0 rfl (pc_sf Bf s) (fun j hj => by simp only [pc_cp, if_pos hj]; exact pc_io_sf Bf s j hj) ((mno, .inl (G.2.1, 6, .inl (pc_sf Bf s))) :: rs) rfl ?_
  exact go_vret C E dX9_standardise_25 rfl rfl
set_option maxHeartbeats 4000000 in
set_option maxRecDepth 100000 in
theorem l_X9_isNormal_2 {X : go_X} (G : go_G) (rs : va_W) (p0 : Nat) (p1 : Nat) (p2 : Nat) (mo : Nat) (mfi : Nat) (mbl : Nat) (mpb : Nat) (mru : Nat) (mle : Nat) (miv : Nat) (mst : Nat) (mpa : Nat) (mhe : Nat) (maf : Nat) (mno : Nat) (msk : Nat) (nr : Nat) (il : Nat) (ct : Nat) (ex : Nat) (br : Int32) (sl : Bool) (fu : Bool) (Vf : Nat → Int32) (t : Nat → Int32) (i : Nat) (hp0 : rs[p0]? = some (mo, .inr (8, [.ref mfi, .ref mbl, .ref mpb, .ref mru, .ref mle, .ref miv, .ref mst, .ref mpa, .ref mhe, .ref maf, .ref mno, .ref msk, .int (nI nr), .int (nI il), .int (nI ct), .int (nI ex), .int br, .int (go_b (sl)), .int (go_b (fu))]))) (hp1 : rs[p1]? = some (mst, .inl (G.2.1, 2400, .inl Vf))) (hp2 : rs[p2]? = some (mno, .inl (G.2.1, 6, .inl t))) (hi : i < 400) {Rr : Option Value}  (C : go_Cx X cX9_isNormal RX9 (some .boolean) 3 0 0 0 0 G) (E : go_Ex X Rr rs)  : ∀ (n : Nat) (v : Nat) (hin : 6 < v + n) (hv : v ≤ 6) (hR : some (.int (go_b (pc_e6 Vf i t n v))) = Rr), go_Go X (0, 0) rs [(0, .ref mo), (1, .int (nI i)), (2, .int (nI v))] [] 2 := by
  intro n
  induction n with
  | zero => intro v hin hv hR; omega
  | succ n ih =>
    intro v hin hv hR
    refine go_iload_n C dX9_isNormal_2 2 rfl rfl ?_
    refine go_bipush C (6) dX9_isNormal_3 (by decide) ?_
    refine go_icmp_geN (a := v) (b := 6) C 36 dX9_isNormal_5 (by decide) (by omega) (by omega) (fun c_5 => ?_) (fun c_5 => ?_)
    · refine go_iconst C (1) dX9_isNormal_36 (by decide) ?_
      refine go_se [.int (go_b (true))] rfl ?_
      exact go_zret C E dX9_isNormal_37 (go_bn _) (by rw [← hR]; first | contradiction | rfl | (simp [pc_e6, *]; done) | (rw [decide_eq_true (by omega)]; done) | (rw [decide_eq_false (by omega)]; done) | (simp_all [pc_e6]; done) | (simp [pc_e6]; omega) | (simp_all [pc_e6]; omega) | omega) rfl
    · refine go_aload_n C dX9_isNormal_8 0 rfl rfl ?_
      refine go_get C (v := .ref mst) fl_X9_28 dX9_isNormal_9 p0 hp0 rfl ?_
      refine go_bipush C (6) dX9_isNormal_12 (by decide) ?_
      refine go_iload_n C dX9_isNormal_14 1 rfl rfl ?_
      refine go_imul C (z := nI (6 * i)) dX9_isNormal_15 (pk_mul 6 i) ?_
      refine go_iload_n C dX9_isNormal_16 2 rfl rfl ?_
      refine go_iadd C (z := nI ((6 * i) + v)) dX9_isNormal_17 (nI_add (6 * i) v) ?_
      refine go_iald C dX9_isNormal_18 p1 hp1 (i * 6 + v) (by rw [Nat.mul_comm]) (by omega) (by decide) ?_
      refine go_aload_n C dX9_isNormal_19 0 rfl rfl ?_
      refine go_get C (v := .ref mno) fl_X9_40 dX9_isNormal_20 p0 hp0 rfl ?_
      refine go_iload_n C dX9_isNormal_23 2 rfl rfl ?_
      refine go_iald C dX9_isNormal_24 p2 hp2 (v) rfl (by omega) (by decide) ?_
      refine go_icmp_eq C 30 dX9_isNormal_25 (by decide) (fun c_25 => ?_) (fun c_25 => ?_)
      · refine go_iinc C (nI (v + 1)) [(0, .ref mo), (1, .int (nI i)), (2, .int (nI (v + 1)))] dX9_isNormal_30 2 [1, 2, 0] rfl (nI_add v 1) (by decide) rfl ?_
        refine go_goto C 2 dX9_isNormal_33 (by decide) ?_
        exact ih (v + 1) (by omega) (by omega) (by rw [← hR]; first | contradiction | rfl | (simp [pc_e6, *]; done) | (rw [decide_eq_true (by omega)]; done) | (rw [decide_eq_false (by omega)]; done) | (simp_all [pc_e6]; done) | (simp [pc_e6]; omega) | (simp_all [pc_e6]; omega) | omega)
      · refine go_iconst C (0) dX9_isNormal_28 (by decide) ?_
        refine go_se [.int (go_b (false))] rfl ?_
        exact go_zret C E dX9_isNormal_29 (go_bn _) (by rw [← hR]; first | contradiction | rfl | (simp [pc_e6, *]; done) | (rw [decide_eq_true (by omega)]; done) | (rw [decide_eq_false (by omega)]; done) | (simp_all [pc_e6]; done) | (simp [pc_e6]; omega) | (simp_all [pc_e6]; omega) | omega) rfl
set_option maxHeartbeats 4000000 in
set_option maxRecDepth 100000 in
theorem c_X9_isNormal (G : go_G) (rs : va_W) (p0 : Nat) (p1 : Nat) (p2 : Nat) (mo : Nat) (mfi : Nat) (mbl : Nat) (mpb : Nat) (mru : Nat) (mle : Nat) (miv : Nat) (mst : Nat) (mpa : Nat) (mhe : Nat) (maf : Nat) (mno : Nat) (msk : Nat) (nr : Nat) (il : Nat) (ct : Nat) (ex : Nat) (br : Int32) (sl : Bool) (fu : Bool) (Vf : Nat → Int32) (t : Nat → Int32) (i : Nat) (hp0 : rs[p0]? = some (mo, .inr (8, [.ref mfi, .ref mbl, .ref mpb, .ref mru, .ref mle, .ref miv, .ref mst, .ref mpa, .ref mhe, .ref maf, .ref mno, .ref msk, .int (nI nr), .int (nI il), .int (nI ct), .int (nI ex), .int br, .int (go_b (sl)), .int (go_b (fu))]))) (hp1 : rs[p1]? = some (mst, .inl (G.2.1, 2400, .inl Vf))) (hp2 : rs[p2]? = some (mno, .inl (G.2.1, 6, .inl t))) (hi : i < 400) : go_Fn yX9_isNormal cX9_isNormal 3 (some .boolean) 0 0 G [.ref mo, .int (nI i)] rs (some (.int (go_b (pc_e6 Vf i t 7 0)))) rs := by
  refine go_Fn_of (by decide) (Nat.le_of_ble_eq_true rfl) (fun X C E => ?_)
  show go_Go X (0, 0) rs [(0, .ref mo), (1, .int (nI i))] [] 0
  refine go_iconst C (0) dX9_isNormal_0 (by decide) ?_
  refine go_istore_n C [(0, .ref mo), (1, .int (nI i)), (2, .int 0)] dX9_isNormal_1 [1, 2, 0] rfl (by decide) rfl ?_
  exact l_X9_isNormal_2 G rs p0 p1 p2 mo mfi mbl mpb mru mle miv mst mpa mhe maf mno msk nr il ct ex br sl fu Vf t i hp0 hp1 hp2 hi  C E 7 0 (by omega) (by omega) rfl
set_option maxHeartbeats 4000000 in
set_option maxRecDepth 100000 in
theorem l_X9_isStored_6 {X : go_X} (G : go_G) (rs : va_W) (p0 : Nat) (p1 : Nat) (p2 : Nat) (p3 : Nat) (mo : Nat) (mfi : Nat) (mbl : Nat) (mpb : Nat) (mru : Nat) (mle : Nat) (miv : Nat) (mst : Nat) (mpa : Nat) (mhe : Nat) (maf : Nat) (mno : Nat) (msk : Nat) (nr : Nat) (il : Nat) (ct : Nat) (ex : Nat) (br : Int32) (sl : Bool) (fu : Bool) (Bf : Nat → Int32) (s : Nat → Int32) (g : Nat → Int32) (Vf : Nat → Int32) (hp0 : rs[p0]? = some (mo, .inr (8, [.ref mfi, .ref mbl, .ref mpb, .ref mru, .ref mle, .ref miv, .ref mst, .ref mpa, .ref mhe, .ref maf, .ref mno, .ref msk, .int (nI nr), .int (nI il), .int (nI ct), .int (nI ex), .int br, .int (go_b (sl)), .int (go_b (fu))]))) (hp1 : rs[p1]? = some (mbl, .inl (G.2.1, 6, .inl Bf))) (hp2 : rs[p2]? = some (maf, .inl (G.2.1, 6, .inl s))) (hp3 : rs[p3]? = some (mst, .inl (G.2.1, 2400, .inl Vf))) (hc : ct ≤ 400) {Rr : Option Value}  (C : go_Cx X cX9_isStored RX9 (some .boolean) 2 3 67 0 0 G) (E : go_Ex X Rr ((mno, .inl (G.2.1, 6, .inl (pc_sf Bf s))) :: rs))  : ∀ (n : Nat) (i : Nat) (hin : ct < i + n) (hi : i ≤ ct) (hR : some (.int (go_b (pc_is ct Vf (pc_sf Bf s) n i))) = Rr), go_Go X (0, 0) ((mno, .inl (G.2.1, 6, .inl (pc_sf Bf s))) :: rs) [(0, .ref mo), (1, .int (nI i))] [] 6 := by
  intro n
  induction n with
  | zero => intro i hin hi hR; omega
  | succ n ih =>
    intro i hin hi hR
    refine go_iload_n C dX9_isStored_6 1 rfl rfl ?_
    refine go_aload_n C dX9_isStored_7 0 rfl rfl ?_
    refine go_get C (v := .int (nI ct)) fl_X9_56 dX9_isStored_8 (p0 + 1) hp0 rfl ?_
    refine go_icmp_geN (a := i) (b := ct) C 30 dX9_isStored_11 (by decide) (by omega) (by omega) (fun c_11 => ?_) (fun c_11 => ?_)
    · refine go_iconst C (0) dX9_isStored_30 (by decide) ?_
      refine go_se [.int (go_b (false))] rfl ?_
      exact go_zret C E dX9_isStored_31 (go_bn _) (by rw [← hR]; first | contradiction | rfl | (simp [pc_is, *]; done) | (rw [decide_eq_true (by omega)]; done) | (rw [decide_eq_false (by omega)]; done) | (simp_all [pc_is]; done) | (simp [pc_is]; omega) | (simp_all [pc_is]; omega) | omega) rfl
    · refine go_aload_n C dX9_isStored_14 0 rfl rfl ?_
      refine go_iload_n C dX9_isStored_15 1 rfl rfl ?_
      refine go_cV C (c_X9_isNormal G ((mno, .inl (G.2.1, 6, .inl (pc_sf Bf s))) :: rs) (p0 + 1) (p3 + 1) 0 mo mfi mbl mpb mru mle miv mst mpa mhe maf mno msk nr il ct ex br sl fu Vf (pc_sf Bf s) i hp0 hp3 rfl (by omega)) ml_X9_124 mc_X9_isNormal dX9_isStored_16 [] rfl rfl (p0 + 1) hp0 rfl rfl ⟨Nat.le_of_ble_eq_true rfl, Nat.le_of_ble_eq_true rfl, Nat.zero_le _, Nat.zero_le _, Nat.le_of_ble_eq_true rfl⟩ [.int (go_b (pc_e6 Vf i (pc_sf Bf s) 7 0))] rfl ?_
      refine go_if_eqB C 24 dX9_isStored_19 (by decide) (fun c_19 => ?_) (fun c_19 => ?_)
      · refine go_iinc C (nI (i + 1)) [(0, .ref mo), (1, .int (nI (i + 1)))] dX9_isStored_24 1 [1, 0] rfl (nI_add i 1) (by decide) rfl ?_
        refine go_goto C 6 dX9_isStored_27 (by decide) ?_
        exact ih (i + 1) (by omega) (by omega) (by rw [← hR]; first | contradiction | rfl | (simp [pc_is, *]; done) | (rw [decide_eq_true (by omega)]; done) | (rw [decide_eq_false (by omega)]; done) | (simp_all [pc_is]; done) | (simp [pc_is]; omega) | (simp_all [pc_is]; omega) | omega)
      · refine go_iconst C (1) dX9_isStored_22 (by decide) ?_
        refine go_se [.int (go_b (true))] rfl ?_
        exact go_zret C E dX9_isStored_23 (go_bn _) (by rw [← hR]; first | contradiction | rfl | (simp [pc_is, *]; done) | (rw [decide_eq_true (by omega)]; done) | (rw [decide_eq_false (by omega)]; done) | (simp_all [pc_is]; done) | (simp [pc_is]; omega) | (simp_all [pc_is]; omega) | omega) rfl
set_option maxHeartbeats 4000000 in
set_option maxRecDepth 100000 in
theorem c_X9_isStored (G : go_G) (rs : va_W) (p0 : Nat) (p1 : Nat) (p2 : Nat) (p3 : Nat) (mo : Nat) (mfi : Nat) (mbl : Nat) (mpb : Nat) (mru : Nat) (mle : Nat) (miv : Nat) (mst : Nat) (mpa : Nat) (mhe : Nat) (maf : Nat) (mno : Nat) (msk : Nat) (nr : Nat) (il : Nat) (ct : Nat) (ex : Nat) (br : Int32) (sl : Bool) (fu : Bool) (Bf : Nat → Int32) (s : Nat → Int32) (g : Nat → Int32) (Vf : Nat → Int32) (hp0 : rs[p0]? = some (mo, .inr (8, [.ref mfi, .ref mbl, .ref mpb, .ref mru, .ref mle, .ref miv, .ref mst, .ref mpa, .ref mhe, .ref maf, .ref mno, .ref msk, .int (nI nr), .int (nI il), .int (nI ct), .int (nI ex), .int br, .int (go_b (sl)), .int (go_b (fu))]))) (hp1 : rs[p1]? = some (mbl, .inl (G.2.1, 6, .inl Bf))) (hp2 : rs[p2]? = some (maf, .inl (G.2.1, 6, .inl s))) (hp3 : rs[p3]? = some (mst, .inl (G.2.1, 2400, .inl Vf))) (hc : ct ≤ 400) : go_Fn yX9_isStored cX9_isStored 2 (some .boolean) 3 67 G [.ref mo] ((mno, .inl (G.2.1, 6, .inl g)) :: rs) (some (.int (go_b (pc_is ct Vf (pc_sf Bf s) (ct + 1) 0)))) ((mno, .inl (G.2.1, 6, .inl (pc_sf Bf s))) :: rs) := by
  refine go_Fn_of (by decide) (Nat.le_of_ble_eq_true rfl) (fun X C E => ?_)
  show go_Go X (0, 0) ((mno, .inl (G.2.1, 6, .inl g)) :: rs) [(0, .ref mo)] [] 0
  refine go_aload_n C dX9_isStored_0 0 rfl rfl ?_
  refine go_cV C (c_X9_standardise G rs p0 p1 p2 mo mfi mbl mpb mru mle miv mst mpa mhe maf mno msk nr il ct ex br sl fu Bf s g hp0 hp1 hp2 ) ml_X9_121 mc_X9_standardise dX9_isStored_1 [] rfl rfl (p0 + 1) hp0 rfl rfl ⟨Nat.le_of_ble_eq_true rfl, Nat.le_of_ble_eq_true rfl, Nat.zero_le _, Nat.zero_le _, Nat.le_of_ble_eq_true rfl⟩ [] rfl ?_
  refine go_iconst C (0) dX9_isStored_4 (by decide) ?_
  refine go_istore_n C [(0, .ref mo), (1, .int 0)] dX9_isStored_5 [1, 0] rfl (by decide) rfl ?_
  exact l_X9_isStored_6 G rs p0 p1 p2 p3 mo mfi mbl mpb mru mle miv mst mpa mhe maf mno msk nr il ct ex br sl fu Bf s g Vf hp0 hp1 hp2 hp3 hc  C E (ct + 1) 0 (by omega) (by omega) rfl
