set_option maxHeartbeats 4000000 in
set_option maxRecDepth 100000 in
theorem c_X8_copyState (G : go_G) (rs : va_W) (p0 : Nat) (x : Nat) (f : Nat → Int32) (y : Nat) (g : Nat → Int32) (hp0 : rs[p0]? = some (x, .inl (G.2.1, 6, .inl f)))  : go_Fn yX8_copyState cX8_copyState 2 none 1 44 G [.ref x, .ref y] ((y, .inl (G.2.1, 6, .inl g)) :: rs) (none) ((y, .inl (G.2.1, 6, .inl f)) :: rs) := by
  refine go_Fn_of (by decide) (Nat.le_of_ble_eq_true rfl) (fun X C E => ?_)
  show go_Go X (0, 0) ((y, .inl (G.2.1, 6, .inl g)) :: rs) [(0, .ref x), (1, .ref y)] [] 0
  refine go_aload_n C dX8_copyState_0 0 rfl rfl ?_
  refine go_iconst C (0) dX8_copyState_1 (by decide) ?_
  refine go_aload_n C dX8_copyState_2 1 rfl rfl ?_
  refine go_iconst C (0) dX8_copyState_3 (by decide) ?_
  refine go_bipush C (6) dX8_copyState_4 (by decide) ?_
  refine go_copy C ml_X8_192 ml_ac dX8_copyState_6 (p0 + 1) 0 hp0 rfl 0 0 6 rfl rfl rfl (by omega) (by omega) (by decide) (by decide) ⟨Nat.le_of_ble_eq_true rfl, Nat.le_of_ble_eq_true rfl⟩ ((y, .inl (G.2.1, 6, .inl (va_cpy f g 0 0 6))) :: rs) rfl ?_
  refine go_cont 0 rfl f (fun j hj => by rw [pk_cpy_in (by omega) (by omega)]; congr 1; omega) ((y, .inl (G.2.1, 6, .inl f)) :: rs) rfl ?_
  exact go_vret C E dX8_copyState_9 rfl rfl
set_option maxHeartbeats 4000000 in
set_option maxRecDepth 100000 in
theorem l_X2_run_8 {X : go_X} (G : go_G) (rs : va_W) (p0 : Nat) (p1 : Nat) (p2 : Nat) (ma : Nat) (sk : Nat) (h : Nat) (st : Nat → Int32) (a : Nat) (w : Nat) (ln : Nat) (f : Nat → Int32) (fr : Nat) (m : Nat) (tw : Nat) (bf : Nat) (b : Nat → Int32) (hp0 : rs[p0]? = some (a, .inr (6, [.ref w, .int (nI ln)]))) (hp1 : rs[p1]? = some (w, .inl (G.2.1, 32, .inl f))) (hp2 : rs[p2]? = some (bf, .inl (G.2.1, 6, .inl b))) (hl : ln ≤ 32) (hto : tw = fr + m) (htl : tw ≤ ln) (hok : pc_okf f m fr 0) (hh1 : pc_hs f m fr 0 = 1) {Rr : Option Value} {W1 : va_W} (fin : Nat × (Nat → Int32)) (C : go_Cx X cX2_run RX2 (some .int) 7 2 49 0 0 G) (E : go_Ex X Rr W1) (K : go_Go X (0, 0) ((ma, .inr (2, [.ref sk, .int (nI (fin.1))])) :: (sk, .inl (G.2.1, 8, .inl fin.2)) :: rs) [(0, .ref ma)] [] 34) : ∀ (n : Nat) (i : Nat) (g : Nat) (t : Nat → Int32) (k : Nat) (hin : tw < i + n) (hk : i + k = tw) (hok2 : pc_okf f k i g) (hfo : pc_fo f b k i g t = fin), go_Go X (0, 0) ((ma, .inr (2, [.ref sk, .int (nI g)])) :: (sk, .inl (G.2.1, 8, .inl t)) :: rs) [(0, .ref ma), (1, .ref a), (2, .int (nI fr)), (3, .int (nI tw)), (4, .ref bf), (5, .ref bf), (6, .int (nI i))] [] 8 := by
  intro n
  induction n with
  | zero => intro i g t k hin hk hok2 hfo; omega
  | succ n ih =>
    intro i g t k hin hk hok2 hfo
    refine go_iload C dX2_run_8 6 rfl ?_
    refine go_iload_n C dX2_run_10 3 rfl rfl ?_
    refine go_icmp_geN (a := i) (b := tw) C 34 dX2_run_11 (by decide) (by omega) (by omega) (fun c_11 => ?_) (fun c_11 => ?_)
    · refine go_lv [(0, .ref ma)] [0] rfl ?_
      refine go_we ((ma, .inr (2, [.ref sk, .int (nI (fin.1))])) :: (sk, .inl (G.2.1, 8, .inl fin.2)) :: rs) (by rw [← hfo, show k = 0 by omega]; rfl) ?_
      exact K
    · obtain ⟨k, rfl⟩ : ∃ q, k = q + 1 := ⟨k - 1, by omega⟩
      refine go_aload_n C dX2_run_14 0 rfl rfl ?_
      refine go_aload_n C dX2_run_15 1 rfl rfl ?_
      refine go_iload C dX2_run_16 6 rfl ?_
      refine go_cV C (c_X7_at G ((ma, .inr (2, [.ref sk, .int (nI g)])) :: (sk, .inl (G.2.1, 8, .inl t)) :: rs) (p0 + 2) (p1 + 2) a w ln f i hp0 hp1 (by omega) (by omega)) ml_X2_51 mc_X7_at dX2_run_18 [.ref ma] rfl rfl (p0 + 2) hp0 rfl rfl ⟨Nat.le_of_ble_eq_true rfl, Nat.le_of_ble_eq_true rfl, Nat.zero_le _, Nat.zero_le _, Nat.le_of_ble_eq_true rfl⟩ [.int (f i), .ref ma] (by rw [pc_at, if_pos (by omega)]; rfl) ?_
      refine go_aload C dX2_run_21 4 rfl ?_
      refine go_aload C dX2_run_23 5 rfl ?_
      refine go_cV C (c_X2_step G rs p2 ma sk g t bf b bf (f i) hp2 hok2.1) ml_X2_54 mc_X2_step dX2_run_25 [] rfl rfl 0 rfl rfl rfl ⟨Nat.le_of_ble_eq_true rfl, Nat.le_of_ble_eq_true rfl, Nat.zero_le _, Nat.zero_le _, Nat.le_of_ble_eq_true rfl⟩ [] rfl ?_
      refine go_iinc C (nI (i + 1)) [(0, .ref ma), (1, .ref a), (2, .int (nI fr)), (3, .int (nI tw)), (4, .ref bf), (5, .ref bf), (6, .int (nI (i + 1)))] dX2_run_28 6 [1, 2, 3, 4, 5, 6, 0] rfl (nI_add i 1) (by decide) rfl ?_
      refine go_goto C 8 dX2_run_31 (by decide) ?_
      exact ih (i + 1) (pc_hw g (f i)) (pc_s1 b g t (f i)) k (by omega) (by omega) hok2.2 hfo
set_option maxHeartbeats 4000000 in
set_option maxRecDepth 100000 in
theorem c_X2_run (G : go_G) (rs : va_W) (p0 : Nat) (p1 : Nat) (p2 : Nat) (ma : Nat) (sk : Nat) (h : Nat) (st : Nat → Int32) (a : Nat) (w : Nat) (ln : Nat) (f : Nat → Int32) (fr : Nat) (m : Nat) (tw : Nat) (bf : Nat) (b : Nat → Int32) (hp0 : rs[p0]? = some (a, .inr (6, [.ref w, .int (nI ln)]))) (hp1 : rs[p1]? = some (w, .inl (G.2.1, 32, .inl f))) (hp2 : rs[p2]? = some (bf, .inl (G.2.1, 6, .inl b))) (hl : ln ≤ 32) (hto : tw = fr + m) (htl : tw ≤ ln) (hok : pc_okf f m fr 0) (hh1 : pc_hs f m fr 0 = 1) : go_Fn yX2_run cX2_run 7 (some .int) 2 49 G [.ref ma, .ref a, .int (nI fr), .int (nI tw), .ref bf, .ref bf] ((ma, .inr (2, [.ref sk, .int (nI h)])) :: (sk, .inl (G.2.1, 8, .inl st)) :: rs) (some (.int (pc_rv f b fr m))) ((ma, .inr (2, [.ref sk, .int (nI 0)])) :: (sk, .inl (G.2.1, 8, .inl ((pc_fo f b m fr 0 st).2))) :: rs) := by
  refine go_Fn_of (by decide) (Nat.le_of_ble_eq_true rfl) (fun X C E => ?_)
  show go_Go X (0, 0) ((ma, .inr (2, [.ref sk, .int (nI h)])) :: (sk, .inl (G.2.1, 8, .inl st)) :: rs) [(0, .ref ma), (1, .ref a), (2, .int (nI fr)), (3, .int (nI tw)), (4, .ref bf), (5, .ref bf)] [] 0
  have he := pc_fo_eq (f := f) (b := b) m fr 0 st (fun _ => 0) hok (fun _ q => absurd q (by omega))
  have h1 : (pc_fo f b m fr 0 st).1 = 1 := (pc_fo_1 m fr 0 st).trans hh1
  refine go_aload_n C dX2_run_0 0 rfl rfl ?_
  refine go_iconst C (0) dX2_run_1 (by decide) ?_
  refine go_put C fp_X2_47 dX2_run_2 0 rfl rfl rfl (Nat.le_of_ble_eq_true rfl) ((ma, .inr (2, [.ref sk, .int 0])) :: (sk, .inl (G.2.1, 8, .inl st)) :: rs) rfl ?_
  refine go_iload_n C dX2_run_5 2 rfl rfl ?_
  refine go_istore C [(0, .ref ma), (1, .ref a), (2, .int (nI fr)), (3, .int (nI tw)), (4, .ref bf), (5, .ref bf), (6, .int (nI fr))] dX2_run_6 [1, 2, 3, 4, 5, 6, 0] (by decide) rfl ?_
  refine l_X2_run_8 G rs p0 p1 p2 ma sk h st a w ln f fr m tw bf b hp0 hp1 hp2 hl hto htl hok hh1 (pc_fo f b m fr 0 st) C E ?_ (tw + 1) fr 0 st m (by omega) (by omega) hok rfl
  show go_Go X (0, 0) ((ma, .inr (2, [.ref sk, .int (nI ((pc_fo f b m fr 0 st).1))])) :: (sk, .inl (G.2.1, 8, .inl ((pc_fo f b m fr 0 st).2))) :: rs) [(0, .ref ma)] [] 34
  refine go_aload_n C dX2_run_34 0 rfl rfl ?_
  refine go_cV C (c_X2_pop G rs  ma sk ((pc_fo f b m fr 0 st).1) ((pc_fo f b m fr 0 st).2)  (by omega) (by omega)) ml_X2_58 mc_X2_pop dX2_run_35 [] rfl rfl 0 rfl rfl rfl ⟨Nat.le_of_ble_eq_true rfl, Nat.le_of_ble_eq_true rfl, Nat.zero_le _, Nat.zero_le _, Nat.le_of_ble_eq_true rfl⟩ [.int (((pc_fo f b m fr 0 st).2) (((pc_fo f b m fr 0 st).1) - 1))] rfl ?_
  exact go_iret C E dX2_run_38 (by rw [h1]; exact congrArg (fun z => some (Value.int z)) (he.2 0 (by rw [h1]; decide))) (by rw [h1])
set_option maxHeartbeats 4000000 in
set_option maxRecDepth 100000 in
theorem l_X2_runA_8 {X : go_X} (G : go_G) (rs : va_W) (p0 : Nat) (p1 : Nat) (p2 : Nat) (ma : Nat) (sk : Nat) (h : Nat) (st : Nat → Int32) (a : Nat) (w : Nat) (ln : Nat) (f : Nat → Int32) (fr : Nat) (m : Nat) (tw : Nat) (bf : Nat) (b : Nat → Int32) (af : Nat) (d : Nat → Int32) (hp0 : rs[p0]? = some (a, .inr (6, [.ref w, .int (nI ln)]))) (hp1 : rs[p1]? = some (w, .inl (G.2.1, 32, .inl f))) (hp2 : rs[p2]? = some (bf, .inl (G.2.1, 6, .inl b))) (hl : ln ≤ 32) (hto : tw = fr + m) (htl : tw ≤ ln) (hok : pc_okf' f m fr 0) (hh1 : pc_hs' f m fr 0 = 0) {Rr : Option Value} {W1 : va_W} (fin : Nat × (Nat → Int32) × (Nat → Int32)) (C : go_Cx X cX2_run RX2 (some .int) 7 2 49 0 0 G) (E : go_Ex X Rr W1) (K : go_Go X (0, 0) ((ma, .inr (2, [.ref sk, .int (nI (fin.1))])) :: (sk, .inl (G.2.1, 8, .inl fin.2.1)) :: (af, .inl (G.2.1, 6, .inl fin.2.2)) :: rs) [(0, .ref ma)] [] 34) : ∀ (n : Nat) (i : Nat) (g : Nat) (t : Nat → Int32) (e : Nat → Int32) (k : Nat) (hin : tw < i + n) (hk : i + k = tw) (hok2 : pc_okf' f k i g) (hfo : pc_fo' f b k i g t e = fin), go_Go X (0, 0) ((ma, .inr (2, [.ref sk, .int (nI g)])) :: (sk, .inl (G.2.1, 8, .inl t)) :: (af, .inl (G.2.1, 6, .inl e)) :: rs) [(0, .ref ma), (1, .ref a), (2, .int (nI fr)), (3, .int (nI tw)), (4, .ref bf), (5, .ref af), (6, .int (nI i))] [] 8 := by
  intro n
  induction n with
  | zero => intro i g t e k hin hk hok2 hfo; omega
  | succ n ih =>
    intro i g t e k hin hk hok2 hfo
    refine go_iload C dX2_run_8 6 rfl ?_
    refine go_iload_n C dX2_run_10 3 rfl rfl ?_
    refine go_icmp_geN (a := i) (b := tw) C 34 dX2_run_11 (by decide) (by omega) (by omega) (fun c_11 => ?_) (fun c_11 => ?_)
    · refine go_lv [(0, .ref ma)] [0] rfl ?_
      refine go_we ((ma, .inr (2, [.ref sk, .int (nI (fin.1))])) :: (sk, .inl (G.2.1, 8, .inl fin.2.1)) :: (af, .inl (G.2.1, 6, .inl fin.2.2)) :: rs) (by rw [← hfo, show k = 0 by omega]; rfl) ?_
      exact K
    · obtain ⟨k, rfl⟩ : ∃ q, k = q + 1 := ⟨k - 1, by omega⟩
      refine go_aload_n C dX2_run_14 0 rfl rfl ?_
      refine go_aload_n C dX2_run_15 1 rfl rfl ?_
      refine go_iload C dX2_run_16 6 rfl ?_
      refine go_cV C (c_X7_at G ((ma, .inr (2, [.ref sk, .int (nI g)])) :: (sk, .inl (G.2.1, 8, .inl t)) :: (af, .inl (G.2.1, 6, .inl e)) :: rs) (p0 + 3) (p1 + 3) a w ln f i hp0 hp1 (by omega) (by omega)) ml_X2_51 mc_X7_at dX2_run_18 [.ref ma] rfl rfl (p0 + 3) hp0 rfl rfl ⟨Nat.le_of_ble_eq_true rfl, Nat.le_of_ble_eq_true rfl, Nat.zero_le _, Nat.zero_le _, Nat.le_of_ble_eq_true rfl⟩ [.int (f i), .ref ma] (by rw [pc_at, if_pos (by omega)]; rfl) ?_
      refine go_aload C dX2_run_21 4 rfl ?_
      refine go_aload C dX2_run_23 5 rfl ?_
      by_cases e11 : pc_op (f i) = 11
      · refine go_cV C (c_X2_stepS G rs  ma sk g t bf af e (f i)  e11 ((hok2.1.resolve_right (fun z => z.1 e11)).2.1) ((hok2.1.resolve_right (fun z => z.1 e11)).2.2.1) ((hok2.1.resolve_right (fun z => z.1 e11)).2.2.2)) ml_X2_54 mc_X2_step dX2_run_25 [] rfl rfl 0 rfl rfl rfl ⟨Nat.le_of_ble_eq_true rfl, Nat.le_of_ble_eq_true rfl, Nat.zero_le _, Nat.zero_le _, Nat.le_of_ble_eq_true rfl⟩ [] rfl ?_
        refine go_iinc C (nI (i + 1)) [(0, .ref ma), (1, .ref a), (2, .int (nI fr)), (3, .int (nI tw)), (4, .ref bf), (5, .ref af), (6, .int (nI (i + 1)))] dX2_run_28 6 [1, 2, 3, 4, 5, 6, 0] rfl (nI_add i 1) (by decide) rfl ?_
        refine go_goto C 8 dX2_run_31 (by decide) ?_
        exact ih (i + 1) (g - 1) t (upd e (pc_k (f i)).toNatClampNeg (t (g - 1))) k (by omega) (by omega) (by have := hok2.2; simpa [pc_hw', e11] using this) (by rw [← hfo]; simp [pc_fo', pc_hw', pc_s1', pc_a1', e11])
      · refine go_cV C (c_X2_step G ((af, .inl (G.2.1, 6, .inl e)) :: rs) (p2 + 1) ma sk g t bf b af (f i) hp2 ((hok2.1.resolve_left (fun z => e11 z.1)).2)) ml_X2_54 mc_X2_step dX2_run_25 [] rfl rfl 0 rfl rfl rfl ⟨Nat.le_of_ble_eq_true rfl, Nat.le_of_ble_eq_true rfl, Nat.zero_le _, Nat.zero_le _, Nat.le_of_ble_eq_true rfl⟩ [] rfl ?_
        refine go_iinc C (nI (i + 1)) [(0, .ref ma), (1, .ref a), (2, .int (nI fr)), (3, .int (nI tw)), (4, .ref bf), (5, .ref af), (6, .int (nI (i + 1)))] dX2_run_28 6 [1, 2, 3, 4, 5, 6, 0] rfl (nI_add i 1) (by decide) rfl ?_
        refine go_goto C 8 dX2_run_31 (by decide) ?_
        exact ih (i + 1) (pc_hw g (f i)) (pc_s1 b g t (f i)) e k (by omega) (by omega) (by have := hok2.2; simpa [pc_hw', e11] using this) (by rw [← hfo]; simp [pc_fo', pc_hw', pc_s1', pc_a1', e11])
set_option maxHeartbeats 4000000 in
set_option maxRecDepth 100000 in
theorem c_X2_runA (G : go_G) (rs : va_W) (p0 : Nat) (p1 : Nat) (p2 : Nat) (ma : Nat) (sk : Nat) (h : Nat) (st : Nat → Int32) (a : Nat) (w : Nat) (ln : Nat) (f : Nat → Int32) (fr : Nat) (m : Nat) (tw : Nat) (bf : Nat) (b : Nat → Int32) (af : Nat) (d : Nat → Int32) (hp0 : rs[p0]? = some (a, .inr (6, [.ref w, .int (nI ln)]))) (hp1 : rs[p1]? = some (w, .inl (G.2.1, 32, .inl f))) (hp2 : rs[p2]? = some (bf, .inl (G.2.1, 6, .inl b))) (hl : ln ≤ 32) (hto : tw = fr + m) (htl : tw ≤ ln) (hok : pc_okf' f m fr 0) (hh1 : pc_hs' f m fr 0 = 0) : go_Fn yX2_run cX2_run 7 (some .int) 2 49 G [.ref ma, .ref a, .int (nI fr), .int (nI tw), .ref bf, .ref af] ((ma, .inr (2, [.ref sk, .int (nI h)])) :: (sk, .inl (G.2.1, 8, .inl st)) :: (af, .inl (G.2.1, 6, .inl d)) :: rs) (some (.int 0)) ((ma, .inr (2, [.ref sk, .int (nI 0)])) :: (sk, .inl (G.2.1, 8, .inl ((pc_fo' f b m fr 0 st d).2.1))) :: (af, .inl (G.2.1, 6, .inl (pc_av f b fr m d))) :: rs) := by
  refine go_Fn_of (by decide) (Nat.le_of_ble_eq_true rfl) (fun X C E => ?_)
  show go_Go X (0, 0) ((ma, .inr (2, [.ref sk, .int (nI h)])) :: (sk, .inl (G.2.1, 8, .inl st)) :: (af, .inl (G.2.1, 6, .inl d)) :: rs) [(0, .ref ma), (1, .ref a), (2, .int (nI fr)), (3, .int (nI tw)), (4, .ref bf), (5, .ref af)] [] 0
  have h1 : (pc_fo' f b m fr 0 st d).1 = 0 := (pc_fo'_1 m fr 0 st d).trans hh1
  have he : (pc_fo' f b m fr 0 st d).2.2 = pc_av f b fr m d := pc_fo'_eq m fr 0 st (fun _ => 0) d hok (fun _ q => absurd q (by omega))
  refine go_aload_n C dX2_run_0 0 rfl rfl ?_
  refine go_iconst C (0) dX2_run_1 (by decide) ?_
  refine go_put C fp_X2_47 dX2_run_2 0 rfl rfl rfl (Nat.le_of_ble_eq_true rfl) ((ma, .inr (2, [.ref sk, .int 0])) :: (sk, .inl (G.2.1, 8, .inl st)) :: (af, .inl (G.2.1, 6, .inl d)) :: rs) rfl ?_
  refine go_iload_n C dX2_run_5 2 rfl rfl ?_
  refine go_istore C [(0, .ref ma), (1, .ref a), (2, .int (nI fr)), (3, .int (nI tw)), (4, .ref bf), (5, .ref af), (6, .int (nI fr))] dX2_run_6 [1, 2, 3, 4, 5, 6, 0] (by decide) rfl ?_
  refine l_X2_runA_8 G rs p0 p1 p2 ma sk h st a w ln f fr m tw bf b af d hp0 hp1 hp2 hl hto htl hok hh1 (pc_fo' f b m fr 0 st d) C E ?_ (tw + 1) fr 0 st d m (by omega) (by omega) hok rfl
  show go_Go X (0, 0) ((ma, .inr (2, [.ref sk, .int (nI ((pc_fo' f b m fr 0 st d).1))])) :: (sk, .inl (G.2.1, 8, .inl ((pc_fo' f b m fr 0 st d).2.1))) :: (af, .inl (G.2.1, 6, .inl ((pc_fo' f b m fr 0 st d).2.2))) :: rs) [(0, .ref ma)] [] 34
  refine go_aload_n C dX2_run_34 0 rfl rfl ?_
  refine go_cV C (c_X2_pop0 G ((af, .inl (G.2.1, 6, .inl ((pc_fo' f b m fr 0 st d).2.2))) :: rs)  ma sk ((pc_fo' f b m fr 0 st d).1) ((pc_fo' f b m fr 0 st d).2.1)  h1) ml_X2_58 mc_X2_pop dX2_run_35 [] rfl rfl 0 rfl rfl rfl ⟨Nat.le_of_ble_eq_true rfl, Nat.le_of_ble_eq_true rfl, Nat.zero_le _, Nat.zero_le _, Nat.le_of_ble_eq_true rfl⟩ [.int 0] rfl ?_
  exact go_iret C E dX2_run_38 rfl (by rw [h1, he])
set_option maxHeartbeats 4000000 in
set_option maxRecDepth 100000 in
theorem c_X2_mayFire (G : go_G) (rs : va_W) (p0 : Nat) (p1 : Nat) (p2 : Nat) (ma : Nat) (sk : Nat) (h : Nat) (st : Nat → Int32) (a : Nat) (w : Nat) (ln : Nat) (f : Nat → Int32) (bf : Nat) (b : Nat → Int32) (hp0 : rs[p0]? = some (a, .inr (6, [.ref w, .int (nI ln)]))) (hp1 : rs[p1]? = some (w, .inl (G.2.1, 32, .inl f))) (hp2 : rs[p2]? = some (bf, .inl (G.2.1, 6, .inl b))) (hl : ln ≤ 32) (hr : pc_RK ln f) : go_Fn yX2_mayFire cX2_mayFire 3 (some .boolean) 3 75 G [.ref ma, .ref a, .ref bf] ((ma, .inr (2, [.ref sk, .int (nI h)])) :: (sk, .inl (G.2.1, 8, .inl st)) :: rs) (some (.int (go_b (pc_mf ln f b)))) ((ma, .inr (2, [.ref sk, .int (nI 0)])) :: (sk, .inl (G.2.1, 8, .inl ((pc_fo f b (pc_th ln f) 0 0 st).2))) :: rs) := by
  refine go_Fn_of (by decide) (Nat.le_of_ble_eq_true rfl) (fun X C E => ?_)
  show go_Go X (0, 0) ((ma, .inr (2, [.ref sk, .int (nI h)])) :: (sk, .inl (G.2.1, 8, .inl st)) :: rs) [(0, .ref ma), (1, .ref a), (2, .ref bf)] [] 0
  have hth := hr.1
  refine go_aload_n C dX2_mayFire_0 0 rfl rfl ?_
  refine go_aload_n C dX2_mayFire_1 1 rfl rfl ?_
  refine go_iconst C (0) dX2_mayFire_2 (by decide) ?_
  refine go_aload_n C dX2_mayFire_3 1 rfl rfl ?_
  refine go_bipush C (10) dX2_mayFire_4 (by decide) ?_
  refine go_iconst C (0) dX2_mayFire_6 (by decide) ?_
  refine go_cV C (c_X7_next G ((ma, .inr (2, [.ref sk, .int (nI h)])) :: (sk, .inl (G.2.1, 8, .inl st)) :: rs) (p0 + 2) (p1 + 2) a w ln f 10 0 hp0 hp1 (by omega) (by omega)) ml_X2_15 mc_X7_next dX2_mayFire_7 [.int 0, .ref a, .ref ma] rfl rfl (p0 + 2) hp0 rfl rfl ⟨Nat.le_of_ble_eq_true rfl, Nat.le_of_ble_eq_true rfl, Nat.zero_le _, Nat.zero_le _, Nat.le_of_ble_eq_true rfl⟩ [.int (nI (pc_th ln f)), .int 0, .ref a, .ref ma] rfl ?_
  refine go_aload_n C dX2_mayFire_10 2 rfl rfl ?_
  refine go_aload_n C dX2_mayFire_11 2 rfl rfl ?_
  refine go_cV C (c_X2_run G rs p0 p1 p2 ma sk h st a w ln f 0 (pc_th ln f) (pc_th ln f) bf b hp0 hp1 hp2 (by omega) (by omega) (by omega) hr.2.1 hr.2.2.1) ml_X2_21 mc_X2_run dX2_mayFire_12 [] rfl rfl 0 rfl rfl rfl ⟨Nat.le_of_ble_eq_true rfl, Nat.le_of_ble_eq_true rfl, Nat.zero_le _, Nat.zero_le _, Nat.le_of_ble_eq_true rfl⟩ [.int (pc_rv f b 0 (pc_th ln f))] rfl ?_
  refine go_if_eq C 22 dX2_mayFire_15 (by decide) (fun c_15 => ?_) (fun c_15 => ?_)
  · refine go_iconst C (0) dX2_mayFire_22 (by decide) ?_
    refine go_se [.int (go_b (false))] rfl ?_
    exact go_zret C E dX2_mayFire_23 (go_bn _) (by first | contradiction | rfl | (simp [pc_mf, *]; done) | (rw [decide_eq_true (by omega)]; done) | (rw [decide_eq_false (by omega)]; done) | (simp_all [pc_mf]; done) | (simp [pc_mf]; omega) | (simp_all [pc_mf]; omega) | omega) rfl
  · refine go_iconst C (1) dX2_mayFire_18 (by decide) ?_
    refine go_goto C 23 dX2_mayFire_19 (by decide) ?_
    refine go_se [.int (go_b (true))] rfl ?_
    exact go_zret C E dX2_mayFire_23 (go_bn _) (by first | contradiction | rfl | (simp [pc_mf, *]; done) | (rw [decide_eq_true (by omega)]; done) | (rw [decide_eq_false (by omega)]; done) | (simp_all [pc_mf]; done) | (simp [pc_mf]; omega) | (simp_all [pc_mf]; omega) | omega) rfl
set_option maxHeartbeats 4000000 in
set_option maxRecDepth 100000 in
theorem c_X2_fire (G : go_G) (rs : va_W) (p0 : Nat) (p1 : Nat) (p2 : Nat) (ma : Nat) (sk : Nat) (h : Nat) (st : Nat → Int32) (a : Nat) (w : Nat) (ln : Nat) (f : Nat → Int32) (bf : Nat) (b : Nat → Int32) (af : Nat) (d : Nat → Int32) (hp0 : rs[p0]? = some (a, .inr (6, [.ref w, .int (nI ln)]))) (hp1 : rs[p1]? = some (w, .inl (G.2.1, 32, .inl f))) (hp2 : rs[p2]? = some (bf, .inl (G.2.1, 6, .inl b))) (hl : ln ≤ 32) (hr : pc_RK ln f) : go_Fn yX2_fire cX2_fire 4 none 3 75 G [.ref ma, .ref a, .ref bf, .ref af] ((ma, .inr (2, [.ref sk, .int (nI h)])) :: (sk, .inl (G.2.1, 8, .inl st)) :: (af, .inl (G.2.1, 6, .inl d)) :: rs) (none) ((ma, .inr (2, [.ref sk, .int (nI 0)])) :: (sk, .inl (G.2.1, 8, .inl ((pc_fo' f b (ln - (pc_th ln f + 1)) (pc_th ln f + 1) 0 st b).2.1))) :: (af, .inl (G.2.1, 6, .inl (pc_af ln f b))) :: rs) := by
  refine go_Fn_of (by decide) (Nat.le_of_ble_eq_true rfl) (fun X C E => ?_)
  show go_Go X (0, 0) ((ma, .inr (2, [.ref sk, .int (nI h)])) :: (sk, .inl (G.2.1, 8, .inl st)) :: (af, .inl (G.2.1, 6, .inl d)) :: rs) [(0, .ref ma), (1, .ref a), (2, .ref bf), (3, .ref af)] [] 0
  have hth := hr.1
  refine go_aload_n C dX2_fire_0 2 rfl rfl ?_
  refine go_aload_n C dX2_fire_1 3 rfl rfl ?_
  refine go_perm [(ma, .inr (2, [.ref sk, .int (nI h)])), (sk, .inl (G.2.1, 8, .inl st)), (af, .inl (G.2.1, 6, .inl d))] [(af, .inl (G.2.1, 6, .inl d)), (ma, .inr (2, [.ref sk, .int (nI h)])), (sk, .inl (G.2.1, 8, .inl st))] rs [2, 0, 1] rfl rfl rfl ?_
  refine go_cN C (c_X8_copyState G ((ma, .inr (2, [.ref sk, .int (nI h)])) :: (sk, .inl (G.2.1, 8, .inl st)) :: rs) (p2 + 2) bf b af d hp2 ) ml_X2_25 mc_X8_copyState dX2_fire_2 [] rfl rfl rfl ⟨Nat.le_of_ble_eq_true rfl, Nat.le_of_ble_eq_true rfl, Nat.zero_le _, Nat.zero_le _, Nat.le_of_ble_eq_true rfl⟩ [] rfl ?_
  refine go_aload_n C dX2_fire_5 0 rfl rfl ?_
  refine go_aload_n C dX2_fire_6 1 rfl rfl ?_
  refine go_aload_n C dX2_fire_7 1 rfl rfl ?_
  refine go_bipush C (10) dX2_fire_8 (by decide) ?_
  refine go_iconst C (0) dX2_fire_10 (by decide) ?_
  refine go_cV C (c_X7_next G ((af, .inl (G.2.1, 6, .inl b)) :: (ma, .inr (2, [.ref sk, .int (nI h)])) :: (sk, .inl (G.2.1, 8, .inl st)) :: rs) (p0 + 3) (p1 + 3) a w ln f 10 0 hp0 hp1 (by omega) (by omega)) ml_X2_15 mc_X7_next dX2_fire_11 [.ref a, .ref ma] rfl rfl (p0 + 3) hp0 rfl rfl ⟨Nat.le_of_ble_eq_true rfl, Nat.le_of_ble_eq_true rfl, Nat.zero_le _, Nat.zero_le _, Nat.le_of_ble_eq_true rfl⟩ [.int (nI (pc_th ln f)), .ref a, .ref ma] rfl ?_
  refine go_iconst C (1) dX2_fire_14 (by decide) ?_
  refine go_iadd C (z := nI ((pc_th ln f) + 1)) dX2_fire_15 (nI_add (pc_th ln f) 1) ?_
  refine go_aload_n C dX2_fire_16 1 rfl rfl ?_
  refine go_cV C (c_X7_length G ((af, .inl (G.2.1, 6, .inl b)) :: (ma, .inr (2, [.ref sk, .int (nI h)])) :: (sk, .inl (G.2.1, 8, .inl st)) :: rs) (p0 + 3) a w ln hp0 ) ml_X2_29 mc_X7_length dX2_fire_17 [.int (nI ((pc_th ln f) + 1)), .ref a, .ref ma] rfl rfl (p0 + 3) hp0 rfl rfl ⟨Nat.le_of_ble_eq_true rfl, Nat.le_of_ble_eq_true rfl, Nat.zero_le _, Nat.zero_le _, Nat.le_of_ble_eq_true rfl⟩ [.int (nI ln), .int (nI ((pc_th ln f) + 1)), .ref a, .ref ma] rfl ?_
  refine go_aload_n C dX2_fire_20 2 rfl rfl ?_
  refine go_aload_n C dX2_fire_21 3 rfl rfl ?_
  refine go_perm [(af, .inl (G.2.1, 6, .inl b)), (ma, .inr (2, [.ref sk, .int (nI h)])), (sk, .inl (G.2.1, 8, .inl st))] [(ma, .inr (2, [.ref sk, .int (nI h)])), (sk, .inl (G.2.1, 8, .inl st)), (af, .inl (G.2.1, 6, .inl b))] rs [1, 2, 0] rfl rfl rfl ?_
  refine go_cV C (c_X2_runA G rs p0 p1 p2 ma sk h st a w ln f ((pc_th ln f) + 1) (ln - (pc_th ln f + 1)) ln bf b af b hp0 hp1 hp2 (by omega) (by omega) (by omega) hr.2.2.2.1 hr.2.2.2.2) ml_X2_21 mc_X2_run dX2_fire_22 [] rfl rfl 0 rfl rfl rfl ⟨Nat.le_of_ble_eq_true rfl, Nat.le_of_ble_eq_true rfl, Nat.zero_le _, Nat.zero_le _, Nat.le_of_ble_eq_true rfl⟩ [.int 0] rfl ?_
  refine go_pop C dX2_fire_25 rfl ?_
  exact go_vret C E dX2_fire_26 rfl rfl
set_option maxHeartbeats 4000000 in
set_option maxRecDepth 100000 in
theorem l_X2_holds_8 {X : go_X} (G : go_G) (rs : va_W) (p0 : Nat) (p1 : Nat) (p2 : Nat) (p3 : Nat) (ma : Nat) (sk : Nat) (h : Nat) (st : Nat → Int32) (v : Nat) (a : Nat) (w : Nat) (ln : Nat) (f : Nat → Int32) (bf : Nat) (b : Nat → Int32) (hp0 : rs[p0]? = some (v, .inr (1, [.ref a]))) (hp1 : rs[p1]? = some (a, .inr (6, [.ref w, .int (nI ln)]))) (hp2 : rs[p2]? = some (w, .inl (G.2.1, 32, .inl f))) (hp3 : rs[p3]? = some (bf, .inl (G.2.1, 6, .inl b))) (hl : ln ≤ 32) (hr : pc_IK ln f)   (C : go_Cx X cX2_holds RX2 (some .boolean) 5 3 75 0 0 G) (E : go_Ee X (S := (Nat → Int32) × Nat) (fun u => True) (fun u => some (.int (go_b (pc_ho ln f b)))) (fun u => (ma, .inr (2, [.ref sk, .int (nI (u.2))])) :: (sk, .inl (G.2.1, 8, .inl u.1)) :: rs))  : ∀ (n : Nat) (i : Nat) (g : Nat) (t : Nat → Int32) (hin : ln < i + n) (hi : i ≤ ln) (hR : pc_hd ln f b n i = pc_ho ln f b), go_Go X (0, 0) ((ma, .inr (2, [.ref sk, .int (nI g)])) :: (sk, .inl (G.2.1, 8, .inl t)) :: rs) [(0, .ref ma), (1, .ref v), (2, .ref bf), (3, .ref a), (4, .int (nI i))] [] 8 := by
  intro n
  induction n with
  | zero => intro i g t hin hi hR; omega
  | succ n ih =>
    intro i g t hin hi hR
    refine go_iload C dX2_holds_8 4 rfl ?_
    refine go_aload_n C dX2_holds_10 3 rfl rfl ?_
    refine go_cV C (c_X7_length G ((ma, .inr (2, [.ref sk, .int (nI g)])) :: (sk, .inl (G.2.1, 8, .inl t)) :: rs) (p1 + 2) a w ln hp1 ) ml_X2_29 mc_X7_length dX2_holds_11 [.int (nI i)] rfl rfl (p1 + 2) hp1 rfl rfl ⟨Nat.le_of_ble_eq_true rfl, Nat.le_of_ble_eq_true rfl, Nat.zero_le _, Nat.zero_le _, Nat.le_of_ble_eq_true rfl⟩ [.int (nI ln), .int (nI i)] rfl ?_
    refine go_icmp_geN (a := i) (b := ln) C 52 dX2_holds_14 (by decide) (by omega) (by omega) (fun c_14 => ?_) (fun c_14 => ?_)
    · refine go_iconst C (1) dX2_holds_52 (by decide) ?_
      refine go_se [.int (go_b (true))] rfl ?_
      exact go_zretE C E dX2_holds_53 (go_bn _) (t, g) trivial (by rw [← hR]; first | contradiction | rfl | (simp [pc_hd, *]; done) | (rw [decide_eq_true (by omega)]; done) | (rw [decide_eq_false (by omega)]; done) | (simp_all [pc_hd]; done) | (simp [pc_hd]; omega) | (simp_all [pc_hd]; omega) | omega) rfl
    · refine go_aload_n C dX2_holds_17 1 rfl rfl ?_
      refine go_iload C dX2_holds_18 4 rfl ?_
      refine go_cV C (c_X1_isPartStart G ((ma, .inr (2, [.ref sk, .int (nI g)])) :: (sk, .inl (G.2.1, 8, .inl t)) :: rs) (p0 + 2) (p1 + 2) (p2 + 2) v a w ln f i hp0 hp1 hp2 (by omega) (by omega)) ml_X2_39 mc_X1_isPartStart dX2_holds_20 [] rfl rfl (p0 + 2) hp0 rfl rfl ⟨Nat.le_of_ble_eq_true rfl, Nat.le_of_ble_eq_true rfl, Nat.zero_le _, Nat.zero_le _, Nat.le_of_ble_eq_true rfl⟩ [.int (go_b (pc_ps f i))] rfl ?_
      refine go_if_eqB C 46 dX2_holds_23 (by decide) (fun c_23 => ?_) (fun c_23 => ?_)
      · refine go_iinc C (nI (i + 1)) [(0, .ref ma), (1, .ref v), (2, .ref bf), (3, .ref a), (4, .int (nI (i + 1)))] dX2_holds_46 4 [1, 2, 3, 4, 0] rfl (nI_add i 1) (by decide) rfl ?_
        refine go_goto C 8 dX2_holds_49 (by decide) ?_
        exact ih (i + 1) g t (by omega) (by omega) (by rw [← hR]; first | contradiction | rfl | (simp [pc_hd, *]; done) | (rw [decide_eq_true (by omega)]; done) | (rw [decide_eq_false (by omega)]; done) | (simp_all [pc_hd]; done) | (simp [pc_hd]; omega) | (simp_all [pc_hd]; omega) | omega)
      · refine go_aload_n C dX2_holds_26 0 rfl rfl ?_
        refine go_aload_n C dX2_holds_27 3 rfl rfl ?_
        refine go_iload C dX2_holds_28 4 rfl ?_
        refine go_aload_n C dX2_holds_30 1 rfl rfl ?_
        refine go_iload C dX2_holds_31 4 rfl ?_
        refine go_cV C (c_X1_partEnd G ((ma, .inr (2, [.ref sk, .int (nI g)])) :: (sk, .inl (G.2.1, 8, .inl t)) :: rs) (p0 + 2) (p1 + 2) (p2 + 2) v a w ln f i hp0 hp1 hp2 (by omega) (by omega)) ml_X2_43 mc_X1_partEnd dX2_holds_33 [.int (nI i), .ref a, .ref ma] rfl rfl (p0 + 2) hp0 rfl rfl ⟨Nat.le_of_ble_eq_true rfl, Nat.le_of_ble_eq_true rfl, Nat.zero_le _, Nat.zero_le _, Nat.le_of_ble_eq_true rfl⟩ [.int (nI (pc_pe ln f i)), .int (nI i), .ref a, .ref ma] rfl ?_
        have hq := hr i (by omega) c_23
        have hb := pc_pe_bd (ln := ln) (f := f) (i := i) (by omega)
        refine go_aload_n C dX2_holds_36 2 rfl rfl ?_
        refine go_aload_n C dX2_holds_37 2 rfl rfl ?_
        refine go_cV C (c_X2_run G rs p1 p2 p3 ma sk g t a w ln f i (pc_pe ln f i - i) (pc_pe ln f i) bf b hp1 hp2 hp3 (by omega) (by omega) (by omega) hq.1 hq.2) ml_X2_21 mc_X2_run dX2_holds_38 [] rfl rfl 0 rfl rfl rfl ⟨Nat.le_of_ble_eq_true rfl, Nat.le_of_ble_eq_true rfl, Nat.zero_le _, Nat.zero_le _, Nat.le_of_ble_eq_true rfl⟩ [.int (pc_rv f b i (pc_pe ln f i - i))] rfl ?_
        refine go_if_ne C 46 dX2_holds_41 (by decide) (fun c_41 => ?_) (fun c_41 => ?_)
        · refine go_iinc C (nI (i + 1)) [(0, .ref ma), (1, .ref v), (2, .ref bf), (3, .ref a), (4, .int (nI (i + 1)))] dX2_holds_46 4 [1, 2, 3, 4, 0] rfl (nI_add i 1) (by decide) rfl ?_
          refine go_goto C 8 dX2_holds_49 (by decide) ?_
          exact ih (i + 1) 0 ((pc_fo f b (pc_pe ln f i - i) i 0 t).2) (by omega) (by omega) (by rw [← hR]; first | contradiction | rfl | (simp [pc_hd, *]; done) | (rw [decide_eq_true (by omega)]; done) | (rw [decide_eq_false (by omega)]; done) | (simp_all [pc_hd]; done) | (simp [pc_hd]; omega) | (simp_all [pc_hd]; omega) | omega)
        · refine go_iconst C (0) dX2_holds_44 (by decide) ?_
          refine go_se [.int (go_b (false))] rfl ?_
          exact go_zretE C E dX2_holds_45 (go_bn _) ((pc_fo f b (pc_pe ln f i - i) i 0 t).2, 0) trivial (by rw [← hR]; first | contradiction | rfl | (simp [pc_hd, *]; done) | (rw [decide_eq_true (by omega)]; done) | (rw [decide_eq_false (by omega)]; done) | (simp_all [pc_hd]; done) | (simp [pc_hd]; omega) | (simp_all [pc_hd]; omega) | omega) rfl
set_option maxHeartbeats 4000000 in
set_option maxRecDepth 100000 in
theorem c_X2_holds (G : go_G) (rs : va_W) (p0 : Nat) (p1 : Nat) (p2 : Nat) (p3 : Nat) (ma : Nat) (sk : Nat) (h : Nat) (st : Nat → Int32) (v : Nat) (a : Nat) (w : Nat) (ln : Nat) (f : Nat → Int32) (bf : Nat) (b : Nat → Int32) (hp0 : rs[p0]? = some (v, .inr (1, [.ref a]))) (hp1 : rs[p1]? = some (a, .inr (6, [.ref w, .int (nI ln)]))) (hp2 : rs[p2]? = some (w, .inl (G.2.1, 32, .inl f))) (hp3 : rs[p3]? = some (bf, .inl (G.2.1, 6, .inl b))) (hl : ln ≤ 32) (hr : pc_IK ln f) : go_Fe yX2_holds cX2_holds 5 (some .boolean) 3 75 G [.ref ma, .ref v, .ref bf] ((ma, .inr (2, [.ref sk, .int (nI h)])) :: (sk, .inl (G.2.1, 8, .inl st)) :: rs) (S := (Nat → Int32) × Nat) (fun u => True) (fun u => some (.int (go_b (pc_ho ln f b)))) (fun u => (ma, .inr (2, [.ref sk, .int (nI (u.2))])) :: (sk, .inl (G.2.1, 8, .inl u.1)) :: rs) := by
  refine go_Fe_of (by decide) (Nat.le_of_ble_eq_true rfl) (fun X C E => ?_)
  show go_Go X (0, 0) ((ma, .inr (2, [.ref sk, .int (nI h)])) :: (sk, .inl (G.2.1, 8, .inl st)) :: rs) [(0, .ref ma), (1, .ref v), (2, .ref bf)] [] 0
  refine go_aload_n C dX2_holds_0 1 rfl rfl ?_
  refine go_get C (v := .ref a) fl_X2_33 dX2_holds_1 (p0 + 2) hp0 rfl ?_
  refine go_astore_n C [(0, .ref ma), (1, .ref v), (2, .ref bf), (3, .ref a)] dX2_holds_4 [1, 2, 3, 0] rfl (by decide) rfl ?_
  refine go_iconst C (0) dX2_holds_5 (by decide) ?_
  refine go_istore C [(0, .ref ma), (1, .ref v), (2, .ref bf), (3, .ref a), (4, .int 0)] dX2_holds_6 [1, 2, 3, 4, 0] (by decide) rfl ?_
  exact l_X2_holds_8 G rs p0 p1 p2 p3 ma sk h st v a w ln f bf b hp0 hp1 hp2 hp3 hl hr  C E (ln + 1) 0 h st (by omega) (by omega) rfl
