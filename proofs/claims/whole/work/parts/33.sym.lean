/-! ===== only variables 0 .. 5 count ===== -/
def pc_q6 (b b' : Nat → Int32) : Prop := ∀ v, v < 6 → b v = b' v
theorem pc_q6.symm {b b' : Nat → Int32} (h : pc_q6 b b') : pc_q6 b' b := fun v hv => (h v hv).symm
theorem pc_q6.trans {a b c : Nat → Int32} (h : pc_q6 a b) (h2 : pc_q6 b c) : pc_q6 a c := fun v hv => (h v hv).trans (h2 v hv)
theorem pc_q6.rfl' {b : Nat → Int32} : pc_q6 b b := fun _ _ => rfl
theorem pc_s1_b {b b' st : Nat → Int32} {h : Nat} {w : Int32} (hb : pc_q6 b b') (ok : pc_okw h w) : pc_s1 b h st w = pc_s1 b' h st w := by
  unfold pc_s1
  by_cases h0 : pc_op w = 0
  · rw [if_pos h0, if_pos h0]
  · rw [if_neg h0, if_neg h0]
    by_cases h1 : pc_op w = 1
    · rw [if_pos h1, if_pos h1, hb _ (pc_isV_nI (pc_okw_1 ok h1).2).2]
    · rw [if_neg h1, if_neg h1]
theorem pc_fo_b {f b b' : Nat → Int32} (hb : pc_q6 b b') : ∀ (n i h : Nat) (st : Nat → Int32), pc_okf f n i h → pc_fo f b n i h st = pc_fo f b' n i h st
  | 0, _, _, _, _ => rfl
  | n + 1, i, h, st, ok => by
    show pc_fo f b n (i + 1) _ (pc_s1 b h st (f i)) = pc_fo f b' n (i + 1) _ (pc_s1 b' h st (f i))
    rw [pc_s1_b hb ok.1]
    exact pc_fo_b hb n (i + 1) _ _ ok.2
theorem pc_fo'_b {f b b' : Nat → Int32} (hb : pc_q6 b b') : ∀ (n i h : Nat) (st a a' : Nat → Int32), pc_okf' f n i h → pc_q6 a a' → pc_q6 (pc_fo' f b n i h st a).2.2 (pc_fo' f b' n i h st a').2.2
  | 0, _, _, _, _, _, _, ha => ha
  | n + 1, i, h, st, a, a', ok, ha => by
    show pc_q6 (pc_fo' f b n (i + 1) (pc_hw' h (f i)) (pc_s1' b h st (f i)) (pc_a1' h st a (f i))).2.2 (pc_fo' f b' n (i + 1) (pc_hw' h (f i)) (pc_s1' b' h st (f i)) (pc_a1' h st a' (f i))).2.2
    have e1 : pc_s1' b h st (f i) = pc_s1' b' h st (f i) := by
      unfold pc_s1'
      rcases ok.1 with q | q
      · rw [if_pos q.1, if_pos q.1]
      · rw [if_neg q.1, if_neg q.1, pc_s1_b hb q.2]
    rw [e1]
    refine pc_fo'_b hb n (i + 1) _ _ _ _ ok.2 (fun v hv => ?_)
    unfold pc_a1'
    split
    · unfold upd
      split
      · rfl
      · exact ha v hv
    · exact ha v hv
theorem pc_mf_b {ln : Nat} {f b b' : Nat → Int32} (hr : pc_RK ln f) (hb : pc_q6 b b') : pc_mf ln f b = pc_mf ln f b' := by
  unfold pc_mf pc_rv
  rw [pc_fo_b hb _ _ _ _ hr.2.1]
theorem pc_af_b {ln : Nat} {f b b' : Nat → Int32} (hr : pc_RK ln f) (hb : pc_q6 b b') : pc_q6 (pc_af ln f b) (pc_af ln f b') := pc_fo'_b hb _ _ _ _ _ _ hr.2.2.2.1 hb
theorem pc_hd_b {il : Nat} {f b b' : Nat → Int32} (hr : pc_IK il f) (hb : pc_q6 b b') : ∀ (n i : Nat), pc_hd il f b n i = pc_hd il f b' n i
  | 0, _ => rfl
  | n + 1, i => by
    unfold pc_hd
    by_cases hi : i < il
    · rw [if_pos hi, if_pos hi, pc_hd_b hr hb n (i + 1)]
      by_cases hp : pc_ps f i = true
      · unfold pc_rv
        rw [pc_fo_b hb _ _ _ _ (hr i hi hp).1]
      · rw [if_neg (fun z => hp z.1), if_neg (fun z => hp z.1)]
    · rw [if_neg hi, if_neg hi]
theorem pc_ho_b {il : Nat} {f b b' : Nat → Int32} (hr : pc_IK il f) (hb : pc_q6 b b') : pc_ho il f b = pc_ho il f b' := pc_hd_b hr hb _ _
/-! the standard form by counts -/
theorem pc_sf_uniq {B s s' : Nat → Int32} (h0 : ∀ v, v < 6 → B v = 0 → s v = s' v) (hc : ∀ (v : Nat) (g : Int32 → Bool), ¬ B v = 0 → pc_cn (fun w => pc_bs B v w && g (s w)) 6 = pc_cn (fun w => pc_bs B v w && g (s' w)) 6) : pc_q6 (pc_sf B s) (pc_sf B s') := by
  intro v hv
  by_cases hb : B v = 0
  · rw [pc_sf_0 hb, pc_sf_0 hb]; exact h0 v hv hb
  · obtain ⟨r1, r2⟩ := pc_od_rank hv hb (pc_sf_od B s)
    obtain ⟨q1, q2⟩ := pc_od_rank hv hb (pc_sf_od B s')
    refine pc_c_uniq (B := B) (s := s) (v := v) (k := pc_cn (pc_bs B v) v) ?_ ?_ ?_ ?_
    · unfold pc_c1 at r1 ⊢; rw [← pc_cnt_sf (B := B) (s := s) (v := v) (fun y => decide (y < pc_sf B s v))]; exact r1
    · unfold pc_c2 at r2 ⊢; rw [← pc_cnt_sf (B := B) (s := s) (v := v) (fun y => decide (y ≤ pc_sf B s v))]; exact r2
    · unfold pc_c1 at q1 ⊢; rw [hc v (fun y => decide (y < pc_sf B s' v)) hb, ← pc_cnt_sf (B := B) (s := s') (v := v) (fun y => decide (y < pc_sf B s' v))]; exact q1
    · unfold pc_c2 at q2 ⊢; rw [hc v (fun y => decide (y ≤ pc_sf B s' v)) hb, ← pc_cnt_sf (B := B) (s := s') (v := v) (fun y => decide (y ≤ pc_sf B s' v))]; exact q2
theorem pc_sf_b {B s s' : Nat → Int32} (h : pc_q6 s s') : pc_q6 (pc_sf B s) (pc_sf B s') := pc_sf_uniq (fun v hv _ => h v hv) (fun v g _ => pc_cn_congr 6 (fun w hw => by rw [h w hw]))
/-! ===== exchanging two variables of a block ===== -/
def pc_tw (a b v : Nat) : Nat := if v = a then b else if v = b then a else v
theorem pc_tw_sw (x : Nat → Int32) {a b : Nat} (h : a ≠ b) : upd (upd x a (x b)) b (x a) = fun v => x (pc_tw a b v) := by
  funext v
  unfold upd pc_tw
  by_cases h1 : v = a
  · subst h1; simp [h]
  · by_cases h2 : v = b
    · subst h2; simp [h1]
    · simp [h1, h2]
theorem pc_tw_tw {a b : Nat} (v : Nat) : pc_tw a b (pc_tw a b v) = v := by
  unfold pc_tw
  by_cases h1 : v = a
  · subst h1
    by_cases h2 : b = v
    · simp [h2]
    · simp [h2]
  · by_cases h2 : v = b
    · subst h2; simp [h1]
    · simp [h1, h2]
theorem pc_sf_tw {B x : Nat → Int32} {a b : Nat} (hab : a < b) (hb : b < 6) (h0 : ¬ B a = 0) (j : B a = B b) : pc_q6 (pc_sf B (fun v => x (pc_tw a b v))) (pc_sf B x) := by
  rw [← pc_tw_sw x (by omega)]
  refine pc_sf_uniq (fun v hv hz => ?_) (fun v g _ => pc_cnt_sw hab hb j g)
  obtain ⟨-, -, e3⟩ := pc_upd_s x a b (by omega)
  exact e3 v (fun z => h0 (z ▸ hz)) (fun z => h0 (j.trans (z ▸ hz)))
theorem pc_mk {b : Nat} {o : Int32} (hb : b < 6) (ho : o = 1 ∨ o = 11) : pc_op (nI b <<< 8 ||| o) = o ∧ pc_k (nI b <<< 8 ||| o) = nI b := by
  rcases (show b = 0 ∨ b = 1 ∨ b = 2 ∨ b = 3 ∨ b = 4 ∨ b = 5 by omega) with rfl | rfl | rfl | rfl | rfl | rfl <;> rcases ho with rfl | rfl <;> decide
theorem pc_ex_op {w : Int32} {a b : Nat} (ha : a < 6) (hb : b < 6) : pc_op (pc_ex w (nI a) (nI b)) = pc_op w := by
  unfold pc_ex
  by_cases h : pc_op w = 1 ∨ pc_op w = 11
  · rw [if_pos h]
    split
    · exact (pc_mk hb h).1
    · split
      · exact (pc_mk ha h).1
      · rfl
  · rw [if_neg h]
theorem pc_ex_id {w : Int32} {a b : Nat} (h : ¬ (pc_op w = 1 ∨ pc_op w = 11)) : pc_ex w (nI a) (nI b) = w := by
  unfold pc_ex
  rw [if_neg h]
theorem pc_ex_k {w : Int32} {a b : Nat} (ha : a < 6) (hb : b < 6) (hab : a ≠ b) (h : pc_op w = 1 ∨ pc_op w = 11) (hv : pc_isV (pc_k w) = true) : pc_isV (pc_k (pc_ex w (nI a) (nI b))) = true ∧ (pc_k (pc_ex w (nI a) (nI b))).toNatClampNeg = pc_tw a b (pc_k w).toNatClampNeg := by
  obtain ⟨e, hlt⟩ := pc_isV_nI hv
  unfold pc_ex
  rw [if_pos h]
  by_cases h1 : pc_k w = nI a
  · rw [if_pos h1, (pc_mk hb h).2, h1, nI_clamp (by omega), nI_clamp (by omega)]
    exact ⟨pc_isV_t hb, by simp [pc_tw]⟩
  · rw [if_neg h1]
    by_cases h2 : pc_k w = nI b
    · rw [if_pos h2, (pc_mk ha h).2, h2, nI_clamp (by omega), nI_clamp (by omega)]
      exact ⟨pc_isV_t ha, by simp [pc_tw, Ne.symm hab]⟩
    · rw [if_neg h2]
      refine ⟨hv, ?_⟩
      unfold pc_tw
      rw [if_neg (fun z => h1 (by rw [e, z])), if_neg (fun z => h2 (by rw [e, z]))]
theorem pc_hw_op {h : Nat} {w w' : Int32} (e : pc_op w' = pc_op w) : pc_hw h w' = pc_hw h w := by unfold pc_hw; rw [e]
theorem pc_s1_ex {x st : Nat → Int32} {h a b : Nat} {w : Int32} (ha : a < 6) (hb : b < 6) (hab : a ≠ b) (ok : pc_okw h w) : pc_s1 (fun v => x (pc_tw a b v)) h st (pc_ex w (nI a) (nI b)) = pc_s1 x h st w := by
  have eo := pc_ex_op (w := w) ha hb
  unfold pc_s1
  rw [eo]
  by_cases h0 : pc_op w = 0
  · rw [if_pos h0, if_pos h0, pc_ex_id (by rw [h0]; decide)]
  · rw [if_neg h0, if_neg h0]
    by_cases h1 : pc_op w = 1
    · rw [if_pos h1, if_pos h1]
      have := (pc_ex_k ha hb hab (Or.inl h1) (pc_okw_1 ok h1).2).2
      simp only [this, pc_tw_tw]
    · rw [if_neg h1, if_neg h1]
theorem pc_fo_ex {f f' x : Nat → Int32} {a b ln : Nat} (ha : a < 6) (hb : b < 6) (hab : a ≠ b) (hf : ∀ i, i < ln → pc_ex (f i) (nI a) (nI b) = f' i) : ∀ (n i h : Nat) (st : Nat → Int32), i + n ≤ ln → pc_okf f n i h → pc_fo f' (fun v => x (pc_tw a b v)) n i h st = pc_fo f x n i h st
  | 0, _, _, _, _, _ => rfl
  | n + 1, i, h, st, hl, ok => by
    show pc_fo f' _ n (i + 1) (pc_hw h (f' i)) (pc_s1 _ h st (f' i)) = pc_fo f x n (i + 1) (pc_hw h (f i)) (pc_s1 x h st (f i))
    rw [← hf i (by omega), pc_s1_ex ha hb hab ok.1, pc_hw_op (pc_ex_op ha hb)]
    exact pc_fo_ex ha hb hab hf n (i + 1) _ _ (by omega) ok.2
theorem pc_fo'_ex {f f' x : Nat → Int32} {a b ln : Nat} (ha : a < 6) (hb : b < 6) (hab : a ≠ b) (hf : ∀ i, i < ln → pc_ex (f i) (nI a) (nI b) = f' i) : ∀ (n i h : Nat) (st A : Nat → Int32), i + n ≤ ln → pc_okf' f n i h → (pc_fo' f' (fun v => x (pc_tw a b v)) n i h st (fun v => A (pc_tw a b v))).2.2 = fun v => (pc_fo' f x n i h st A).2.2 (pc_tw a b v)
  | 0, _, _, _, _, _, _ => rfl
  | n + 1, i, h, st, A, hl, ok => by
    show (pc_fo' f' _ n (i + 1) (pc_hw' h (f' i)) (pc_s1' _ h st (f' i)) (pc_a1' h st _ (f' i))).2.2 = fun v => (pc_fo' f x n (i + 1) (pc_hw' h (f i)) (pc_s1' x h st (f i)) (pc_a1' h st A (f i))).2.2 (pc_tw a b v)
    have eo : pc_op (f' i) = pc_op (f i) := by rw [← hf i (by omega)]; exact pc_ex_op ha hb
    have e1 : pc_hw' h (f' i) = pc_hw' h (f i) := by unfold pc_hw'; rw [eo, pc_hw_op eo]
    rw [e1]
    rcases ok.1 with ⟨q1, q2, q3, q4⟩ | ⟨q1, q2⟩
    · have e2 : pc_s1' (fun v => x (pc_tw a b v)) h st (f' i) = pc_s1' x h st (f i) := by
        unfold pc_s1'
        rw [if_pos (eo.trans q1), if_pos q1]
      have ek := (pc_ex_k ha hb hab (Or.inr q1) q2).2
      rw [hf i (by omega)] at ek
      have e3 : pc_a1' h st (fun v => A (pc_tw a b v)) (f' i) = fun v => pc_a1' h st A (f i) (pc_tw a b v) := by
        unfold pc_a1'
        rw [if_pos (eo.trans q1), if_pos q1, ek]
        funext v
        unfold upd
        by_cases hv : v = pc_tw a b (pc_k (f i)).toNatClampNeg
        · rw [if_pos hv, if_pos (by rw [hv, pc_tw_tw])]
        · rw [if_neg hv, if_neg (fun z => hv (by rw [← z, pc_tw_tw]))]
      rw [e2, e3]
      exact pc_fo'_ex ha hb hab hf n (i + 1) _ _ _ (by omega) ok.2
    · have e2 : pc_s1' (fun v => x (pc_tw a b v)) h st (f' i) = pc_s1' x h st (f i) := by
        unfold pc_s1'
        rw [if_neg (fun z => q1 (eo.symm.trans z)), if_neg q1, ← hf i (by omega), pc_s1_ex ha hb hab q2]
      have e3 : pc_a1' h st (fun v => A (pc_tw a b v)) (f' i) = fun v => pc_a1' h st A (f i) (pc_tw a b v) := by
        unfold pc_a1'
        rw [if_neg (fun z => q1 (eo.symm.trans z)), if_neg q1]
      rw [e2, e3]
      exact pc_fo'_ex ha hb hab hf n (i + 1) _ _ _ (by omega) ok.2
theorem pc_next_congr {ln : Nat} {f f' : Nat → Int32} {o : Int32} (h : ∀ i, i < ln → pc_op (f' i) = pc_op (f i)) : ∀ (n i : Nat), pc_next ln f' o n i = pc_next ln f o n i
  | 0, _ => rfl
  | n + 1, i => by
    unfold pc_next
    by_cases hi : i < ln
    · rw [if_pos hi, if_pos hi, h i hi, pc_next_congr h n (i + 1)]
    · rw [if_neg hi, if_neg hi]
/-- an exchanged rule does the exchanged thing -/
theorem pc_rule_ex {ln : Nat} {f f' x : Nat → Int32} {a b : Nat} (ha : a < 6) (hb : b < 6) (hab : a ≠ b) (hf : ∀ i, i < ln → pc_ex (f i) (nI a) (nI b) = f' i) (hr : pc_RK ln f) : pc_mf ln f' (fun v => x (pc_tw a b v)) = pc_mf ln f x ∧ pc_af ln f' (fun v => x (pc_tw a b v)) = fun v => pc_af ln f x (pc_tw a b v) := by
  have eth : pc_th ln f' = pc_th ln f := pc_next_congr (fun i hi => by rw [← hf i hi]; exact pc_ex_op ha hb) _ _
  constructor
  · unfold pc_mf pc_rv
    rw [eth, pc_fo_ex ha hb hab hf _ _ _ _ (by have := hr.1; omega) hr.2.1]
  · unfold pc_af pc_av
    rw [eth, pc_fo'_ex ha hb hab hf _ _ _ _ _ (by have := hr.1; omega) hr.2.2.2.1]
/-- the rules bear all exchanges in blocks -/
def pc_CL (nr : Nat) (ln : Nat → Nat) (F : Nat → Nat → Int32) (B : Nat → Int32) : Prop := ∀ a b, a < b → b < 6 → ¬ B a = 0 → B a = B b → ∀ r, r < nr → ∃ q, q < nr ∧ ln q = ln r ∧ ∀ i, i < ln r → pc_ex (F r i) (nI a) (nI b) = F q i
theorem pc_lift {nr : Nat} {ln : Nat → Nat} {F : Nat → Nat → Int32} {B x S : Nat → Int32} (hC : pc_CL nr ln F B) (hR : ∀ r, r < nr → pc_RK (ln r) (F r)) (h : ∃ r, r < nr ∧ pc_mf (ln r) (F r) (pc_sf B x) = true ∧ pc_q6 (pc_sf B (pc_af (ln r) (F r) (pc_sf B x))) S) : ∃ r, r < nr ∧ pc_mf (ln r) (F r) x = true ∧ pc_q6 (pc_sf B (pc_af (ln r) (F r) x)) S := by
  refine pc_so_keep (B := B) (fun t => (∃ r, r < nr ∧ pc_mf (ln r) (F r) t = true ∧ pc_q6 (pc_sf B (pc_af (ln r) (F r) t)) S) → ∃ r, r < nr ∧ pc_mf (ln r) (F r) x = true ∧ pc_q6 (pc_sf B (pc_af (ln r) (F r) x)) S) (fun t a b hab hb h0 j ih hz => ?_) 7 0 x id h
  rw [pc_tw_sw t (by omega)] at hz
  obtain ⟨r, h1, h2, h3⟩ := hz
  obtain ⟨q, q1, q2, q3⟩ := hC a b hab hb h0 j r h1
  obtain ⟨e1, e2⟩ := pc_rule_ex (x := fun v => t (pc_tw a b v)) (by omega) hb (by omega) q3 (hR r h1)
  simp only [pc_tw_tw] at e1 e2
  refine ih ⟨q, q1, ?_, ?_⟩
  · rw [q2, e1]; exact h2
  · rw [q2, e2]
    exact (pc_sf_tw hab hb h0 j).trans h3
/-! right blocks bear exchanges -/
theorem pc_ti_all {G H : Nat → Int32} {m : Nat} {u v : Int32} : ∀ (n i : Nat), m < i + n → pc_ti G H m 0 0 u v n i = true → ∀ j, i ≤ j → j < m → pc_ex (G j) u v = H j
  | 0, i, h, _, j, h1, h2 => absurd h2 (by omega)
  | n + 1, i, h, e, j, h1, h2 => by
    unfold pc_ti at e
    rw [if_pos (show i < m by omega), Nat.zero_add] at e
    by_cases hc : pc_ex (G i) u v = H i
    · rw [if_pos hc] at e
      by_cases hj : j = i
      · subst hj; exact hc
      · exact pc_ti_all n (i + 1) (by omega) e j (by omega) h2
    · rw [if_neg hc] at e; cases e
theorem pc_hX_some {nr : Nat} {ln : Nat → Nat} {F : Nat → Nat → Int32} {q : Nat} {u v : Int32} : ∀ (n r : Nat), nr < r + n → pc_hX nr ln F q u v n r = true → ∃ p, p < nr ∧ ln p = ln q ∧ ∀ i, i < ln q → pc_ex (F q i) u v = F p i
  | 0, r, h, e => by unfold pc_hX at e; cases e
  | n + 1, r, h, e => by
    unfold pc_hX at e
    by_cases hr : r < nr
    · rw [if_pos hr] at e
      by_cases hc : ln r = ln q ∧ pc_ti (pc_at (ln q) (F q)) (pc_at (ln r) (F r)) (ln q) 0 0 u v (ln q + 1) 0 = true
      · refine ⟨r, hr, hc.1, fun i hi => ?_⟩
        have := pc_ti_all _ 0 (by omega) hc.2 i (by omega) hi
        simp only [pc_at, if_pos hi, if_pos (show i < ln r by rw [hc.1]; exact hi)] at this
        exact this
      · rw [if_neg hc] at e
        exact pc_hX_some n (r + 1) (by omega) e
    · rw [if_neg hr] at e; cases e
theorem pc_bX_all {nr : Nat} {ln : Nat → Nat} {F : Nat → Nat → Int32} {u v : Int32} : ∀ (n r : Nat), nr < r + n → pc_bX nr ln F u v n r = true → ∀ q, r ≤ q → q < nr → ∃ p, p < nr ∧ ln p = ln q ∧ ∀ i, i < ln q → pc_ex (F q i) u v = F p i
  | 0, r, h, _, q, h1, h2 => absurd h2 (by omega)
  | n + 1, r, h, e, q, h1, h2 => by
    unfold pc_bX at e
    rw [if_pos (show r < nr by omega)] at e
    by_cases hc : pc_hX nr ln F r u v (nr + 1) 0 = true
    · rw [if_pos hc] at e
      by_cases hq : q = r
      · subst hq; exact pc_hX_some _ 0 (by omega) hc
      · exact pc_bX_all n (r + 1) (by omega) e q (by omega) h2
    · rw [if_neg hc] at e; cases e
theorem pc_bi_all {nr : Nat} {ln : Nat → Nat} {F : Nat → Nat → Int32} {B : Nat → Int32} {il : Nat} {iv : Nat → Int32} {a : Nat} : ∀ (n b : Nat), 6 < b + n → pc_bi nr ln F B il iv a n b = true → ∀ c, b ≤ c → c < 6 → pc_jn B a c = true → pc_bX nr ln F (nI a) (nI c) (nr + 1) 0 = true
  | 0, b, h, _, c, h1, h2, _ => absurd h2 (by omega)
  | n + 1, b, h, e, c, h1, h2, hj => by
    unfold pc_bi at e
    rw [if_pos (show b < 6 by omega)] at e
    by_cases hc : pc_jn B a b = true ∧ ¬ (pc_bX nr ln F (nI a) (nI b) (nr + 1) 0 = true ∧ pc_bE il iv (nI a) (nI b) (il + 1) 0 = true)
    · rw [if_pos hc] at e; cases e
    · rw [if_neg hc] at e
      by_cases hcb : c = b
      · subst hcb
        exact (Decidable.byContradiction (fun z => hc ⟨hj, z⟩) : pc_bX nr ln F (nI a) (nI c) (nr + 1) 0 = true ∧ pc_bE il iv (nI a) (nI c) (il + 1) 0 = true).1
      · exact pc_bi_all n (b + 1) (by omega) e c (by omega) h2 hj
theorem pc_ba_all {nr : Nat} {ln : Nat → Nat} {F : Nat → Nat → Int32} {B : Nat → Int32} {il : Nat} {iv : Nat → Int32} : ∀ (n a : Nat), 6 < a + n → pc_ba nr ln F B il iv n a = true → ∀ c, a ≤ c → c < 6 → pc_bi nr ln F B il iv c 7 (c + 1) = true
  | 0, a, h, _, c, h1, h2 => absurd h2 (by omega)
  | n + 1, a, h, e, c, h1, h2 => by
    unfold pc_ba at e
    rw [if_pos (show a < 6 by omega)] at e
    by_cases hc : pc_bi nr ln F B il iv a 7 (a + 1) = true
    · rw [if_pos hc] at e
      by_cases hca : c = a
      · subst hca; exact hc
      · exact pc_ba_all n (a + 1) (by omega) e c (by omega) h2
    · rw [if_neg hc] at e; cases e
theorem pc_CL_of {nr : Nat} {ln : Nat → Nat} {F : Nat → Nat → Int32} {B : Nat → Int32} {il : Nat} {iv : Nat → Int32} (e : pc_ba nr ln F B il iv 7 0 = true) : pc_CL nr ln F B := by
  intro a b hab hb h0 j r hr
  have h1 := pc_ba_all 7 0 (by omega) e a (by omega) (by omega)
  have h2 := pc_bi_all 7 (a + 1) (by omega) h1 b (by omega) hb (pc_jn_iff.mpr ⟨h0, j⟩)
  exact pc_bX_all _ 0 (by omega) h2 r (by omega) hr
