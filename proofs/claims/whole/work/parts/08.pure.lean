/-! ===== what the words mean ===== -/
def pc_isV (v : Int32) : Bool := if v < 0 then false else if 6 ≤ v then false else true
def pc_op (w : Int32) : Int32 := w &&& 255
def pc_k (w : Int32) : Int32 := w >>> 8
def pc_isW (w : Int32) : Bool := if pc_op w = 0 then true else if pc_op w = 1 then pc_isV (pc_k w) else if pc_op w = 11 then pc_isV (pc_k w) else if 12 < pc_op w then false else if pc_k w = 0 then true else false
def pc_ex (w a b : Int32) : Int32 := if pc_op w = 1 ∨ pc_op w = 11 then (if pc_k w = a then b <<< 8 ||| pc_op w else if pc_k w = b then a <<< 8 ||| pc_op w else w) else w
/-- word j of a row of ln words -/
def pc_at (ln : Nat) (f : Nat → Int32) (j : Nat) : Int32 := if j < ln then f j else 0
def pc_next (ln : Nat) (f : Nat → Int32) (o : Int32) : Nat → Nat → Nat
  | 0, _ => ln
  | n + 1, i => if i < ln then (if pc_op (f i) = o then i else pc_next ln f o n (i + 1)) else ln
/-- the exchange of a and b in n words from a on makes of the first row the second -/
def pc_ti (F H : Nat → Int32) (n a b : Nat) (u v : Int32) : Nat → Nat → Bool
  | 0, _ => true
  | k + 1, i => if i < n then (if pc_ex (F (a + i)) u v = H (b + i) then pc_ti F H n a b u v k (i + 1) else false) else true
/-! heights -/
def pc_oi : Option Nat → Int32
  | none => -1
  | some h => nI h
def pc_hA (h : Nat) (o : Int32) (m : Bool) : Option Nat := if o = 10 then none else if o = 12 then none else if o = 11 ∧ m = false then none else if o = 0 ∨ o = 1 then (if h < 8 then some (h + 1) else none) else if o = 9 then (if h < 1 then none else some h) else if o = 11 then (if h < 1 then none else some (h - 1)) else (if h < 2 then none else some (h - 1))
theorem pc_hA_le {h h' : Nat} {o : Int32} {m : Bool} (hh : h ≤ 8) (e : pc_hA h o m = some h') : h' ≤ 8 := by
  unfold pc_hA at e
  repeat' split at e
  all_goals first | cases e; done | (cases e; omega)
theorem pc_m1 {h : Nat} (hh : h < 2 ^ 31) : ¬ nI h = -1 := by
  intro q
  have a := nI_toInt hh
  rw [q] at a
  have b : (-1 : Int32).toInt = -1 := by decide
  omega
theorem pc_oi_m1 {h : Nat} {o : Int32} {m : Bool} (hh : h ≤ 8) : pc_oi (pc_hA h o m) = -1 ↔ pc_hA h o m = none := by
  cases e : pc_hA h o m with
  | none => simp [pc_oi]
  | some h' =>
    have := pc_hA_le hh e
    simp only [pc_oi, reduceCtorEq, iff_false]
    exact pc_m1 (by omega)
theorem pc_oi_ne {h : Nat} {o : Int32} {m : Bool} (hh : h ≤ 8) (c : ¬ pc_oi (pc_hA h o m) = -1) : ∃ h', pc_hA h o m = some h' ∧ h' ≤ 8 := by
  rw [pc_oi_m1 hh] at c
  cases e : pc_hA h o m with
  | none => exact absurd e c
  | some h' => exact ⟨h', rfl, pc_hA_le hh e⟩
/-- a rule is right, as the class looks at it -/
def pc_rR (ln : Nat) (f : Nat → Int32) : Nat → Nat → Bool → Nat → Bool
  | 0, _, _, _ => false
  | n + 1, i, bt, h => if i < ln then (if pc_op (f i) = 10 ∧ bt = false then (if h = 1 then pc_rR ln f n (i + 1) true 0 else false) else (match pc_hA h (pc_op (f i)) bt with | none => false | some h' => pc_rR ln f n (i + 1) bt h')) else (bt && decide (h = 0))
def pc_iR (ln : Nat) (f : Nat → Int32) : Nat → Nat → Nat → Bool
  | 0, _, _ => false
  | n + 1, i, h => if i < ln then (if pc_op (f i) = 12 then (if h = 1 then pc_iR ln f n (i + 1) 0 else false) else (match pc_hA h (pc_op (f i)) false with | none => false | some h' => pc_iR ln f n (i + 1) h')) else decide (h = 1)
/-- parts of the invariant -/
def pc_ps (f : Nat → Int32) (i : Nat) : Bool := if i = 0 then true else if pc_op (f (i - 1)) = 12 then true else false
def pc_pe (ln : Nat) (f : Nat → Int32) (i : Nat) : Nat := pc_next ln f 12 (ln + 1) i
theorem pc_next_bd {ln : Nat} {f : Nat → Int32} {o : Int32} : ∀ (n i : Nat), i ≤ ln → i ≤ pc_next ln f o n i ∧ pc_next ln f o n i ≤ ln
  | 0, i, h => ⟨h, Nat.le_refl _⟩
  | n + 1, i, h => by
    unfold pc_next
    split
    · split
      · omega
      · have := pc_next_bd (ln := ln) (f := f) (o := o) n (i + 1) (by omega)
        omega
    · omega
theorem pc_pe_bd {ln : Nat} {f : Nat → Int32} {i : Nat} (h : i ≤ ln) : i ≤ pc_pe ln f i ∧ pc_pe ln f i ≤ ln := pc_next_bd _ i h
def pc_hE (ln : Nat) (f : Nat → Int32) (s : Nat) (u v : Int32) : Nat → Nat → Bool
  | 0, _ => false
  | n + 1, i => if i < ln then (if pc_ps f i = true ∧ pc_pe ln f i - i = pc_pe ln f s - s ∧ pc_ti (pc_at ln f) (pc_at ln f) (pc_pe ln f s - s) s i u v (pc_pe ln f s - s + 1) 0 = true then true else pc_hE ln f s u v n (i + 1)) else false
def pc_bE (ln : Nat) (f : Nat → Int32) (u v : Int32) : Nat → Nat → Bool
  | 0, _ => true
  | n + 1, i => if i < ln then (if pc_ps f i = true ∧ pc_hE ln f i u v (ln + 1) 0 = false then false else pc_bE ln f u v n (i + 1)) else true
/-- all rules -/
def pc_aR (nr : Nat) (ln : Nat → Nat) (F : Nat → Nat → Int32) : Nat → Nat → Bool
  | 0, _ => true
  | n + 1, r => if r < nr then (if pc_rR (ln r) (F r) (ln r + 1) 0 false 0 = true then pc_aR nr ln F n (r + 1) else false) else true
def pc_hX (nr : Nat) (ln : Nat → Nat) (F : Nat → Nat → Int32) (q : Nat) (u v : Int32) : Nat → Nat → Bool
  | 0, _ => false
  | n + 1, r => if r < nr then (if ln r = ln q ∧ pc_ti (pc_at (ln q) (F q)) (pc_at (ln r) (F r)) (ln q) 0 0 u v (ln q + 1) 0 = true then true else pc_hX nr ln F q u v n (r + 1)) else false
def pc_bX (nr : Nat) (ln : Nat → Nat) (F : Nat → Nat → Int32) (u v : Int32) : Nat → Nat → Bool
  | 0, _ => true
  | n + 1, r => if r < nr then (if pc_hX nr ln F r u v (nr + 1) 0 = true then pc_bX nr ln F u v n (r + 1) else false) else true
/-! rows of numbers -/
def pc_fill (n : Nat) (x : Int32) (f : Nat → Int32) : Nat → Int32 := fun j => if j < n then x else f j
theorem pc_fill_s (i : Nat) (x : Int32) (f : Nat → Int32) : upd (pc_fill i x f) i x = pc_fill (i + 1) x f := by
  funext j
  simp only [upd, pc_fill]
  by_cases h : j = i
  · subst h; simp
  · simp only [if_neg h]
    by_cases h2 : j < i
    · simp [h2, Nat.lt_succ_of_lt h2]
    · rw [if_neg h2, if_neg (by omega)]
theorem pc_fill_0 (x : Int32) (f : Nat → Int32) : pc_fill 0 x f = f := by funext j; simp [pc_fill]
theorem pc_isV_t {v : Nat} (h : v < 6) : pc_isV (nI v) = true := by
  unfold pc_isV
  rw [if_neg (nI_pos (by omega)), if_neg (show ¬ (6 : Int32) ≤ nI v from nI_ge (b := 6) h (by decide))]
theorem pc_isV_nI {v : Int32} (h : pc_isV v = true) : v = nI v.toNatClampNeg ∧ v.toNatClampNeg < 6 := by
  unfold pc_isV at h
  split at h
  · cases h
  · rename_i h0
    split at h
    · cases h
    · rename_i h6
      obtain ⟨j, hj, rfl⟩ := nI_of h0
      have h7 : j < 6 := by
        rcases Nat.lt_or_ge j 6 with z | z
        · exact z
        · exact absurd (nI_le (a := 6) z hj) h6
      rw [nI_clamp hj]
      exact ⟨rfl, h7⟩
/-! blocks, standard form -/
def pc_jn (B : Nat → Int32) (a b : Nat) : Bool := if B a = 0 then false else if B a = B b then true else false
def pc_sw (B s : Nat → Int32) (a b : Nat) : Nat → Int32 := if pc_jn B a b = true ∧ ¬ s a ≤ s b then upd (upd s a (s b)) b (s a) else s
def pc_si (B : Nat → Int32) (a : Nat) : Nat → Nat → (Nat → Int32) → (Nat → Int32)
  | 0, _, s => s
  | n + 1, b, s => if b < 6 then pc_si B a n (b + 1) (pc_sw B s a b) else s
def pc_so (B : Nat → Int32) : Nat → Nat → (Nat → Int32) → (Nat → Int32)
  | 0, _, s => s
  | n + 1, a, s => if a < 6 then pc_so B n (a + 1) (pc_si B a 7 (a + 1) s) else s
/-- the standard form -/
def pc_sf (B s : Nat → Int32) : Nat → Int32 := pc_so B 7 0 s
/-! the stack machine -/
def pc_bo (o : Int32) : Prop := o = 2 ∨ o = 3 ∨ o = 4 ∨ o = 5 ∨ o = 6 ∨ o = 7 ∨ o = 8
def pc_bin (o x y : Int32) : Int32 := if o = 2 then x + y else if o = 3 then x - y else if o = 4 then x * y else if o = 5 then (if x = y then 1 else 0) else if o = 6 then (if y ≤ x then 0 else 1) else if o = 7 then x &&& y else x ||| y
def pc_okw (h : Nat) (w : Int32) : Prop := (pc_op w = 0 ∧ h < 8) ∨ (pc_op w = 1 ∧ h < 8 ∧ pc_isV (pc_k w) = true) ∨ (pc_op w = 9 ∧ 1 ≤ h ∧ h ≤ 8) ∨ (pc_bo (pc_op w) ∧ 2 ≤ h ∧ h ≤ 8)
def pc_hw (h : Nat) (w : Int32) : Nat := if pc_op w = 0 then h + 1 else if pc_op w = 1 then h + 1 else if pc_op w = 9 then h else h - 1
def pc_s1 (b : Nat → Int32) (h : Nat) (st : Nat → Int32) (w : Int32) : Nat → Int32 := if pc_op w = 0 then upd st h (pc_k w) else if pc_op w = 1 then upd st h (b (pc_k w).toNatClampNeg) else if pc_op w = 9 then upd st (h - 1) (if st (h - 1) = 0 then 1 else 0) else upd st (h - 1 - 1) (pc_bin (pc_op w) (st (h - 1 - 1)) (st (h - 1)))
theorem pc_okw_0 {h : Nat} {w : Int32} (ok : pc_okw h w) (e : pc_op w = 0) : h < 8 := by
  rcases ok with ⟨-, q⟩ | ⟨q, -⟩ | ⟨q, -⟩ | ⟨q, -⟩
  · exact q
  · rw [e] at q; exact absurd q (by decide)
  · rw [e] at q; exact absurd q (by decide)
  · rw [e] at q; exact absurd q (by unfold pc_bo; decide)
theorem pc_okw_1 {h : Nat} {w : Int32} (ok : pc_okw h w) (e : pc_op w = 1) : h < 8 ∧ pc_isV (pc_k w) = true := by
  rcases ok with ⟨q, -⟩ | ⟨-, q⟩ | ⟨q, -⟩ | ⟨q, -⟩
  · rw [e] at q; exact absurd q (by decide)
  · exact q
  · rw [e] at q; exact absurd q (by decide)
  · rw [e] at q; exact absurd q (by unfold pc_bo; decide)
theorem pc_okw_9 {h : Nat} {w : Int32} (ok : pc_okw h w) (e : pc_op w = 9) : 1 ≤ h ∧ h ≤ 8 := by
  rcases ok with ⟨q, -⟩ | ⟨q, -⟩ | ⟨-, q⟩ | ⟨q, -⟩
  · rw [e] at q; exact absurd q (by decide)
  · rw [e] at q; exact absurd q (by decide)
  · exact q
  · rw [e] at q; exact absurd q (by unfold pc_bo; decide)
theorem pc_okw_b {h : Nat} {w : Int32} (ok : pc_okw h w) (e0 : ¬ pc_op w = 0) (e1 : ¬ pc_op w = 1) (e9 : ¬ pc_op w = 9) : pc_bo (pc_op w) ∧ 2 ≤ h ∧ h ≤ 8 := by
  rcases ok with ⟨q, -⟩ | ⟨q, -⟩ | ⟨q, -⟩ | q
  · exact absurd q e0
  · exact absurd q e1
  · exact absurd q e9
  · exact q
theorem pc_bo_11 {o : Int32} (h : pc_bo o) : ¬ o = 11 := by
  intro e
  subst e
  revert h
  unfold pc_bo
  decide
/-- right words from a height on: n of them, from i on -/
def pc_okf (f : Nat → Int32) : Nat → Nat → Nat → Prop
  | 0, _, _ => True
  | n + 1, i, h => pc_okw h (f i) ∧ pc_okf f n (i + 1) (pc_hw h (f i))
def pc_fo (f b : Nat → Int32) : Nat → Nat → Nat → (Nat → Int32) → Nat × (Nat → Int32)
  | 0, _, h, st => (h, st)
  | n + 1, i, h, st => pc_fo f b n (i + 1) (pc_hw h (f i)) (pc_s1 b h st (f i))
/-- the same with SET -/
def pc_okw' (h : Nat) (w : Int32) : Prop := (pc_op w = 11 ∧ pc_isV (pc_k w) = true ∧ 1 ≤ h ∧ h ≤ 8) ∨ (¬ pc_op w = 11 ∧ pc_okw h w)
def pc_hw' (h : Nat) (w : Int32) : Nat := if pc_op w = 11 then h - 1 else pc_hw h w
def pc_s1' (b : Nat → Int32) (h : Nat) (st : Nat → Int32) (w : Int32) : Nat → Int32 := if pc_op w = 11 then st else pc_s1 b h st w
def pc_a1' (h : Nat) (st a : Nat → Int32) (w : Int32) : Nat → Int32 := if pc_op w = 11 then upd a (pc_k w).toNatClampNeg (st (h - 1)) else a
def pc_okf' (f : Nat → Int32) : Nat → Nat → Nat → Prop
  | 0, _, _ => True
  | n + 1, i, h => pc_okw' h (f i) ∧ pc_okf' f n (i + 1) (pc_hw' h (f i))
def pc_fo' (f b : Nat → Int32) : Nat → Nat → Nat → (Nat → Int32) → (Nat → Int32) → Nat × (Nat → Int32) × (Nat → Int32)
  | 0, _, h, st, a => (h, st, a)
  | n + 1, i, h, st, a => pc_fo' f b n (i + 1) (pc_hw' h (f i)) (pc_s1' b h st (f i)) (pc_a1' h st a (f i))
/-- what does not lie below the height does not count -/
theorem pc_s1_eq {b st st' : Nat → Int32} {h : Nat} {w : Int32} (ok : pc_okw h w) (e : ∀ i, i < h → st i = st' i) : ∀ i, i < pc_hw h w → pc_s1 b h st w i = pc_s1 b h st' w i := by
  intro i hi
  unfold pc_s1 pc_hw at *
  by_cases h0 : pc_op w = 0
  · simp only [if_pos h0] at *
    unfold upd
    split
    · rfl
    · exact e i (by omega)
  · simp only [if_neg h0] at *
    by_cases h1 : pc_op w = 1
    · simp only [if_pos h1] at *
      unfold upd
      split
      · rfl
      · exact e i (by omega)
    · simp only [if_neg h1] at *
      by_cases h9 : pc_op w = 9
      · have hb := pc_okw_9 ok h9
        simp only [if_pos h9] at *
        rw [e (h - 1) (by omega)]
        unfold upd
        split
        · rfl
        · exact e i (by omega)
      · have hb := pc_okw_b ok h0 h1 h9
        simp only [if_neg h9] at *
        rw [e (h - 1) (by omega), e (h - 1 - 1) (by omega)]
        unfold upd
        split
        · rfl
        · exact e i (by omega)
theorem pc_fo_eq {f b : Nat → Int32} : ∀ (n i h : Nat) (st st' : Nat → Int32), pc_okf f n i h → (∀ j, j < h → st j = st' j) → (pc_fo f b n i h st).1 = (pc_fo f b n i h st').1 ∧ ∀ j, j < (pc_fo f b n i h st).1 → (pc_fo f b n i h st).2 j = (pc_fo f b n i h st').2 j
  | 0, i, h, st, st', _, e => ⟨rfl, e⟩
  | n + 1, i, h, st, st', ok, e => pc_fo_eq n (i + 1) (pc_hw h (f i)) _ _ ok.2 (pc_s1_eq ok.1 e)
/-! heights alone; what a rule does -/
def pc_hs (f : Nat → Int32) : Nat → Nat → Nat → Nat
  | 0, _, h => h
  | n + 1, i, h => pc_hs f n (i + 1) (pc_hw h (f i))
def pc_hs' (f : Nat → Int32) : Nat → Nat → Nat → Nat
  | 0, _, h => h
  | n + 1, i, h => pc_hs' f n (i + 1) (pc_hw' h (f i))
theorem pc_fo_1 {f b : Nat → Int32} : ∀ (n i h : Nat) (st : Nat → Int32), (pc_fo f b n i h st).1 = pc_hs f n i h
  | 0, _, _, _ => rfl
  | n + 1, i, h, st => pc_fo_1 n (i + 1) _ _
theorem pc_fo'_1 {f b : Nat → Int32} : ∀ (n i h : Nat) (st a : Nat → Int32), (pc_fo' f b n i h st a).1 = pc_hs' f n i h
  | 0, _, _, _, _ => rfl
  | n + 1, i, h, st, a => pc_fo'_1 n (i + 1) _ _ _
theorem pc_fo'_eq {f b : Nat → Int32} : ∀ (n i h : Nat) (st st' a : Nat → Int32), pc_okf' f n i h → (∀ j, j < h → st j = st' j) → (pc_fo' f b n i h st a).2.2 = (pc_fo' f b n i h st' a).2.2
  | 0, i, h, st, st', a, _, e => rfl
  | n + 1, i, h, st, st', a, ok, e => by
    show (pc_fo' f b n (i + 1) (pc_hw' h (f i)) (pc_s1' b h st (f i)) (pc_a1' h st a (f i))).2.2 = (pc_fo' f b n (i + 1) (pc_hw' h (f i)) (pc_s1' b h st' (f i)) (pc_a1' h st' a (f i))).2.2
    have ha : pc_a1' h st a (f i) = pc_a1' h st' a (f i) := by
      unfold pc_a1'
      rcases ok.1 with ⟨h1, h2, h3, h4⟩ | ⟨h1, h2⟩
      · rw [if_pos h1, if_pos h1, e (h - 1) (by omega)]
      · rw [if_neg h1, if_neg h1]
    rw [ha]
    refine pc_fo'_eq n (i + 1) _ _ _ _ ok.2 ?_
    intro j hj
    rcases ok.1 with ⟨h1, h2, h3, h4⟩ | ⟨h1, h2⟩
    · unfold pc_hw' at hj
      unfold pc_s1'
      rw [if_pos h1] at hj ⊢
      rw [if_pos h1]
      exact e j (by omega)
    · unfold pc_hw' at hj
      unfold pc_s1'
      rw [if_neg h1] at hj ⊢
      rw [if_neg h1]
      exact pc_s1_eq h2 e j hj
/-- the value that m words from i on leave -/
def pc_rv (f b : Nat → Int32) (i m : Nat) : Int32 := (pc_fo f b m i 0 (fun _ => 0)).2 0
/-- what m words from i on make of a -/
def pc_av (f b : Nat → Int32) (i m : Nat) (a : Nat → Int32) : Nat → Int32 := (pc_fo' f b m i 0 (fun _ => 0) a).2.2
/-- where THEN stands -/
def pc_th (ln : Nat) (f : Nat → Int32) : Nat := pc_next ln f 10 (ln + 1) 0
theorem pc_th_le (ln : Nat) (f : Nat → Int32) : pc_th ln f ≤ ln := (pc_next_bd _ 0 (Nat.zero_le _)).2
/-- a right rule, by heights -/
def pc_RK (ln : Nat) (f : Nat → Int32) : Prop := pc_th ln f < ln ∧ pc_okf f (pc_th ln f) 0 0 ∧ pc_hs f (pc_th ln f) 0 0 = 1 ∧ pc_okf' f (ln - (pc_th ln f + 1)) (pc_th ln f + 1) 0 ∧ pc_hs' f (ln - (pc_th ln f + 1)) (pc_th ln f + 1) 0 = 0
def pc_IK (ln : Nat) (f : Nat → Int32) : Prop := ∀ i, i < ln → pc_ps f i = true → pc_okf f (pc_pe ln f i - i) i 0 ∧ pc_hs f (pc_pe ln f i - i) i 0 = 1
/-- the rule may fire; the state after it -/
def pc_mf (ln : Nat) (f b : Nat → Int32) : Bool := if pc_rv f b 0 (pc_th ln f) = 0 then false else true
def pc_af (ln : Nat) (f b : Nat → Int32) : Nat → Int32 := pc_av f b (pc_th ln f + 1) (ln - (pc_th ln f + 1)) b
/-- the invariant holds -/
def pc_hd (ln : Nat) (f b : Nat → Int32) : Nat → Nat → Bool
  | 0, _ => true
  | n + 1, i => if i < ln then (if pc_ps f i = true ∧ pc_rv f b i (pc_pe ln f i - i) = 0 then false else pc_hd ln f b n (i + 1)) else true
def pc_ho (ln : Nat) (f b : Nat → Int32) : Bool := pc_hd ln f b (ln + 1) 0
/-! the store of states -/
def pc_has (ct : Nat) (s : Int32) : Bool := if s < 0 then false else if nI ct ≤ s then false else true
theorem pc_has_t {ct s : Nat} (h : s < ct) (hc : ct < 2 ^ 31) : pc_has ct (nI s) = true := by
  unfold pc_has
  rw [if_neg (nI_pos (by omega)), if_neg (nI_ge h hc)]
theorem pc_has_nI {ct : Nat} {s : Int32} (hc : ct < 2 ^ 31) (h : pc_has ct s = true) : s = nI s.toNatClampNeg ∧ s.toNatClampNeg < ct := by
  unfold pc_has at h
  split at h
  · cases h
  · rename_i h0
    split at h
    · cases h
    · rename_i h6
      obtain ⟨j, hj, rfl⟩ := nI_of h0
      have h7 : j < ct := by
        rcases Nat.lt_or_ge j ct with z | z
        · exact z
        · exact absurd (nI_le z hj) h6
      rw [nI_clamp hj]
      exact ⟨rfl, h7⟩
def pc_par (ct : Nat) (P : Nat → Int32) (s : Int32) : Int32 := if pc_has ct s = true then P s.toNatClampNeg else -1
/-- state s out of a row of states; a state written into it -/
def pc_stt (V : Nat → Int32) (s : Nat) : Nat → Int32 := fun v => V (6 * s + v)
def pc_wr (V : Nat → Int32) (c : Nat) (t : Nat → Int32) : Nat → Int32 := fun j => if 6 * c ≤ j ∧ j < 6 * c + 6 then t (j - 6 * c) else V j
theorem pc_wr_eq (V : Nat → Int32) (c d : Nat) (t : Nat → Int32) (h : d = 6 * c) : va_cpy t V 0 d 6 = pc_wr V c t := by
  funext j
  subst h
  simp [va_cpy, pc_wr]
def pc_mx (s : Nat → Int32) : Nat → Nat → Int32 → Int32
  | 0, _, m => m
  | n + 1, i, m => if i < 6 then pc_mx s n (i + 1) (m * 31 + s i) else m
/-- the bucket of a state -/
def pc_bk (s : Nat → Int32) : Nat := ((pc_mx s 7 0 0 ^^^ go_us (pc_mx s 7 0 0) 9) ^^^ go_us (pc_mx s 7 0 0) 18).toBitVec.toNat % 2 ^ 9
theorem pc_bk_lt (s : Nat → Int32) : pc_bk s < 512 := Nat.mod_lt _ (by decide)
def pc_e6 (V : Nat → Int32) (s : Nat) (t : Nat → Int32) : Nat → Nat → Bool
  | 0, _ => true
  | n + 1, i => if i < 6 then (if V (s * 6 + i) = t i then pc_e6 V s t n (i + 1) else false) else true
def pc_fd (ct : Nat) (V O : Nat → Int32) (t : Nat → Int32) : Nat → Nat → Int32 → Int32
  | 0, _, _ => -1
  | n + 1, i, s => if i < 400 then (if pc_has ct s = true then (if pc_e6 V s.toNatClampNeg t 7 0 = true then s else pc_fd ct V O t n (i + 1) (O s.toNatClampNeg)) else -1) else -1
/-! the trace -/
def pc_hst (sp : Nat) (i : Int32) : Bool := if i < 0 then false else if nI sp < i then false else if 400 ≤ i then false else true
theorem pc_hst_t {sp i : Nat} (h : i ≤ sp) (h4 : i < 400) (hs : sp < 2 ^ 31) : pc_hst sp (nI i) = true := by
  unfold pc_hst
  rw [if_neg (nI_pos (by omega)), if_neg (nI_nlt h hs), if_neg (show ¬ (400 : Int32) ≤ nI i from nI_ge (b := 400) h4 (by decide))]
theorem pc_hst_nI {sp : Nat} {i : Int32} (hs : sp < 2 ^ 31) (h : pc_hst sp i = true) : i = nI i.toNatClampNeg ∧ i.toNatClampNeg ≤ sp ∧ i.toNatClampNeg < 400 := by
  unfold pc_hst at h
  split at h
  · cases h
  · rename_i h0
    split at h
    · cases h
    · rename_i h6
      split at h
      · cases h
      · rename_i h7
        obtain ⟨j, hj, rfl⟩ := nI_of h0
        rw [nI_clamp hj]
        refine ⟨rfl, ?_, ?_⟩
        · rcases Nat.lt_or_ge sp j with z | z
          · exact absurd (nI_lt z hj) h6
          · exact z
        · rcases Nat.lt_or_ge j 400 with z | z
          · exact z
          · exact absurd (nI_le (a := 400) z hj) h7
def pc_d1 (k : Nat) : Int32 := nI k + (-1)
theorem pc_d1_s (k : Nat) : pc_d1 (k + 1) = nI k := pk_m1 k
def pc_sp (ct : Nat) (P : Nat → Int32) : Nat → Nat → Int32 → Nat
  | 0, k, _ => k
  | n + 1, k, s => if k < 399 then (if pc_par ct P s = -1 then k else pc_sp ct P n (k + 1) (pc_par ct P s)) else k
theorem pc_sp_le {ct : Nat} {P : Nat → Int32} : ∀ (n k : Nat) (s : Int32), k ≤ 399 → pc_sp ct P n k s ≤ 399
  | 0, k, _, h => h
  | n + 1, k, s, h => by
    unfold pc_sp
    split
    · split
      · exact h
      · exact pc_sp_le n (k + 1) _ (by omega)
    · exact h
def pc_wl (ct : Nat) (P : Nat → Int32) : Nat → Int32 → (Nat → Int32) → (Nat → Int32)
  | 0, _, w => w
  | i + 1, s, w => pc_wl ct P i (pc_par ct P s) (upd w i s)
def pc_ra (sp : Nat) (D : Nat → Int32) (i : Int32) : Int32 := if i < 0 then -1 else if nI sp ≤ i then -1 else D i.toNatClampNeg
/-! the checker: feeding -/
def pc_fr (ln : Nat) (x : Int32) : Int32 := if pc_isW x = true then (if 32 ≤ ln then -3 else 0) else -1
def pc_fl (ln : Nat) (x : Int32) : Nat := if pc_isW x = true ∧ ¬ 32 ≤ ln then ln + 1 else ln
def pc_fw (ln : Nat) (f : Nat → Int32) (x : Int32) : Nat → Int32 := if pc_isW x = true ∧ ¬ 32 ≤ ln then upd f ln x else f
/-! the checker: the blocks are right -/
def pc_bi (nr : Nat) (ln : Nat → Nat) (F : Nat → Nat → Int32) (B : Nat → Int32) (il : Nat) (iv : Nat → Int32) (a : Nat) : Nat → Nat → Bool
  | 0, _ => true
  | n + 1, b => if b < 6 then (if pc_jn B a b = true ∧ ¬ (pc_bX nr ln F (nI a) (nI b) (nr + 1) 0 = true ∧ pc_bE il iv (nI a) (nI b) (il + 1) 0 = true) then false else pc_bi nr ln F B il iv a n (b + 1)) else true
def pc_ba (nr : Nat) (ln : Nat → Nat) (F : Nat → Nat → Int32) (B : Nat → Int32) (il : Nat) (iv : Nat → Int32) : Nat → Nat → Bool
  | 0, _ => true
  | n + 1, a => if a < 6 then (if pc_bi nr ln F B il iv a 7 (a + 1) = true then pc_ba nr ln F B il iv n (a + 1) else false) else true
/-! the checker: expanding -/
def pc_fA (ln : Nat) (f b d : Nat → Int32) : Nat → Int32 := if pc_mf ln f b = true then pc_af ln f b else d
def pc_fF (B : Nat → Int32) (ln : Nat) (f b e : Nat → Int32) : Nat → Int32 := if pc_mf ln f b = true then pc_sf B (pc_af ln f b) else e
/-- count, states, parents, newest, older, violated, no room -/
abbrev pc_Z : Type := Nat × (Nat → Int32) × (Nat → Int32) × (Nat → Int32) × (Nat → Int32) × Bool × Bool
def pc_fdz (z : pc_Z) (t : Nat → Int32) : Int32 := pc_fd z.1 z.2.1 z.2.2.2.2.1 t 401 0 (z.2.2.2.1 (pc_bk t))
def pc_sto (il : Nat) (iv : Nat → Int32) (z : pc_Z) (t : Nat → Int32) (q : Int32) : pc_Z := if z.1 < 400 then (z.1 + 1, pc_wr z.2.1 z.1 t, upd z.2.2.1 z.1 q, upd z.2.2.2.1 (pc_bk t) (nI z.1), upd z.2.2.2.2.1 z.1 (z.2.2.2.1 (pc_bk t)), !(pc_ho il iv t), z.2.2.2.2.2.2) else (z.1, z.2.1, z.2.2.1, z.2.2.2.1, z.2.2.2.2.1, z.2.2.2.2.2.1, true)
theorem pc_sto_le {il : Nat} {iv : Nat → Int32} {z : pc_Z} {t : Nat → Int32} {q : Int32} (h : z.1 ≤ 400) : (pc_sto il iv z t q).1 ≤ 400 := by
  unfold pc_sto
  split
  · show z.1 + 1 ≤ 400; omega
  · exact h
def pc_xr (B : Nat → Int32) (il : Nat) (iv : Nat → Int32) (ln : Nat) (f b : Nat → Int32) (ex : Nat) (z : pc_Z) : pc_Z := if pc_mf ln f b = true then (if pc_fdz z (pc_sf B (pc_af ln f b)) = -1 then pc_sto il iv z (pc_sf B (pc_af ln f b)) (nI ex) else z) else z
def pc_xl (nr : Nat) (ln : Nat → Nat) (F : Nat → Nat → Int32) (B : Nat → Int32) (il : Nat) (iv b : Nat → Int32) (ex : Nat) : Nat → Nat → pc_Z → pc_Z × Nat
  | 0, _, z => (z, ex)
  | n + 1, r, z => if r < nr then (if (pc_xr B il iv (ln r) (F r) b ex z).2.2.2.2.2.1 = true then (pc_xr B il iv (ln r) (F r) b ex z, ex) else if (pc_xr B il iv (ln r) (F r) b ex z).2.2.2.2.2.2 = true then (pc_xr B il iv (ln r) (F r) b ex z, ex) else pc_xl nr ln F B il iv b ex n (r + 1) (pc_xr B il iv (ln r) (F r) b ex z)) else (z, ex + 1)
def pc_xp (nr : Nat) (ln : Nat → Nat) (F : Nat → Nat → Int32) (B : Nat → Int32) (il : Nat) (iv : Nat → Int32) (ex : Nat) (z : pc_Z) : pc_Z × Nat := pc_xl nr ln F B il iv (pc_stt z.2.1 ex) ex (nr + 1) 0 z
/-! the checker: the trace -/
def pc_fn (nr : Nat) (ln : Nat → Nat) (F : Nat → Nat → Int32) (B : Nat → Int32) (z : pc_Z) (b : Nat → Int32) (s : Int32) : Nat → Nat → Option Nat
  | 0, _ => none
  | n + 1, r => if r < nr then (if pc_mf (ln r) (F r) b = true ∧ pc_fdz z (pc_sf B (pc_af (ln r) (F r) b)) = s then some r else pc_fn nr ln F B z b s n (r + 1)) else none
/-- rules fired and states of the trace, from step i on -/
def pc_lo (ln : Nat → Nat) (F : Nat → Nat → Int32) (b : Nat → Int32) (i : Nat) (D T : Nat → Int32) : Option Nat → (Nat → Int32) × (Nat → Int32)
  | none => (D, T)
  | some q => (upd D i (nI q), pc_wr T (i + 1) (pc_af (ln q) (F q) b))
def pc_lt (nr : Nat) (ln : Nat → Nat) (F : Nat → Nat → Int32) (B : Nat → Int32) (z : pc_Z) (W : Nat → Int32) (sp : Nat) : Nat → Nat → (Nat → Int32) → (Nat → Int32) → (Nat → Int32) × (Nat → Int32)
  | 0, _, D, T => (D, T)
  | n + 1, i, D, T => if i < sp then pc_lt nr ln F B z W sp n (i + 1) (pc_lo ln F (pc_stt T i) i D T (pc_fn nr ln F B z (pc_stt T i) (W (i + 1)) (nr + 1) 0)).1 (pc_lo ln F (pc_stt T i) i D T (pc_fn nr ln F B z (pc_stt T i) (W (i + 1)) (nr + 1) 0)).2 else (D, T)
/-! the checker: exploring -/
def pc_mn (x : Int32) : Int32 := if 400 < x then 400 else x
theorem pc_mn_lt {x : Int32} {i : Nat} (hi : i < 2 ^ 31) (h : ¬ pc_mn x ≤ nI i) : i < 400 := by
  rcases Nat.lt_or_ge i 400 with z | z
  · exact z
  · refine absurd ?_ h
    have h4 : (400 : Int32) ≤ nI i := nI_le (a := 400) z hi
    unfold pc_mn
    split
    · exact h4
    · rename_i h5
      exact Int32.le_trans (Int32.not_lt.mp h5) h4
def pc_el (nr : Nat) (ln : Nat → Nat) (F : Nat → Nat → Int32) (B : Nat → Int32) (il : Nat) (iv : Nat → Int32) (x : Int32) : Nat → Nat → pc_Z → Nat → pc_Z × Nat
  | 0, _, z, ex => (z, ex)
  | n + 1, i, z, ex => if pc_mn x ≤ nI i then (z, ex) else if z.2.2.2.2.2.1 = true then (z, ex) else if z.2.2.2.2.2.2 = true then (z, ex) else if z.1 ≤ ex then (z, ex) else pc_el nr ln F B il iv x n (i + 1) (pc_xp nr ln F B il iv ex z).1 (pc_xp nr ln F B il iv ex z).2
/-- steps, way, rules, states of the trace that is laid -/
def pc_ly (nr : Nat) (ln : Nat → Nat) (F : Nat → Nat → Int32) (B : Nat → Int32) (z : pc_Z) (f0 W D T : Nat → Int32) : Nat × (Nat → Int32) × (Nat → Int32) × (Nat → Int32) :=
  (pc_sp z.1 z.2.2.1 400 0 (nI (z.1 - 1)), pc_wl z.1 z.2.2.1 (pc_sp z.1 z.2.2.1 400 0 (nI (z.1 - 1)) + 1) (nI (z.1 - 1)) W,
   pc_lt nr ln F B z (pc_wl z.1 z.2.2.1 (pc_sp z.1 z.2.2.1 400 0 (nI (z.1 - 1)) + 1) (nI (z.1 - 1)) W) (pc_sp z.1 z.2.2.1 400 0 (nI (z.1 - 1))) 400 0 D (pc_wr T 0 f0))
theorem pc_xr_le {B iv f b : Nat → Int32} {il ln ex : Nat} {z : pc_Z} (h : z.1 ≤ 400) : (pc_xr B il iv ln f b ex z).1 ≤ 400 := by
  unfold pc_xr
  split
  · split
    · exact pc_sto_le h
    · exact h
  · exact h
theorem pc_xl_le {nr : Nat} {ln : Nat → Nat} {F : Nat → Nat → Int32} {B iv b : Nat → Int32} {il ex : Nat} : ∀ (n r : Nat) (z : pc_Z), z.1 ≤ 400 → (pc_xl nr ln F B il iv b ex n r z).1.1 ≤ 400 ∧ (pc_xl nr ln F B il iv b ex n r z).2 ≤ ex + 1
  | 0, r, z, h => ⟨h, Nat.le_succ _⟩
  | n + 1, r, z, h => by
    unfold pc_xl
    split
    · split
      · exact ⟨pc_xr_le h, Nat.le_succ _⟩
      · split
        · exact ⟨pc_xr_le h, Nat.le_succ _⟩
        · exact pc_xl_le n (r + 1) _ (pc_xr_le h)
    · exact ⟨h, Nat.le_refl _⟩
