/-! ===== the reference: what its methods answer ===== -/
theorem go_dup2 {X : go_X} {cc : ByteArray} {own : String} {rt : Option FieldType} {nL fr lo rc rs : Nat} {G : go_G} {kz : Nat × Nat} {ws : va_W} {lv : List (Nat × Value)} {st : List Value} {pc : Nat} (C : go_Cx X cc own rt nL fr lo rc rs G) {v w : Value} (d : decode cc pc = .ok (.dup2, 1)) (hv : v.category = 1) (hw : w.category = 1) (kk : go_Go X kz ws lv (v :: w :: v :: w :: st) (pc + 1)) : go_Go X kz ws lv (v :: w :: st) pc := go_st C (fun hx hb _ k => lv_dup2_11 hx hb d hv hw k) kk
def pc_rr (R : Nat → Int32) (r : Nat) : Nat → Int32 := fun i => R (32 * r + i)
def pc_lf (ln : Nat → Nat) : Nat → Int32 := fun r => nI (ln r)
def pc_ul (ln : Nat → Nat) (k v : Nat) : Nat → Nat := fun j => if j = k then v else ln j
theorem pc_ul_eq (ln : Nat → Nat) (k v : Nat) (x : Int32) (h : x = nI v) : upd (pc_lf ln) k x = pc_lf (pc_ul ln k v) := by
  funext j
  subst h
  simp only [upd, pc_lf, pc_ul]
  split <;> rfl
def pc_hB (h : Nat) (o : Int32) : Option Nat := if 1 < o then (if 8 < o then (if o = 9 then (if h < 1 then none else some h) else none) else (if h < 2 then none else some (h - 1))) else (if h < 8 then some (h + 1) else none)
theorem pc_hB_le {h h' : Nat} {o : Int32} (hh : h ≤ 8) (e : pc_hB h o = some h') : h' ≤ 8 := by
  unfold pc_hB at e
  repeat' split at e
  all_goals first | cases e; done | (cases e; omega)
theorem pc_oiB_neg {h : Nat} {o : Int32} (hh : h ≤ 8) : 0 ≤ pc_oi (pc_hB h o) ↔ ¬ pc_hB h o = none := by
  cases e : pc_hB h o with
  | none => simp only [pc_oi]; decide
  | some h' =>
    have := pc_hB_le hh e
    simp only [pc_oi, reduceCtorEq, not_false_eq_true, iff_true]
    exact nI_pos' (by omega)
theorem pc_oiB_some {h : Nat} {o : Int32} (hh : h ≤ 8) (c : 0 ≤ pc_oi (pc_hB h o)) : ∃ h', pc_hB h o = some h' ∧ h' ≤ 8 := by
  rw [pc_oiB_neg hh] at c
  cases e : pc_hB h o with
  | none => exact absurd e c
  | some h' => exact ⟨h', rfl, pc_hB_le hh e⟩
theorem pc_oiB_none {h : Nat} {o : Int32} (hh : h ≤ 8) (c : ¬ 0 ≤ pc_oi (pc_hB h o)) : pc_hB h o = none := by
  rw [pc_oiB_neg hh] at c
  exact Decidable.not_not.mp c
def pc_mR (ln : Nat) (f : Nat → Int32) : Nat → Nat → Nat → Nat → Bool
  | 0, _, _, _ => false
  | n + 1, i, th, h => if i < ln then (if pc_op (f i) = 10 then (if th = 1 then false else if h = 1 then pc_mR ln f n (i + 1) 1 0 else false) else if pc_op (f i) = 11 then (if th = 0 then false else if h < 1 then false else pc_mR ln f n (i + 1) th (h - 1)) else (match pc_hB h (pc_op (f i)) with | none => false | some h' => pc_mR ln f n (i + 1) th h')) else (if th = 1 then decide (h = 0) else false)
def pc_mI (ln : Nat) (f : Nat → Int32) : Nat → Nat → Nat → Bool
  | 0, _, _ => false
  | n + 1, i, h => if i < ln then (if pc_op (f i) = 12 then (if h = 1 then pc_mI ln f n (i + 1) 0 else false) else (match pc_hB h (pc_op (f i)) with | none => false | some h' => pc_mI ln f n (i + 1) h')) else decide (h = 1)
def pc_mb (m : Nat) (f g : Nat → Int32) (u v : Int32) : Nat → Nat → Bool
  | 0, _ => true
  | n + 1, i => if i < m then (if pc_ex (f i) u v = g i then pc_mb m f g u v n (i + 1) else false) else true
def pc_mB (ln : Nat → Nat) (R : Nat → Int32) (r q : Nat) (u v : Int32) : Bool := if ln r = ln q then pc_mb (ln r) (pc_rr R r) (pc_rr R q) u v (ln r + 1) 0 else false
def pc_mA (nr : Nat) (ln : Nat → Nat) (R : Nat → Int32) (r : Nat) (u v : Int32) : Nat → Nat → Bool
  | 0, _ => false
  | n + 1, q => if q < nr then (if pc_mB ln R r q u v = true then true else pc_mA nr ln R r u v n (q + 1)) else false
def pc_mp (m p q : Nat) (f : Nat → Int32) (u v : Int32) : Nat → Nat → Bool
  | 0, _ => true
  | n + 1, i => if i < m then (if pc_ex (f (p + i)) u v = f (q + i) then pc_mp m p q f u v n (i + 1) else false) else true
def pc_mQ (il : Nat) (f : Nat → Int32) (p q : Nat) (u v : Int32) : Bool := if pc_pe il f q - q = pc_pe il f p - p then pc_mp (pc_pe il f p - p) p q f u v (pc_pe il f p - p + 1) 0 else false
def pc_mP (il : Nat) (f : Nat → Int32) (p : Nat) (u v : Int32) : Nat → Nat → Bool
  | 0, _ => false
  | n + 1, q => if q < il then (if pc_ps f q = true ∧ pc_mQ il f p q u v = true then true else pc_mP il f p u v n (q + 1)) else false
def pc_mX1 (nr : Nat) (ln : Nat → Nat) (R : Nat → Int32) (u v : Int32) : Nat → Nat → Bool
  | 0, _ => true
  | n + 1, r => if r < nr then (if pc_mA nr ln R r u v (nr + 1) 0 = true then pc_mX1 nr ln R u v n (r + 1) else false) else true
def pc_mX2 (il : Nat) (f : Nat → Int32) (u v : Int32) : Nat → Nat → Bool
  | 0, _ => true
  | n + 1, p => if p < il then (if pc_ps f p = true ∧ pc_mP il f p u v (il + 1) 0 = false then false else pc_mX2 il f u v n (p + 1)) else true
def pc_mX (nr : Nat) (ln : Nat → Nat) (R : Nat → Int32) (il : Nat) (f : Nat → Int32) (u v : Int32) : Bool := if pc_mX1 nr ln R u v (nr + 1) 0 = true then pc_mX2 il f u v (il + 1) 0 else false
def pc_nbi (nr : Nat) (ln : Nat → Nat) (R : Nat → Int32) (B : Nat → Int32) (il : Nat) (iv : Nat → Int32) (a : Nat) : Nat → Nat → Bool
  | 0, _ => true
  | n + 1, b => if b < 6 then (if ¬ B a = 0 ∧ B a = B b ∧ pc_mX nr ln R il iv (nI a) (nI b) = false then false else pc_nbi nr ln R B il iv a n (b + 1)) else true
def pc_nba (nr : Nat) (ln : Nat → Nat) (R : Nat → Int32) (B : Nat → Int32) (il : Nat) (iv : Nat → Int32) : Nat → Nat → Bool
  | 0, _ => true
  | n + 1, a => if a < 6 then (if pc_nbi nr ln R B il iv a 7 (a + 1) = true then pc_nba nr ln R B il iv n (a + 1) else false) else true
/-- the invariant, run through -/
def pc_mok (f : Nat → Int32) : Nat → Nat → Nat → Prop
  | 0, _, h => h = 1
  | n + 1, i, h => if pc_op (f i) = 12 then h = 1 ∧ pc_mok f n (i + 1) 0 else pc_okw h (f i) ∧ pc_mok f n (i + 1) (pc_hw h (f i))
def pc_mh (f b : Nat → Int32) : Nat → Nat → Nat → (Nat → Int32) → Bool
  | 0, _, _, st => if st 0 = 0 then false else true
  | n + 1, i, h, st => if pc_op (f i) = 12 then (if st 0 = 0 then false else pc_mh f b n (i + 1) 0 st) else pc_mh f b n (i + 1) (pc_hw h (f i)) (pc_s1 b h st (f i))
theorem pc_mh_eq {f b : Nat → Int32} : ∀ (n i h : Nat) (st st' : Nat → Int32), pc_mok f n i h → (∀ j, j < h → st j = st' j) → pc_mh f b n i h st = pc_mh f b n i h st'
  | 0, i, h, st, st', ok, e => by
    have h1 : h = 1 := ok
    unfold pc_mh
    rw [e 0 (by omega)]
  | n + 1, i, h, st, st', ok, e => by
    unfold pc_mok at ok
    unfold pc_mh
    by_cases c : pc_op (f i) = 12
    · rw [if_pos c] at ok
      rw [if_pos c, if_pos c, e 0 (by omega)]
      split
      · rfl
      · exact pc_mh_eq n (i + 1) 0 st st' ok.2 (fun j hj => absurd hj (by omega))
    · rw [if_neg c] at ok
      rw [if_neg c, if_neg c]
      exact pc_mh_eq n (i + 1) _ _ _ ok.2 (pc_s1_eq ok.1 e)
def pc_mho (il : Nat) (f b : Nat → Int32) : Bool := pc_mh f b il 0 0 (fun _ => 0)
/-- where THEN stands, once more -/
theorem pc_next_lt {ln : Nat} {f : Nat → Int32} {o : Int32} : ∀ (n i j : Nat), i ≤ j → j < pc_next ln f o n i → j < i + n → pc_op (f j) ≠ o
  | 0, i, j, h1, h2, h3 => absurd h3 (by omega)
  | n + 1, i, j, h1, h2, h3 => by
    unfold pc_next at h2
    split at h2
    · split at h2
      · omega
      · rename_i hn
        by_cases hj : j = i
        · subst hj; exact hn
        · exact pc_next_lt n (i + 1) j (by omega) h2 (by omega)
    · rename_i h4
      by_cases hj : j < i
      · omega
      · omega
theorem pc_next_at {ln : Nat} {f : Nat → Int32} {o : Int32} : ∀ (n i : Nat), pc_next ln f o n i < ln → pc_op (f (pc_next ln f o n i)) = o
  | 0, i, h => absurd h (by unfold pc_next; omega)
  | n + 1, i, h => by
    unfold pc_next at h ⊢
    split
    · rename_i h1
      rw [if_pos h1] at h
      split
      · assumption
      · rename_i h2
        rw [if_neg h2] at h
        exact pc_next_at n (i + 1) h
    · rename_i h1
      rw [if_neg h1] at h
      exact absurd h (by omega)
theorem pc_th_lt {ln : Nat} {f : Nat → Int32} {j : Nat} (h : j < pc_th ln f) : pc_op (f j) ≠ 10 := pc_next_lt _ 0 j (Nat.zero_le _) h (by have := pc_th_le ln f; omega)
theorem pc_th_at {ln : Nat} {f : Nat → Int32} (h : pc_th ln f < ln) : pc_op (f (pc_th ln f)) = 10 := pc_next_at _ 0 h
def pc_cp (n : Nat) (b d : Nat → Int32) : Nat → Int32 := fun j => if j < n then b j else d j
theorem pc_cp_s (i : Nat) (b d : Nat → Int32) : upd (pc_cp i b d) i (b i) = pc_cp (i + 1) b d := by
  funext j
  simp only [upd, pc_cp]
  by_cases h : j = i
  · subst h; simp
  · simp only [if_neg h]
    by_cases h2 : j < i
    · simp [h2, Nat.lt_succ_of_lt h2]
    · rw [if_neg h2, if_neg (by omega)]
theorem pc_cp_0 (b d : Nat → Int32) : pc_cp 0 b d = d := by funext j; simp [pc_cp]
theorem pc_dec {h : Nat} (h1 : 1 ≤ h) : nI h + Int32.ofInt (-1) = nI (h - 1) := by
  obtain ⟨k, rfl⟩ : ∃ k, h = k + 1 := ⟨h - 1, by omega⟩
  exact pk_m1 k
