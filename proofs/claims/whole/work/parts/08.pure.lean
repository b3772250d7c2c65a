/-! ===== what the words mean ===== -/
def pc_isV (v : Int32) : Bool := if v < 0 then false else if 6 ≤ v then false else true
def pc_op (w : Int32) : Int32 := w &&& 255
def pc_k (w : Int32) : Int32 := w >>> 8
def pc_isW (w : Int32) : Bool := if pc_op w = 0 then true else if pc_op w = 1 then pc_isV (pc_k w) else if pc_op w = 11 then pc_isV (pc_k w) else if 12 < pc_op w then false else if pc_k w = 0 then true else false
def pc_ex (w a b : Int32) : Int32 := if pc_op w = 1 ∨ pc_op w = 11 then (if pc_k w = a then b <<< 8 ||| pc_op w else if pc_k w = b then a <<< 8 ||| pc_op w else w) else w
/-- word j of a row of ln words -/
def pc_at (ln : Nat) (f : Nat → Int32) (j : Nat) : Int32 := if j < ln then f j else 0
def pc_next (ln : Nat) (f : Nat → Int32) (o : Int32) : Nat → Nat → Nat
  | 0, _ => ln
  | n + 1, i => if i < ln then (if pc_op (f i) = o then i else pc_next ln f o n (i + 1)) else ln
/-- the exchange of a and b in n words from a on makes of the first row the second -/
def pc_ti (F H : Nat → Int32) (n a b : Nat) (u v : Int32) : Nat → Nat → Bool
  | 0, _ => true
  | k + 1, i => if i < n then (if pc_ex (F (a + i)) u v = H (b + i) then pc_ti F H n a b u v k (i + 1) else false) else true
/-! heights -/
def pc_oi : Option Nat → Int32
  | none => -1
  | some h => nI h
def pc_hA (h : Nat) (o : Int32) (m : Bool) : Option Nat := if o = 10 then none else if o = 12 then none else if o = 11 ∧ m = false then none else if o = 0 ∨ o = 1 then (if h < 8 then some (h + 1) else none) else if o = 9 then (if h < 1 then none else some h) else if o = 11 then (if h < 1 then none else some (h - 1)) else (if h < 2 then none else some (h - 1))
theorem pc_hA_le {h h' : Nat} {o : Int32} {m : Bool} (hh : h ≤ 8) (e : pc_hA h o m = some h') : h' ≤ 8 := by
  unfold pc_hA at e
  repeat' split at e
  all_goals first | cases e; done | (cases e; omega)
theorem pc_m1 {h : Nat} (hh : h < 2 ^ 31) : ¬ nI h = -1 := by
  intro q
  have a := nI_toInt hh
  rw [q] at a
  have b : (-1 : Int32).toInt = -1 := by decide
  omega
theorem pc_oi_m1 {h : Nat} {o : Int32} {m : Bool} (hh : h ≤ 8) : pc_oi (pc_hA h o m) = -1 ↔ pc_hA h o m = none := by
  cases e : pc_hA h o m with
  | none => simp [pc_oi]
  | some h' =>
    have := pc_hA_le hh e
    simp only [pc_oi, reduceCtorEq, iff_false]
    exact pc_m1 (by omega)
theorem pc_oi_ne {h : Nat} {o : Int32} {m : Bool} (hh : h ≤ 8) (c : ¬ pc_oi (pc_hA h o m) = -1) : ∃ h', pc_hA h o m = some h' ∧ h' ≤ 8 := by
  rw [pc_oi_m1 hh] at c
  cases e : pc_hA h o m with
  | none => exact absurd e c
  | some h' => exact ⟨h', rfl, pc_hA_le hh e⟩
/-- a rule is right, as the class looks at it -/
def pc_rR (ln : Nat) (f : Nat → Int32) : Nat → Nat → Bool → Nat → Bool
  | 0, _, _, _ => false
  | n + 1, i, bt, h => if i < ln then (if pc_op (f i) = 10 ∧ bt = false then (if h = 1 then pc_rR ln f n (i + 1) true 0 else false) else (match pc_hA h (pc_op (f i)) bt with | none => false | some h' => pc_rR ln f n (i + 1) bt h')) else (bt && decide (h = 0))
def pc_iR (ln : Nat) (f : Nat → Int32) : Nat → Nat → Nat → Bool
  | 0, _, _ => false
  | n + 1, i, h => if i < ln then (if pc_op (f i) = 12 then (if h = 1 then pc_iR ln f n (i + 1) 0 else false) else (match pc_hA h (pc_op (f i)) false with | none => false | some h' => pc_iR ln f n (i + 1) h')) else decide (h = 1)
/-- parts of the invariant -/
def pc_ps (f : Nat → Int32) (i : Nat) : Bool := if i = 0 then true else if pc_op (f (i - 1)) = 12 then true else false
def pc_pe (ln : Nat) (f : Nat → Int32) (i : Nat) : Nat := pc_next ln f 12 (ln + 1) i
theorem pc_next_bd {ln : Nat} {f : Nat → Int32} {o : Int32} : ∀ (n i : Nat), i ≤ ln → i ≤ pc_next ln f o n i ∧ pc_next ln f o n i ≤ ln
  | 0, i, h => ⟨h, Nat.le_refl _⟩
  | n + 1, i, h => by
    unfold pc_next
    split
    · split
      · omega
      · have := pc_next_bd (ln := ln) (f := f) (o := o) n (i + 1) (by omega)
        omega
    · omega
theorem pc_pe_bd {ln : Nat} {f : Nat → Int32} {i : Nat} (h : i ≤ ln) : i ≤ pc_pe ln f i ∧ pc_pe ln f i ≤ ln := pc_next_bd _ i h
def pc_hE (ln : Nat) (f : Nat → Int32) (s : Nat) (u v : Int32) : Nat → Nat → Bool
  | 0, _ => false
  | n + 1, i => if i < ln then (if pc_ps f i = true ∧ pc_pe ln f i - i = pc_pe ln f s - s ∧ pc_ti (pc_at ln f) (pc_at ln f) (pc_pe ln f s - s) s i u v (pc_pe ln f s - s + 1) 0 = true then true else pc_hE ln f s u v n (i + 1)) else false
def pc_bE (ln : Nat) (f : Nat → Int32) (u v : Int32) : Nat → Nat → Bool
  | 0, _ => true
  | n + 1, i => if i < ln then (if pc_ps f i = true ∧ pc_hE ln f i u v (ln + 1) 0 = false then false else pc_bE ln f u v n (i + 1)) else true
/-- all rules -/
def pc_aR (nr : Nat) (ln : Nat → Nat) (F : Nat → Nat → Int32) : Nat → Nat → Bool
  | 0, _ => true
  | n + 1, r => if r < nr then (if pc_rR (ln r) (F r) (ln r + 1) 0 false 0 = true then pc_aR nr ln F n (r + 1) else false) else true
def pc_hX (nr : Nat) (ln : Nat → Nat) (F : Nat → Nat → Int32) (q : Nat) (u v : Int32) : Nat → Nat → Bool
  | 0, _ => false
  | n + 1, r => if r < nr then (if ln r = ln q ∧ pc_ti (pc_at (ln q) (F q)) (pc_at (ln r) (F r)) (ln q) 0 0 u v (ln q + 1) 0 = true then true else pc_hX nr ln F q u v n (r + 1)) else false
def pc_bX (nr : Nat) (ln : Nat → Nat) (F : Nat → Nat → Int32) (u v : Int32) : Nat → Nat → Bool
  | 0, _ => true
  | n + 1, r => if r < nr then (if pc_hX nr ln F r u v (nr + 1) 0 = true then pc_bX nr ln F u v n (r + 1) else false) else true
