/-! ===== the reference: standard form, store, expanding ===== -/
def pc_pl (B s : Nat → Int32) (v : Nat) : Nat → Nat → Nat → Nat
  | 0, _, m => m
  | n + 1, u, m => if u < 6 then (if ¬ u = v ∧ B u = B v ∧ (s u < s v ∨ (s u = s v ∧ u < v)) then pc_pl B s v n (u + 1) (m + 1) else pc_pl B s v n (u + 1) m) else m
theorem pc_pl_le {B s : Nat → Int32} {v : Nat} : ∀ (n u m : Nat), u ≤ 6 → m ≤ u → pc_pl B s v n u m ≤ 6
  | 0, u, m, h, h2 => Nat.le_trans h2 h
  | n + 1, u, m, h, h2 => by
    unfold pc_pl
    split
    · split
      · exact pc_pl_le n (u + 1) (m + 1) (by omega) (by omega)
      · exact pc_pl_le n (u + 1) m (by omega) (by omega)
    · omega
def pc_rk (B : Nat → Int32) (v : Nat) : Nat → Nat → Nat → Nat
  | 0, _, m => m
  | n + 1, u, m => if u < v then (if B u = B v then pc_rk B v n (u + 1) (m + 1) else pc_rk B v n (u + 1) m) else m
theorem pc_rk_le {B : Nat → Int32} {v : Nat} (hv : v ≤ 6) : ∀ (n u m : Nat), u ≤ 6 → m ≤ u → pc_rk B v n u m ≤ 6
  | 0, u, m, h, h2 => Nat.le_trans h2 h
  | n + 1, u, m, h, h2 => by
    unfold pc_rk
    split
    · split
      · exact pc_rk_le hv n (u + 1) (m + 1) (by omega) (by omega)
      · exact pc_rk_le hv n (u + 1) m (by omega) (by omega)
    · omega
def pc_sl (B s : Nat → Int32) (v k : Nat) : Nat → Nat → Int32
  | 0, _ => 0
  | n + 1, u => if u < 6 then (if B u = B v ∧ pc_pl B s u 7 0 0 = k then s u else pc_sl B s v k n (u + 1)) else 0
def pc_io (B s : Nat → Int32) (v : Nat) : Int32 := if B v = 0 then s v else pc_sl B s v (pc_rk B v 7 0 0) 7 0
def pc_is (ct : Nat) (V t : Nat → Int32) : Nat → Nat → Bool
  | 0, _ => false
  | n + 1, i => if i < ct then (if pc_e6 V i t 7 0 = true then true else pc_is ct V t n (i + 1)) else false
/-- a state written, as far as v -/
def pc_wp (V : Nat → Int32) (c : Nat) (t : Nat → Int32) (v : Nat) : Nat → Int32 := fun j => if 6 * c ≤ j ∧ j < 6 * c + v then t (j - 6 * c) else V j
theorem pc_wp_0 (V : Nat → Int32) (c : Nat) (t : Nat → Int32) : pc_wp V c t 0 = V := by
  funext j
  unfold pc_wp
  rw [if_neg (by omega)]
theorem pc_wp_6 (V : Nat → Int32) (c : Nat) (t : Nat → Int32) : pc_wp V c t 6 = pc_wr V c t := rfl
theorem pc_wp_s (V : Nat → Int32) (c v : Nat) (t : Nat → Int32) : upd (pc_wp V c t v) (6 * c + v) (t v) = pc_wp V c t (v + 1) := by
  funext j
  simp only [upd, pc_wp]
  by_cases h : j = 6 * c + v
  · subst h
    rw [if_pos rfl, if_pos (by omega)]
    congr 1
    omega
  · rw [if_neg h]
    by_cases h2 : 6 * c ≤ j ∧ j < 6 * c + v
    · rw [if_pos h2, if_pos (by omega)]
    · rw [if_neg h2, if_neg (by omega)]
/-- count, states, parents, breaking -/
abbrev pc_Y : Type := Nat × (Nat → Int32) × (Nat → Int32) × Int32
def pc_msto (il : Nat) (iv : Nat → Int32) (y : pc_Y) (t : Nat → Int32) (q : Int32) : pc_Y := (y.1 + 1, pc_wr y.2.1 y.1 t, upd y.2.2.1 y.1 q, if pc_ho il iv t = true then y.2.2.2 else nI y.1)
/-- expanding from rule r on: the state of the store, expanded, full -/
def pc_mxl (nr : Nat) (ln : Nat → Nat) (F : Nat → Nat → Int32) (B : Nat → Int32) (il : Nat) (iv b : Nat → Int32) (ex : Nat) : Nat → Nat → pc_Y → pc_Y × Nat × Bool
  | 0, _, y => (y, ex, false)
  | n + 1, r, y => if r < nr then (if 0 ≤ y.2.2.2 then (y, ex + 1, false) else
      if pc_mf (ln r) (F r) b = true ∧ pc_is y.1 y.2.1 (pc_sf B (pc_af (ln r) (F r) b)) (y.1 + 1) 0 = false then
        (if y.1 = 400 then (y, ex, true) else pc_mxl nr ln F B il iv b ex n (r + 1) (pc_msto il iv y (pc_sf B (pc_af (ln r) (F r) b)) (nI ex)))
      else pc_mxl nr ln F B il iv b ex n (r + 1) y) else (y, ex + 1, false)
def pc_mxp (nr : Nat) (ln : Nat → Nat) (F : Nat → Nat → Int32) (B : Nat → Int32) (il : Nat) (iv : Nat → Int32) (ex : Nat) (y : pc_Y) : pc_Y × Nat × Bool := pc_mxl nr ln F B il iv (pc_stt y.2.1 ex) ex (nr + 1) 0 y
def pc_mel (nr : Nat) (ln : Nat → Nat) (F : Nat → Nat → Int32) (B : Nat → Int32) (il : Nat) (iv : Nat → Int32) (x : Int32) : Nat → Nat → pc_Y → Nat → Bool → pc_Y × Nat × Bool
  | 0, _, y, ex, fu => (y, ex, fu)
  | n + 1, k, y, ex, fu => if x ≤ nI k then (y, ex, fu) else if fu = true then (y, ex, fu) else if 0 ≤ y.2.2.2 then (y, ex, fu) else if ex < y.1 then pc_mel nr ln F B il iv x n (k + 1) (pc_mxp nr ln F B il iv ex y).1 (pc_mxp nr ln F B il iv ex y).2.1 (pc_mxp nr ln F B il iv ex y).2.2 else (y, ex, fu)
theorem pc_msto_le {il : Nat} {iv : Nat → Int32} {y : pc_Y} {t : Nat → Int32} {q : Int32} (h : y.1 ≤ 400) (h2 : ¬ y.1 = 400) : (pc_msto il iv y t q).1 ≤ 400 := by
  show y.1 + 1 ≤ 400
  omega
theorem pc_mxl_bd {nr : Nat} {ln : Nat → Nat} {F : Nat → Nat → Int32} {B iv b : Nat → Int32} {il ex : Nat} : ∀ (n r : Nat) (y : pc_Y), y.1 ≤ 400 → nr < r + n → (pc_mxl nr ln F B il iv b ex n r y).1.1 ≤ 400 ∧ (((pc_mxl nr ln F B il iv b ex n r y).2.2 = true ∧ (pc_mxl nr ln F B il iv b ex n r y).2.1 = ex) ∨ ((pc_mxl nr ln F B il iv b ex n r y).2.2 = false ∧ (pc_mxl nr ln F B il iv b ex n r y).2.1 = ex + 1) ∨ nr < r)
  | 0, r, y, h, h2 => ⟨h, Or.inr (Or.inr (by omega))⟩
  | n + 1, r, y, h, h2 => by
    unfold pc_mxl
    split
    · rename_i hr
      split
      · exact ⟨h, Or.inr (Or.inl ⟨rfl, rfl⟩)⟩
      · split
        · split
          · exact ⟨h, Or.inl ⟨rfl, rfl⟩⟩
          · rename_i h4
            have ih := pc_mxl_bd (nr := nr) (ln := ln) (F := F) (B := B) (iv := iv) (b := b) (il := il) (ex := ex) n (r + 1) _ (pc_msto_le (il := il) (iv := iv) (t := pc_sf B (pc_af (ln r) (F r) b)) (q := nI ex) h h4) (by omega)
            refine ⟨ih.1, ?_⟩
            rcases ih.2 with q | q | q
            · exact Or.inl q
            · exact Or.inr (Or.inl q)
            · omega
        · have ih := pc_mxl_bd (nr := nr) (ln := ln) (F := F) (B := B) (iv := iv) (b := b) (il := il) (ex := ex) n (r + 1) y h (by omega)
          refine ⟨ih.1, ?_⟩
          rcases ih.2 with q | q | q
          · exact Or.inl q
          · exact Or.inr (Or.inl q)
          · omega
    · exact ⟨h, Or.inr (Or.inl ⟨rfl, rfl⟩)⟩
theorem pc_mxp_bd {nr : Nat} {ln : Nat → Nat} {F : Nat → Nat → Int32} {B iv : Nat → Int32} {il ex : Nat} {y : pc_Y} (h : y.1 ≤ 400) : (pc_mxp nr ln F B il iv ex y).1.1 ≤ 400 ∧ (((pc_mxp nr ln F B il iv ex y).2.2 = true ∧ (pc_mxp nr ln F B il iv ex y).2.1 = ex) ∨ ((pc_mxp nr ln F B il iv ex y).2.2 = false ∧ (pc_mxp nr ln F B il iv ex y).2.1 = ex + 1)) := by
  obtain ⟨h1, h2⟩ := pc_mxl_bd (nr := nr) (ln := ln) (F := F) (B := B) (iv := iv) (b := pc_stt y.2.1 ex) (il := il) (ex := ex) (nr + 1) 0 y h (by omega)
  refine ⟨h1, ?_⟩
  rcases h2 with q | q | q
  · exact Or.inl q
  · exact Or.inr q
  · omega
/-- chains of parents -/
def pc_pok (ct : Nat) (P : Nat → Int32) : Prop := ∀ j, j < ct → P j = -1 ∨ ∃ q, q < j ∧ P j = nI q
def pc_bok (ct : Nat) (s : Int32) : Prop := s = -1 ∨ ∃ q, q < ct ∧ s = nI q
def pc_cl (P : Nat → Int32) : Nat → Int32 → Nat
  | 0, _ => 0
  | n + 1, s => if s < 0 then 0 else pc_cl P n (P s.toNatClampNeg) + 1
def pc_it (P : Nat → Int32) : Nat → Int32 → Int32
  | 0, s => s
  | n + 1, s => pc_it P n (P s.toNatClampNeg)
theorem pc_bok_ge {ct : Nat} {s : Int32} (hc : ct ≤ 400) (h : pc_bok ct s) (h0 : ¬ s < 0) : s = nI s.toNatClampNeg ∧ s.toNatClampNeg < ct := by
  rcases h with h | ⟨q, h1, h2⟩
  · subst h; exact absurd (by decide) h0
  · subst h2
    rw [nI_clamp (by omega)]
    exact ⟨rfl, h1⟩
theorem pc_pok_b {ct q : Nat} {P : Nat → Int32} (hP : pc_pok ct P) (hq : q < ct) : pc_bok ct (P q) := by
  rcases hP q hq with h | ⟨p, h1, h2⟩
  · exact Or.inl h
  · exact Or.inr ⟨p, by omega, h2⟩
/-- the search for the rule that was fired -/
def pc_mfn (nr : Nat) (ln : Nat → Nat) (F : Nat → Nat → Int32) (B V b : Nat → Int32) (s : Nat) : Nat → Nat → Option Nat
  | 0, _ => none
  | n + 1, r => if r < nr then (if pc_mf (ln r) (F r) b = true ∧ pc_e6 V s (pc_sf B (pc_af (ln r) (F r) b)) 7 0 = true then some r else pc_mfn nr ln F B V b s n (r + 1)) else none
/-- the steps of the counterexample: states and rules -/
def pc_ok3 (nr : Nat) (ln : Nat → Nat) (F : Nat → Nat → Int32) (B V P : Nat → Int32) (f0 : Nat → Int32) (br : Int32) (tl : Nat) (bs : Nat → Nat → Int32) (qs : Nat → Nat) : Prop :=
  bs 0 = f0 ∧ ∀ k, k < tl → qs k < nr ∧ pc_mfn nr ln F B V (bs k) (pc_it P (tl - (k + 1)) br).toNatClampNeg (nr + 1) 0 = some (qs k) ∧ bs (k + 1) = pc_af (ln (qs k)) (F (qs k)) (bs k)
