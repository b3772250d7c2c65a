/-! ===== what a right description gives ===== -/
theorem pc_hA_okw {w : Int32} {h h' : Nat} {m : Bool} (hw : pc_isW w = true) (hh : h ≤ 8) (n11 : ¬ pc_op w = 11) (e : pc_hA h (pc_op w) m = some h') : pc_okw h w ∧ pc_hw h w = h' := by
  rcases pc_op13 hw with q | q | q | q | q | q | q
  · rw [q] at e
    simp only [pc_hA] at e
    by_cases h8 : h < 8
    · simp [h8] at e
      exact ⟨Or.inl ⟨q, h8⟩, by simp [pc_hw, q, e]⟩
    · simp [h8] at e
  · rw [q] at e
    simp only [pc_hA] at e
    by_cases h8 : h < 8
    · simp [h8] at e
      exact ⟨Or.inr (Or.inl ⟨q, h8, pc_isW_k hw (Or.inl q)⟩), by simp [pc_hw, q, e]⟩
    · simp [h8] at e
  · have e2 : pc_hB h (pc_op w) = some h' := by rw [← pc_hAB (m := m) (Or.inr (Or.inr (Or.inl q)))]; exact e
    have n0 : ¬ pc_op w = 0 := fun z => by rw [z] at q; revert q; unfold pc_bo; decide
    have n1 : ¬ pc_op w = 1 := fun z => by rw [z] at q; revert q; unfold pc_bo; decide
    have n9 : ¬ pc_op w = 9 := fun z => by rw [z] at q; revert q; unfold pc_bo; decide
    have b1 : (1 : Int32) < pc_op w := by unfold pc_bo at q; rcases q with q | q | q | q | q | q | q <;> rw [q] <;> decide
    have b8 : ¬ (8 : Int32) < pc_op w := by unfold pc_bo at q; rcases q with q | q | q | q | q | q | q <;> rw [q] <;> decide
    unfold pc_hB at e2
    rw [if_pos b1, if_neg b8] at e2
    by_cases h2 : h < 2
    · simp [h2] at e2
    · simp [h2] at e2
      exact ⟨Or.inr (Or.inr (Or.inr ⟨q, by omega, hh⟩)), by simp [pc_hw, n0, n1, n9, e2]⟩
  · rw [q] at e
    simp only [pc_hA] at e
    by_cases h1 : h < 1
    · simp [h1] at e
    · have h1' : ¬ h = 0 := by omega
      simp [h1'] at e
      exact ⟨Or.inr (Or.inr (Or.inl ⟨q, by omega, hh⟩)), by simp [pc_hw, q, e]⟩
  · rw [q, pc_hA_10] at e; cases e
  · exact absurd q n11
  · rw [q, pc_hA_12] at e; cases e
theorem pc_rR_2 {ln : Nat} {f : Nat → Int32} (hw : ∀ j, j < ln → pc_isW (f j) = true) : ∀ (n i h : Nat), h ≤ 8 → i ≤ ln → pc_rR ln f n i true h = true → pc_okf' f (ln - i) i h ∧ pc_hs' f (ln - i) i h = 0
  | 0, i, h, _, _, e => by unfold pc_rR at e; cases e
  | n + 1, i, h, hh, hi0, e => by
    unfold pc_rR at e
    by_cases hi : i < ln
    · rw [if_pos hi, if_neg (by simp)] at e
      obtain ⟨k, hk⟩ : ∃ k, ln - i = k + 1 := ⟨ln - i - 1, by omega⟩
      have hk2 : ln - (i + 1) = k := by omega
      cases e2 : pc_hA h (pc_op (f i)) true with
      | none => rw [e2] at e; cases e
      | some h' =>
        rw [e2] at e
        have hle := pc_hA_le hh e2
        have ih := pc_rR_2 hw n (i + 1) h' hle (by omega) e
        rw [hk2] at ih
        rw [hk]
        by_cases n11 : pc_op (f i) = 11
        · rw [n11, pc_hA_11t] at e2
          by_cases h1 : h < 1
          · rw [if_pos h1] at e2; cases e2
          · rw [if_neg h1] at e2
            have e3 : h - 1 = h' := Option.some.inj e2
            have hx : pc_hw' h (f i) = h' := by simp [pc_hw', n11, e3]
            refine ⟨⟨Or.inl ⟨n11, pc_isW_k (hw i hi) (Or.inr n11), by omega, hh⟩, ?_⟩, ?_⟩
            · rw [hx]; exact ih.1
            · show pc_hs' f k (i + 1) (pc_hw' h (f i)) = 0
              rw [hx]; exact ih.2
        · obtain ⟨o1, o2⟩ := pc_hA_okw (hw i hi) hh n11 e2
          have hx : pc_hw' h (f i) = h' := by simp [pc_hw', n11, o2]
          refine ⟨⟨Or.inr ⟨n11, o1⟩, ?_⟩, ?_⟩
          · rw [hx]; exact ih.1
          · show pc_hs' f k (i + 1) (pc_hw' h (f i)) = 0
            rw [hx]; exact ih.2
    · rw [if_neg hi] at e
      rw [show ln - i = 0 by omega]
      have h0 : h = 0 := by simpa using e
      exact ⟨trivial, h0⟩
theorem pc_rR_1 {ln : Nat} {f : Nat → Int32} (hw : ∀ j, j < ln → pc_isW (f j) = true) : ∀ (n i h : Nat), h ≤ 8 → i ≤ ln → pc_rR ln f n i false h = true → pc_next ln f 10 n i < ln ∧ pc_okf f (pc_next ln f 10 n i - i) i h ∧ pc_hs f (pc_next ln f 10 n i - i) i h = 1 ∧ pc_okf' f (ln - (pc_next ln f 10 n i + 1)) (pc_next ln f 10 n i + 1) 0 ∧ pc_hs' f (ln - (pc_next ln f 10 n i + 1)) (pc_next ln f 10 n i + 1) 0 = 0
  | 0, i, h, _, _, e => by unfold pc_rR at e; cases e
  | n + 1, i, h, hh, hi0, e => by
    unfold pc_rR at e
    unfold pc_next
    by_cases hi : i < ln
    · rw [if_pos hi] at e
      rw [if_pos hi]
      by_cases e10 : pc_op (f i) = 10
      · rw [if_pos ⟨e10, rfl⟩] at e
        rw [if_pos e10, Nat.sub_self]
        by_cases h1 : h = 1
        · rw [if_pos h1] at e
          have := pc_rR_2 hw n (i + 1) 0 (by omega) (by omega) e
          exact ⟨hi, trivial, h1, this.1, this.2⟩
        · rw [if_neg h1] at e; cases e
      · rw [if_neg (fun q => e10 q.1)] at e
        rw [if_neg e10]
        cases e2 : pc_hA h (pc_op (f i)) false with
        | none => rw [e2] at e; cases e
        | some h' =>
          rw [e2] at e
          have n11 : ¬ pc_op (f i) = 11 := fun q => by rw [q, pc_hA_11f] at e2; cases e2
          have hle := pc_hA_le hh e2
          obtain ⟨o1, o2⟩ := pc_hA_okw (hw i hi) hh n11 e2
          obtain ⟨i1, i2, i3, i4, i5⟩ := pc_rR_1 hw n (i + 1) h' hle (by omega) e
          have hb := (pc_next_bd (ln := ln) (f := f) (o := 10) n (i + 1) (by omega)).1
          refine ⟨i1, ?_, ?_, i4, i5⟩
          · rw [show pc_next ln f 10 n (i + 1) - i = (pc_next ln f 10 n (i + 1) - (i + 1)) + 1 by omega]
            exact ⟨o1, by rw [o2]; exact i2⟩
          · rw [show pc_next ln f 10 n (i + 1) - i = (pc_next ln f 10 n (i + 1) - (i + 1)) + 1 by omega]
            show pc_hs f _ (i + 1) (pc_hw h (f i)) = 1
            rw [o2]; exact i3
    · rw [if_neg hi] at e
      simp at e
theorem pc_RK_of {ln : Nat} {f : Nat → Int32} (hw : ∀ j, j < ln → pc_isW (f j) = true) (e : pc_rR ln f (ln + 1) 0 false 0 = true) : pc_RK ln f := pc_rR_1 hw (ln + 1) 0 0 (by omega) (by omega) e
theorem pc_aR_all {nr : Nat} {ln : Nat → Nat} {F : Nat → Nat → Int32} : ∀ (n r : Nat), nr < r + n → pc_aR nr ln F n r = true → ∀ q, r ≤ q → q < nr → pc_rR (ln q) (F q) (ln q + 1) 0 false 0 = true
  | 0, r, h, _, q, h1, h2 => absurd h2 (by omega)
  | n + 1, r, h, e, q, h1, h2 => by
    unfold pc_aR at e
    rw [if_pos (show r < nr by omega)] at e
    by_cases hr : pc_rR (ln r) (F r) (ln r + 1) 0 false 0 = true
    · rw [if_pos hr] at e
      by_cases hq : q = r
      · subst hq; exact hr
      · exact pc_aR_all n (r + 1) (by omega) e q (by omega) h2
    · rw [if_neg hr] at e; cases e
/-! the invariant -/
theorem pc_iR_mok {il : Nat} {f : Nat → Int32} (hw : ∀ j, j < il → pc_isW (f j) = true) : ∀ (n i h : Nat), h ≤ 8 → i ≤ il → pc_iR il f n i h = true → pc_mok f (il - i) i h
  | 0, i, h, _, _, e => by unfold pc_iR at e; cases e
  | n + 1, i, h, hh, hi0, e => by
    unfold pc_iR at e
    by_cases hi : i < il
    · rw [if_pos hi] at e
      obtain ⟨k, hk⟩ : ∃ k, il - i = k + 1 := ⟨il - i - 1, by omega⟩
      have hk2 : il - (i + 1) = k := by omega
      rw [hk]
      unfold pc_mok
      by_cases e12 : pc_op (f i) = 12
      · rw [if_pos e12] at e
        rw [if_pos e12]
        by_cases h1 : h = 1
        · rw [if_pos h1] at e
          have ih := pc_iR_mok hw n (i + 1) 0 (by omega) (by omega) e
          rw [hk2] at ih
          exact ⟨h1, ih⟩
        · rw [if_neg h1] at e; cases e
      · rw [if_neg e12] at e
        rw [if_neg e12]
        cases e2 : pc_hA h (pc_op (f i)) false with
        | none => rw [e2] at e; cases e
        | some h' =>
          rw [e2] at e
          have n11 : ¬ pc_op (f i) = 11 := fun q => by rw [q, pc_hA_11f] at e2; cases e2
          obtain ⟨o1, o2⟩ := pc_hA_okw (hw i hi) hh n11 e2
          have ih := pc_iR_mok hw n (i + 1) h' (pc_hA_le hh e2) (by omega) e
          rw [hk2] at ih
          exact ⟨o1, by rw [o2]; exact ih⟩
    · rw [if_neg hi] at e
      rw [show il - i = 0 by omega]
      show h = 1
      simpa using e
/-- from a right place on to the end of its part -/
theorem pc_mok_part {f : Nat → Int32} {il : Nat} : ∀ (k n i h : Nat), k = il - i → i ≤ il → il < i + n → pc_mok f k i h → pc_okf f (pc_next il f 12 n i - i) i h ∧ pc_hs f (pc_next il f 12 n i - i) i h = 1 ∧ (pc_next il f 12 n i < il → pc_mok f (il - (pc_next il f 12 n i + 1)) (pc_next il f 12 n i + 1) 0)
  | k, 0, i, h, hk, hi, hn, _ => absurd hn (by omega)
  | 0, n + 1, i, h, hk, hi, hn, ok => by
    unfold pc_next
    rw [if_neg (by omega), show il - i = 0 by omega]
    exact ⟨trivial, ok, fun z => absurd z (by omega)⟩
  | k + 1, n + 1, i, h, hk, hi, hn, ok => by
    unfold pc_next
    unfold pc_mok at ok
    rw [if_pos (show i < il by omega)]
    by_cases e12 : pc_op (f i) = 12
    · rw [if_pos e12] at ok
      rw [if_pos e12, Nat.sub_self]
      refine ⟨trivial, ok.1, fun _ => ?_⟩
      rw [show il - (i + 1) = k by omega]
      exact ok.2
    · rw [if_neg e12] at ok
      rw [if_neg e12]
      have ih := pc_mok_part (il := il) k n (i + 1) (pc_hw h (f i)) (by omega) (by omega) (by omega) ok.2
      have hb := (pc_next_bd (ln := il) (f := f) (o := 12) n (i + 1) (by omega)).1
      rw [show pc_next il f 12 n (i + 1) - i = (pc_next il f 12 n (i + 1) - (i + 1)) + 1 by omega]
      exact ⟨⟨ok.1, ih.1⟩, ih.2.1, ih.2.2⟩
theorem pc_mok_ps {f : Nat → Int32} {il : Nat} : ∀ (k i h : Nat), k = il - i → i ≤ il → pc_mok f k i h → ∀ j, i ≤ j → j < il → pc_op (f j) = 12 → pc_mok f (il - (j + 1)) (j + 1) 0
  | 0, i, h, hk, hi, ok, j, h1, h2, e => absurd h2 (by omega)
  | k + 1, i, h, hk, hi, ok, j, h1, h2, e => by
    unfold pc_mok at ok
    by_cases e12 : pc_op (f i) = 12
    · rw [if_pos e12] at ok
      by_cases hj : j = i
      · subst hj
        rw [show il - (j + 1) = k by omega]
        exact ok.2
      · exact pc_mok_ps (il := il) k (i + 1) 0 (by omega) (by omega) ok.2 j (by omega) h2 e
    · rw [if_neg e12] at ok
      by_cases hj : j = i
      · subst hj; exact absurd e e12
      · exact pc_mok_ps (il := il) k (i + 1) _ (by omega) (by omega) ok.2 j (by omega) h2 e
theorem pc_mok_at {f : Nat → Int32} {il : Nat} (ok : pc_mok f il 0 0) {i : Nat} (hi : i < il) (hp : pc_ps f i = true) : pc_mok f (il - i) i 0 := by
  unfold pc_ps at hp
  by_cases h0 : i = 0
  · subst h0; exact ok
  · rw [if_neg h0] at hp
    by_cases e : pc_op (f (i - 1)) = 12
    · have := pc_mok_ps (il := il) il 0 0 (by omega) (by omega) ok (i - 1) (by omega) (by omega) e
      rwa [show i - 1 + 1 = i by omega] at this
    · rw [if_neg e] at hp; cases hp
theorem pc_IK_of {il : Nat} {f : Nat → Int32} (ok : pc_mok f il 0 0) : pc_IK il f := by
  intro i hi hp
  have := pc_mok_part (il := il) (il - i) (il + 1) i 0 rfl (by omega) (by omega) (pc_mok_at ok hi hp)
  exact ⟨this.1, this.2.1⟩
/-! the invariant holds: run through, and part by part -/
theorem pc_mh_part {f b : Nat → Int32} {il : Nat} : ∀ (k n i h : Nat) (st : Nat → Int32), k = il - i → i ≤ il → il < i + n → pc_mh f b k i h st = if pc_next il f 12 n i < il then (if (pc_fo f b (pc_next il f 12 n i - i) i h st).2 0 = 0 then false else pc_mh f b (il - (pc_next il f 12 n i + 1)) (pc_next il f 12 n i + 1) 0 (pc_fo f b (pc_next il f 12 n i - i) i h st).2) else (if (pc_fo f b (pc_next il f 12 n i - i) i h st).2 0 = 0 then false else true)
  | k, 0, i, h, st, hk, hi, hn => absurd hn (by omega)
  | 0, n + 1, i, h, st, hk, hi, hn => by
    unfold pc_next
    rw [if_neg (show ¬ i < il by omega), if_neg (by omega), show il - i = 0 by omega]
    rfl
  | k + 1, n + 1, i, h, st, hk, hi, hn => by
    have hnx : pc_next il f 12 (n + 1) i = if i < il then (if pc_op (f i) = 12 then i else pc_next il f 12 n (i + 1)) else il := rfl
    have hmx : pc_mh f b (k + 1) i h st = if pc_op (f i) = 12 then (if st 0 = 0 then false else pc_mh f b k (i + 1) 0 st) else pc_mh f b k (i + 1) (pc_hw h (f i)) (pc_s1 b h st (f i)) := rfl
    rw [hnx, hmx, if_pos (show i < il by omega)]
    by_cases e12 : pc_op (f i) = 12
    · simp only [if_pos e12, Nat.sub_self]
      rw [if_pos (show i < il by omega), show il - (i + 1) = k by omega]
      rfl
    · simp only [if_neg e12]
      have hb := (pc_next_bd (ln := il) (f := f) (o := 12) n (i + 1) (by omega)).1
      rw [pc_mh_part (il := il) k n (i + 1) _ _ (by omega) (by omega) (by omega), show pc_next il f 12 n (i + 1) - i = (pc_next il f 12 n (i + 1) - (i + 1)) + 1 by omega]
      rfl
theorem pc_hd_skip {il : Nat} {f b : Nat → Int32} : ∀ (d n i : Nat), (∀ j, i ≤ j → j < i + d → j < il → pc_ps f j = false) → il < i + n → pc_hd il f b n i = pc_hd il f b (n - d) (i + d) ∨ n < d
  | 0, n, i, h, hn => Or.inl rfl
  | d + 1, 0, i, h, hn => Or.inr (by omega)
  | d + 1, n + 1, i, h, hn => by
    by_cases hi : i < il
    · have h0 := h i (by omega) (by omega) hi
      rcases pc_hd_skip d n (i + 1) (fun j h1 h2 h3 => h j (by omega) (by omega) h3) (by omega) with q | q
      · left
        rw [show n + 1 - (d + 1) = n - d by omega, show i + (d + 1) = i + 1 + d by omega, ← q]
        conv => lhs; unfold pc_hd
        rw [if_pos hi, if_neg (fun z => by rw [h0] at z; cases z.1)]
      · right; omega
    · by_cases hd : n + 1 < d + 1
      · exact Or.inr hd
      · left
        have e1 : pc_hd il f b (n + 1) i = true := by unfold pc_hd; rw [if_neg hi]
        rw [e1]
        cases hz : n + 1 - (d + 1) with
        | zero => rfl
        | succ z => unfold pc_hd; rw [if_neg (by omega)]
theorem pc_hd_end {il : Nat} {f b : Nat → Int32} {n i : Nat} (h : il ≤ i) : pc_hd il f b n i = true := by
  cases n with
  | zero => rfl
  | succ n => unfold pc_hd; rw [if_neg (by omega)]
theorem pc_mh_hd {il : Nat} {f b : Nat → Int32} (ok : pc_mok f il 0 0) : ∀ (m i n : Nat) (st : Nat → Int32), il - i ≤ m → i < il → pc_ps f i = true → il < i + n → pc_mh f b (il - i) i 0 st = pc_hd il f b n i
  | 0, i, n, st, hm, hi, _, _ => absurd hi (by omega)
  | m + 1, i, n, st, hm, hi, hp, hn => by
    obtain ⟨n, rfl⟩ : ∃ q, n = q + 1 := ⟨n - 1, by omega⟩
    have hmk := pc_mok_at ok hi hp
    obtain ⟨p1, p2, p3⟩ := pc_mok_part (il := il) (il - i) (il + 1) i 0 rfl (by omega) (by omega) hmk
    have hbd := pc_next_bd (ln := il) (f := f) (o := 12) (il + 1) i (by omega)
    have hfe := pc_fo_eq (f := f) (b := b) (pc_next il f 12 (il + 1) i - i) i 0 st (fun _ => 0) p1 (fun _ q => absurd q (by omega))
    have hv : (pc_fo f b (pc_next il f 12 (il + 1) i - i) i 0 st).2 0 = pc_rv f b i (pc_pe il f i - i) := hfe.2 0 (by rw [pc_fo_1, p2]; decide)
    rw [pc_mh_part (il := il) (il - i) (il + 1) i 0 st rfl (by omega) (by omega), hv]
    have hR : pc_hd il f b (n + 1) i = if pc_ps f i = true ∧ pc_rv f b i (pc_pe il f i - i) = 0 then false else pc_hd il f b n (i + 1) := by
      show (if i < il then _ else _) = _
      rw [if_pos hi]
    have hnp : ∀ j, i + 1 ≤ j → j < pc_next il f 12 (il + 1) i + 1 → j < il → pc_ps f j = false := by
      intro j h1 h2 h3
      unfold pc_ps
      rw [if_neg (by omega), if_neg (pc_next_lt (ln := il) (il + 1) i (j - 1) (by omega) (by omega) (by omega))]
    by_cases hz : pc_rv f b i (pc_pe il f i - i) = 0
    · rw [hR, if_pos (show pc_ps f i = true ∧ pc_rv f b i (pc_pe il f i - i) = 0 from ⟨hp, hz⟩)]
      simp only [if_pos hz]
      split <;> rfl
    · rw [hR, if_neg (show ¬ (pc_ps f i = true ∧ pc_rv f b i (pc_pe il f i - i) = 0) from fun q => hz q.2)]
      simp only [if_neg hz]
      by_cases hlt : pc_next il f 12 (il + 1) i < il
      · rw [if_pos hlt]
        have hat := pc_next_at (ln := il) (f := f) (o := 12) (il + 1) i hlt
        rcases pc_hd_skip (il := il) (f := f) (b := b) (pc_next il f 12 (il + 1) i - i) n (i + 1) (fun j h1 h2 h3 => hnp j h1 (by omega) h3) (by omega) with q | q
        · rw [q, show i + 1 + (pc_next il f 12 (il + 1) i - i) = pc_next il f 12 (il + 1) i + 1 by omega]
          by_cases hl2 : pc_next il f 12 (il + 1) i + 1 < il
          · exact pc_mh_hd ok m (pc_next il f 12 (il + 1) i + 1) _ _ (by omega) hl2 (by unfold pc_ps; rw [if_neg (by omega), Nat.add_sub_cancel, if_pos hat]) (by omega)
          · exfalso
            have h3 := p3 hlt
            rw [show il - (pc_next il f 12 (il + 1) i + 1) = 0 by omega] at h3
            have h4 : (0 : Nat) = 1 := h3
            omega
        · omega
      · rw [if_neg hlt]
        rcases pc_hd_skip (il := il) (f := f) (b := b) (pc_next il f 12 (il + 1) i - i) n (i + 1) (fun j h1 h2 h3 => hnp j h1 (by omega) h3) (by omega) with q | q
        · rw [q, pc_hd_end (by omega)]
        · omega
theorem pc_mho_ho {il : Nat} {f : Nat → Int32} (ok : pc_mok f il 0 0) (b : Nat → Int32) : pc_mho il f b = pc_ho il f b := by
  by_cases h0 : 0 < il
  · exact pc_mh_hd ok il 0 (il + 1) (fun _ => 0) (by omega) h0 (by simp [pc_ps]) (by omega)
  · exfalso
    rw [show il = 0 by omega] at ok
    have h4 : (0 : Nat) = 1 := ok
    omega
