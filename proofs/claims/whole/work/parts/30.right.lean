/-! ===== the two ways of finding a description right ===== -/
theorem pc_op_nI (w : Int32) : ∃ j : Nat, j < 256 ∧ pc_op w = nI j := by
  obtain ⟨j, h1, h2⟩ := pk_andE w (m := 255) 8 (by decide)
  exact ⟨j, by simpa using h1, h2⟩
theorem pc_op12 {w : Int32} (h : pc_isW w = true) : ∃ j : Nat, j ≤ 12 ∧ pc_op w = nI j := by
  obtain ⟨j, h1, h2⟩ := pc_op_nI w
  refine ⟨j, ?_, h2⟩
  rcases Nat.lt_or_ge 12 j with z | z
  · exfalso
    have h12 : (12 : Int32) < pc_op w := by rw [h2]; exact nI_lt (a := 12) z (by omega)
    have e0 : ¬ pc_op w = 0 := fun q => by rw [q] at h12; exact absurd h12 (by decide)
    have e1 : ¬ pc_op w = 1 := fun q => by rw [q] at h12; exact absurd h12 (by decide)
    have e11 : ¬ pc_op w = 11 := fun q => by rw [q] at h12; exact absurd h12 (by decide)
    simp [pc_isW, e0, e1, e11, h12] at h
  · exact z
theorem pc_op13 {w : Int32} (h : pc_isW w = true) : pc_op w = 0 ∨ pc_op w = 1 ∨ pc_bo (pc_op w) ∨ pc_op w = 9 ∨ pc_op w = 10 ∨ pc_op w = 11 ∨ pc_op w = 12 := by
  obtain ⟨j, h1, h2⟩ := pc_op12 h
  have h3 : j = 0 ∨ j = 1 ∨ (j = 2 ∨ j = 3 ∨ j = 4 ∨ j = 5 ∨ j = 6 ∨ j = 7 ∨ j = 8) ∨ j = 9 ∨ j = 10 ∨ j = 11 ∨ j = 12 := by omega
  unfold pc_bo
  rw [h2]
  rcases h3 with rfl | rfl | (rfl | rfl | rfl | rfl | rfl | rfl | rfl) | rfl | rfl | rfl | rfl <;> decide
theorem pc_isW_k {w : Int32} (h : pc_isW w = true) (e : pc_op w = 1 ∨ pc_op w = 11) : pc_isV (pc_k w) = true := by
  rcases e with e | e
  · simpa [pc_isW, e] using h
  · simpa [pc_isW, e] using h
theorem pc_hAB {h : Nat} {o : Int32} {m : Bool} (e : o = 0 ∨ o = 1 ∨ pc_bo o ∨ o = 9 ∨ o = 12) : pc_hA h o m = pc_hB h o := by
  unfold pc_bo at e
  rcases e with rfl | rfl | (rfl | rfl | rfl | rfl | rfl | rfl | rfl) | rfl | rfl <;> simp [pc_hA, pc_hB] <;> rfl
theorem pc_hA_10 (h : Nat) (m : Bool) : pc_hA h 10 m = none := by simp [pc_hA]
theorem pc_hA_12 (h : Nat) (m : Bool) : pc_hA h 12 m = none := by simp [pc_hA]
theorem pc_hB_10 (h : Nat) : pc_hB h 10 = none := by simp [pc_hB]
theorem pc_hB_11 (h : Nat) : pc_hB h 11 = none := by simp [pc_hB]
theorem pc_hA_11f (h : Nat) : pc_hA h 11 false = none := by simp [pc_hA]
theorem pc_hA_11t (h : Nat) : pc_hA h 11 true = if h < 1 then none else some (h - 1) := by simp [pc_hA]
theorem pc_rR_mR {ln : Nat} {f : Nat → Int32} (hw : ∀ j, j < ln → pc_isW (f j) = true) : ∀ (n i : Nat) (bt : Bool) (h : Nat), pc_rR ln f n i bt h = pc_mR ln f n i (if bt then 1 else 0) h
  | 0, i, bt, h => rfl
  | n + 1, i, bt, h => by
    unfold pc_rR pc_mR
    by_cases hi : i < ln
    · rw [if_pos hi, if_pos hi]
      rcases pc_op13 (hw i hi) with e | e | e | e | e | e | e
      · rw [if_neg (fun q => absurd (e.symm.trans q.1) (by decide)), if_neg (by rw [e]; decide), if_neg (by rw [e]; decide), pc_hAB (Or.inl e)]
        cases pc_hB h (pc_op (f i)) with
        | none => rfl
        | some h' => exact pc_rR_mR hw n (i + 1) bt h'
      · rw [if_neg (fun q => absurd (e.symm.trans q.1) (by decide)), if_neg (by rw [e]; decide), if_neg (by rw [e]; decide), pc_hAB (Or.inr (Or.inl e))]
        cases pc_hB h (pc_op (f i)) with
        | none => rfl
        | some h' => exact pc_rR_mR hw n (i + 1) bt h'
      · have e10 : ¬ pc_op (f i) = 10 := fun q => by rw [q] at e; revert e; unfold pc_bo; decide
        rw [if_neg (fun q => e10 q.1), if_neg e10, if_neg (pc_bo_11 e), pc_hAB (Or.inr (Or.inr (Or.inl e)))]
        cases pc_hB h (pc_op (f i)) with
        | none => rfl
        | some h' => exact pc_rR_mR hw n (i + 1) bt h'
      · rw [if_neg (fun q => absurd (e.symm.trans q.1) (by decide)), if_neg (by rw [e]; decide), if_neg (by rw [e]; decide), pc_hAB (Or.inr (Or.inr (Or.inr (Or.inl e))))]
        cases pc_hB h (pc_op (f i)) with
        | none => rfl
        | some h' => exact pc_rR_mR hw n (i + 1) bt h'
      · cases bt with
        | false =>
          simp only [e, and_self, if_true, Bool.false_eq_true, if_false]
          rw [if_neg (show ¬ (0 = 1) by decide)]
          by_cases h1 : h = 1
          · rw [if_pos h1, if_pos h1]; exact pc_rR_mR hw n (i + 1) true 0
          · rw [if_neg h1, if_neg h1]
        | true =>
          simp only [e, if_true]
          rw [if_neg (by decide), pc_hA_10]
      · cases bt with
        | false =>
          rw [if_neg (by rw [e]; decide), if_neg (by rw [e]; decide), if_pos e, e, pc_hA_11f]
          rfl
        | true =>
          rw [if_neg (by rw [e]; decide), if_neg (by rw [e]; decide), if_pos e, e, pc_hA_11t]
          simp only [if_true]
          rw [if_neg (show ¬ (1 = 0) by decide)]
          by_cases h1 : h < 1
          · rw [if_pos h1, if_pos h1]
          · rw [if_neg h1, if_neg h1]; exact pc_rR_mR hw n (i + 1) true (h - 1)
      · rw [if_neg (fun q => absurd (e.symm.trans q.1) (by decide)), if_neg (by rw [e]; decide), if_neg (by rw [e]; decide), pc_hAB (Or.inr (Or.inr (Or.inr (Or.inr e))))]
        cases pc_hB h (pc_op (f i)) with
        | none => rfl
        | some h' => exact pc_rR_mR hw n (i + 1) bt h'
    · rw [if_neg hi, if_neg hi]
      cases bt <;> simp
theorem pc_iR_mI {ln : Nat} {f : Nat → Int32} (hw : ∀ j, j < ln → pc_isW (f j) = true) : ∀ (n i h : Nat), pc_iR ln f n i h = pc_mI ln f n i h
  | 0, i, h => rfl
  | n + 1, i, h => by
    unfold pc_iR pc_mI
    by_cases hi : i < ln
    · rw [if_pos hi, if_pos hi]
      by_cases e12 : pc_op (f i) = 12
      · rw [if_pos e12, if_pos e12]
        by_cases h1 : h = 1
        · rw [if_pos h1, if_pos h1]; exact pc_iR_mI hw n (i + 1) 0
        · rw [if_neg h1, if_neg h1]
      · rw [if_neg e12, if_neg e12]
        have key : pc_hA h (pc_op (f i)) false = pc_hB h (pc_op (f i)) := by
          rcases pc_op13 (hw i hi) with e | e | e | e | e | e | e
          · exact pc_hAB (Or.inl e)
          · exact pc_hAB (Or.inr (Or.inl e))
          · exact pc_hAB (Or.inr (Or.inr (Or.inl e)))
          · exact pc_hAB (Or.inr (Or.inr (Or.inr (Or.inl e))))
          · rw [e, pc_hA_10, pc_hB_10]
          · rw [e, pc_hA_11f, pc_hB_11]
          · exact pc_hAB (Or.inr (Or.inr (Or.inr (Or.inr e))))
        rw [key]
        cases pc_hB h (pc_op (f i)) with
        | none => rfl
        | some h' => exact pc_iR_mI hw n (i + 1) h'
    · rw [if_neg hi, if_neg hi]
theorem pc_aR_sR {nr : Nat} {ln : Nat → Nat} {R : Nat → Int32} (hw : ∀ r, r < nr → ∀ j, j < ln r → pc_isW (pc_rr R r j) = true) : ∀ (n r : Nat), pc_aR nr ln (pc_rr R) n r = pc_sR nr ln R n r
  | 0, r => rfl
  | n + 1, r => by
    unfold pc_aR pc_sR
    by_cases hr : r < nr
    · rw [if_pos hr, if_pos hr, pc_rR_mR (hw r hr), pc_aR_sR hw n (r + 1)]
      rfl
    · rw [if_neg hr, if_neg hr]
/-! exchanges -/
theorem pc_ti_mb {m : Nat} {f g : Nat → Int32} {u v : Int32} : ∀ (n i : Nat), pc_ti (pc_at m f) (pc_at m g) m 0 0 u v n i = pc_mb m f g u v n i
  | 0, i => rfl
  | n + 1, i => by
    unfold pc_ti pc_mb
    by_cases hi : i < m
    · rw [if_pos hi, if_pos hi, Nat.zero_add, pc_ti_mb n (i + 1)]
      simp only [pc_at, if_pos hi]
    · rw [if_neg hi, if_neg hi]
theorem pc_hX_mA {nr : Nat} {ln : Nat → Nat} {R : Nat → Int32} {q : Nat} {u v : Int32} : ∀ (n r : Nat), pc_hX nr ln (pc_rr R) q u v n r = pc_mA nr ln R q u v n r
  | 0, r => rfl
  | n + 1, r => by
    unfold pc_hX pc_mA
    by_cases hr : r < nr
    · rw [if_pos hr, if_pos hr, pc_hX_mA n (r + 1)]
      unfold pc_mB
      by_cases hl : ln r = ln q
      · rw [if_pos hl.symm, hl, pc_ti_mb]
        simp only [true_and]
      · rw [if_neg (fun z => hl z.1)]
        simp [show ¬ ln q = ln r from fun z => hl z.symm]
    · rw [if_neg hr, if_neg hr]
theorem pc_bX_mX1 {nr : Nat} {ln : Nat → Nat} {R : Nat → Int32} {u v : Int32} : ∀ (n r : Nat), pc_bX nr ln (pc_rr R) u v n r = pc_mX1 nr ln R u v n r
  | 0, r => rfl
  | n + 1, r => by
    unfold pc_bX pc_mX1
    by_cases hr : r < nr
    · rw [if_pos hr, if_pos hr, pc_bX_mX1 n (r + 1), pc_hX_mA]
    · rw [if_neg hr, if_neg hr]
theorem pc_ti_mp {il m p q : Nat} {f : Nat → Int32} {u v : Int32} (hp : p + m ≤ il) (hq : q + m ≤ il) : ∀ (n i : Nat), pc_ti (pc_at il f) (pc_at il f) m p q u v n i = pc_mp m p q f u v n i
  | 0, i => rfl
  | n + 1, i => by
    unfold pc_ti pc_mp
    by_cases hi : i < m
    · rw [if_pos hi, if_pos hi, pc_ti_mp hp hq n (i + 1)]
      simp only [pc_at, if_pos (show p + i < il by omega), if_pos (show q + i < il by omega)]
    · rw [if_neg hi, if_neg hi]
theorem pc_hE_mP {il : Nat} {f : Nat → Int32} {p : Nat} {u v : Int32} (hp : p ≤ il) : ∀ (n i : Nat), pc_hE il f p u v n i = pc_mP il f p u v n i
  | 0, i => rfl
  | n + 1, i => by
    unfold pc_hE pc_mP
    by_cases hi : i < il
    · rw [if_pos hi, if_pos hi, pc_hE_mP hp n (i + 1)]
      unfold pc_mQ
      have b1 := pc_pe_bd (ln := il) (f := f) hp
      have b2 := pc_pe_bd (ln := il) (f := f) (i := i) (by omega)
      by_cases hl : pc_pe il f i - i = pc_pe il f p - p
      · rw [if_pos hl, pc_ti_mp (by omega) (by omega)]
        simp only [hl, true_and]
      · rw [if_neg hl, if_neg (fun z => hl z.2.1), if_neg (fun z => by cases z.2)]
    · rw [if_neg hi, if_neg hi]
theorem pc_bE_mX2 {il : Nat} {f : Nat → Int32} {u v : Int32} : ∀ (n i : Nat), pc_bE il f u v n i = pc_mX2 il f u v n i
  | 0, i => rfl
  | n + 1, i => by
    unfold pc_bE pc_mX2
    by_cases hi : i < il
    · rw [if_pos hi, if_pos hi, pc_bE_mX2 n (i + 1), pc_hE_mP (by omega)]
    · rw [if_neg hi, if_neg hi]
theorem pc_bi_nbi {nr : Nat} {ln : Nat → Nat} {R B : Nat → Int32} {il : Nat} {iv : Nat → Int32} {a : Nat} : ∀ (n b : Nat), pc_bi nr ln (pc_rr R) B il iv a n b = pc_nbi nr ln R B il iv a n b
  | 0, b => rfl
  | n + 1, b => by
    unfold pc_bi pc_nbi
    by_cases hb : b < 6
    · rw [if_pos hb, if_pos hb, pc_bi_nbi n (b + 1), pc_bX_mX1, pc_bE_mX2]
      have key : (pc_jn B a b = true ∧ ¬ (pc_mX1 nr ln R (nI a) (nI b) (nr + 1) 0 = true ∧ pc_mX2 il iv (nI a) (nI b) (il + 1) 0 = true)) ↔ (¬ B a = 0 ∧ B a = B b ∧ pc_mX nr ln R il iv (nI a) (nI b) = false) := by
        unfold pc_jn pc_mX
        by_cases h0 : B a = 0
        · simp [h0]
        · by_cases h1 : B a = B b
          · rw [if_neg h0, if_pos h1]
            cases pc_mX1 nr ln R (nI a) (nI b) (nr + 1) 0 <;> cases pc_mX2 il iv (nI a) (nI b) (il + 1) 0 <;> simp [h1] <;> (intro z; exact h0 (h1.trans z))
          · simp [h0, h1]
      simp only [key]
    · rw [if_neg hb, if_neg hb]
theorem pc_ba_nba {nr : Nat} {ln : Nat → Nat} {R B : Nat → Int32} {il : Nat} {iv : Nat → Int32} : ∀ (n a : Nat), pc_ba nr ln (pc_rr R) B il iv n a = pc_nba nr ln R B il iv n a
  | 0, a => rfl
  | n + 1, a => by
    unfold pc_ba pc_nba
    by_cases ha : a < 6
    · rw [if_pos ha, if_pos ha, pc_ba_nba n (a + 1), pc_bi_nbi]
    · rw [if_neg ha, if_neg ha]
