/-! ===== what the other cases of the law need ===== -/
section LP
variable {f0 Bf : Nat → Int32} {nr : Nat} {ln : Nat → Nat} {Rf : Nat → Int32} {il : Nat} {If : Nat → Int32} {sl : Bool} {z : pc_Z} {ex : Nat} {y : pc_Y} {ey : Nat} {fu : Bool} {t : lw_T}
theorem lw_viJ (h : lw_I f0 Bf nr ln Rf il If sl z ex y ey fu t) (hv : z.2.2.2.2.2.1 = true) : lw_J f0 Bf nr ln Rf il If z ex y ey fu t := by
  apply h.2.2.2
  cases sl
  · have := (h.2.2.1 rfl).2.1
    rw [hv] at this
    cases this
  · rfl
theorem lw_viT (h : lw_I f0 Bf nr ln Rf il If sl z ex y ey fu t) (hv : z.2.2.2.2.2.1 = true) : ∃ (bs : Nat → Nat → Int32) (qs : Nat → Nat), pc_ok3 nr ln (pc_rr Rf) Bf y.2.1 y.2.2.1 f0 y.2.2.2 t.1 bs qs ∧ pc_tl y.2.2.1 401 0 y.2.2.2 = t.1 + 1 ∧ pc_vc y.2.2.1 y.1 t.1 y.2.2.2 ∧ (∀ j, j ≤ t.1 → pc_q6 (pc_stt t.2.2.2 j) (bs j)) ∧ (∀ j, j < t.1 → t.2.2.1 j = nI (qs j)) ∧ pc_pok y.1 y.2.2.1 ∧ pc_bok y.1 y.2.2.2 ∧ y.1 ≤ 400 := by
  obtain ⟨hRK, hmk, hCL, ⟨hSI, hRL, -⟩, hT⟩ := lw_viJ h hv
  obtain ⟨bs, qs, a1, a2, a3, a4, a5, a6⟩ := hT hv
  refine ⟨bs, qs, ?_, ?_, ?_, a5, a6, ?_, ?_, ?_⟩
  · rw [hRL.2.1, hRL.2.2.1, hRL.2.2.2, if_pos hv]; exact a1
  · rw [hRL.2.2.1, hRL.2.2.2, if_pos hv]; exact a2
  · rw [hRL.1, hRL.2.2.1, hRL.2.2.2, if_pos hv]; exact a3
  · rw [hRL.1, hRL.2.2.1]; exact pc_SI_pok hSI
  · rw [hRL.1, hRL.2.2.2, if_pos hv]
    exact Or.inr ⟨z.1 - 1, by have := hSI.1; omega, rfl⟩
  · rw [hRL.1]; exact hSI.2.1
theorem lw_feedF {q : Nat} {x : Int32} (hx : pc_isW x = true ∧ ¬ 32 ≤ ln q) : ∀ r, r < 12 → ∀ i, i < 32 → (if r = q then pc_fw (ln q) (pc_rr Rf q) x else pc_rr Rf r) i = pc_rr (upd Rf (32 * q + ln q) x) r i := by
  intro r hr i hi
  show _ = upd Rf (32 * q + ln q) x (32 * r + i)
  by_cases e : r = q
  · subst e
    rw [if_pos rfl]
    unfold pc_fw
    rw [if_pos hx]
    unfold upd
    by_cases e2 : i = ln r
    · rw [if_pos e2, if_pos (by omega)]
    · rw [if_neg e2, if_neg (by omega)]
      rfl
  · rw [if_neg e]
    unfold upd
    rw [if_neg (by omega)]
    rfl
theorem lw_feedF0 {q : Nat} {x : Int32} (hx : ¬ (pc_isW x = true ∧ ¬ 32 ≤ ln q)) : ∀ r, r < 12 → ∀ i, i < 32 → (if r = q then pc_fw (ln q) (pc_rr Rf q) x else pc_rr Rf r) i = pc_rr Rf r i := by
  intro r hr i hi
  by_cases e : r = q
  · subst e
    rw [if_pos rfl]
    unfold pc_fw
    rw [if_neg hx]
  · rw [if_neg e]
theorem lw_ul_id (q : Nat) : pc_ul ln q (ln q) = ln := by
  funext r
  unfold pc_ul
  split
  · rename_i e; rw [e]
  · rfl
end LP
