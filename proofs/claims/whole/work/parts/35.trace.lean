/-! ===== the counterexample ===== -/
def pc_CH (P : Nat → Int32) : Nat → Nat → Prop
  | 0, s => s = 0
  | d + 1, s => 0 < s ∧ ∃ p, p < s ∧ P s = nI p ∧ pc_CH P d p
theorem pc_CH_ex {ct : Nat} {P : Nat → Int32} (h : ∀ s, 0 < s → s < ct → ∃ p, p < s ∧ P s = nI p) : ∀ (n s : Nat), s < n → s < ct → ∃ d, d ≤ s ∧ pc_CH P d s
  | 0, s, hn, _ => absurd hn (by omega)
  | n + 1, s, hn, hs => by
    by_cases h0 : s = 0
    · exact ⟨0, by omega, h0⟩
    · obtain ⟨p, p1, p2⟩ := h s (by omega) hs
      obtain ⟨d, d1, d2⟩ := pc_CH_ex h n p (by omega) (by omega)
      exact ⟨d + 1, by omega, by omega, p, p1, p2, d2⟩
theorem pc_CH_vc {ct : Nat} {P : Nat → Int32} : ∀ (d s : Nat), s < ct → pc_CH P d s → pc_vc P ct d (nI s)
  | 0, s, hs, _ => ⟨s, hs, rfl⟩
  | d + 1, s, hs, h => by
    obtain ⟨h0, p, p1, p2, p3⟩ := h
    exact ⟨s, hs, rfl, by rw [p2]; exact pc_CH_vc d p (by omega) p3⟩
theorem pc_CH_tl {P : Nat → Int32} (h0 : P 0 = -1) : ∀ (d s n k : Nat), s < 400 → pc_CH P d s → k + d < 400 → 400 < k + n → pc_tl P n k (nI s) = k + d + 1
  | d, s, 0, k, _, _, h1, h2 => absurd h2 (by omega)
  | 0, s, n + 1, k, hs, h, h1, h2 => by
    have hs0 : s = 0 := h
    subst hs0
    have e : pc_tl P (n + 1) k (nI 0) = if k < 400 then (if nI 0 < 0 then k else pc_tl P n (k + 1) (P (nI 0).toNatClampNeg)) else k := rfl
    rw [e, if_pos (by omega), if_neg (nI_pos (by omega)), nI_clamp (by omega), h0]
    cases n with
    | zero => omega
    | succ n =>
      unfold pc_tl
      split
      · rw [if_pos (by decide)]
      · rfl
  | d + 1, s, n + 1, k, hs, h, h1, h2 => by
    obtain ⟨_, p, p1, p2, p3⟩ := h
    have e : pc_tl P (n + 1) k (nI s) = if k < 400 then (if nI s < 0 then k else pc_tl P n (k + 1) (P (nI s).toNatClampNeg)) else k := rfl
    rw [e, if_pos (by omega), if_neg (nI_pos (by omega)), nI_clamp (by omega), p2, pc_CH_tl h0 d p n (k + 1) (by omega) p3 (by omega) (by omega)]
    omega
theorem pc_par_at {ct s : Nat} {P : Nat → Int32} (h : s < ct) (hc : ct ≤ 400) : pc_par ct P (nI s) = P s := by
  unfold pc_par
  rw [if_pos (pc_has_t h (by omega)), nI_clamp (by omega)]
theorem pc_CH_sp {ct : Nat} {P : Nat → Int32} (hc : ct ≤ 400) (h0 : P 0 = -1) : ∀ (d s n k : Nat), s < ct → pc_CH P d s → k + d ≤ 399 → 399 < k + n → pc_sp ct P n k (nI s) = k + d
  | d, s, 0, k, _, _, h1, h2 => absurd h2 (by omega)
  | 0, s, n + 1, k, hs, h, h1, h2 => by
    have hs0 : s = 0 := h
    subst hs0
    unfold pc_sp
    split
    · rw [pc_par_at hs hc, if_pos h0]; rfl
    · rfl
  | d + 1, s, n + 1, k, hs, h, h1, h2 => by
    obtain ⟨_, p, p1, p2, p3⟩ := h
    have e : pc_sp ct P (n + 1) k (nI s) = if k < 399 then (if pc_par ct P (nI s) = -1 then k else pc_sp ct P n (k + 1) (pc_par ct P (nI s))) else k := rfl
    rw [e, if_pos (by omega), pc_par_at hs hc, p2, if_neg (pc_m1 (by omega)), pc_CH_sp hc h0 d p n (k + 1) (by omega) p3 (by omega) (by omega)]
    omega
theorem pc_it_succ (P : Nat → Int32) : ∀ (j : Nat) (s : Int32), pc_it P (j + 1) s = P (pc_it P j s).toNatClampNeg
  | 0, s => rfl
  | j + 1, s => pc_it_succ P j (P s.toNatClampNeg)
theorem pc_CH_it {P : Nat → Int32} {ct : Nat} (hc : ct ≤ 400) : ∀ (j d s : Nat), s < ct → pc_CH P d s → j ≤ d → ∃ q, q < ct ∧ pc_it P j (nI s) = nI q ∧ pc_CH P (d - j) q
  | 0, d, s, hs, h, _ => ⟨s, hs, rfl, h⟩
  | j + 1, 0, s, hs, h, hj => absurd hj (by omega)
  | j + 1, d + 1, s, hs, h, hj => by
    obtain ⟨_, p, p1, p2, p3⟩ := h
    obtain ⟨q, q1, q2, q3⟩ := pc_CH_it hc j d p (by omega) p3 (by omega)
    refine ⟨q, q1, ?_, by rw [show d + 1 - (j + 1) = d - j by omega]; exact q3⟩
    show pc_it P j (P (nI s).toNatClampNeg) = nI q
    rw [nI_clamp (by omega), p2]
    exact q2
theorem pc_CH_wl {P : Nat → Int32} {ct : Nat} (hc : ct ≤ 400) : ∀ (d s : Nat) (W : Nat → Int32), s < ct → pc_CH P d s → ∀ i, (i ≤ d → pc_wl ct P (d + 1) (nI s) W i = pc_it P (d - i) (nI s)) ∧ (d < i → pc_wl ct P (d + 1) (nI s) W i = W i)
  | 0, s, W, hs, h, i => by
    show (_ → upd W 0 (nI s) i = _) ∧ (_ → upd W 0 (nI s) i = _)
    unfold upd
    constructor
    · intro hi; rw [if_pos (by omega), show 0 - i = 0 by omega]; rfl
    · intro hi; rw [if_neg (by omega)]
  | d + 1, s, W, hs, h, i => by
    obtain ⟨_, p, p1, p2, p3⟩ := h
    have e : pc_wl ct P (d + 1 + 1) (nI s) W = pc_wl ct P (d + 1) (pc_par ct P (nI s)) (upd W (d + 1) (nI s)) := rfl
    rw [e, pc_par_at hs hc, p2]
    obtain ⟨i1, i2⟩ := pc_CH_wl hc d p (upd W (d + 1) (nI s)) (by omega) p3 i
    constructor
    · intro hi
      by_cases hd : i = d + 1
      · subst hd
        rw [i2 (by omega), Nat.sub_self]
        simp [upd, pc_it]
      · rw [i1 (by omega), show d + 1 - i = (d - i) + 1 by omega]
        show _ = pc_it P (d - i) (P (nI s).toNatClampNeg)
        rw [nI_clamp (by omega), p2]
    · intro hi
      rw [i2 (by omega)]
      unfold upd
      rw [if_neg (by omega)]
/-! the rule that is found -/
theorem pc_mfn_some {nr : Nat} {ln : Nat → Nat} {F : Nat → Nat → Int32} {B V b : Nat → Int32} {s : Nat} : ∀ (n r : Nat), nr < r + n → (∃ q, r ≤ q ∧ q < nr ∧ pc_mf (ln q) (F q) b = true ∧ pc_e6 V s (pc_sf B (pc_af (ln q) (F q) b)) 7 0 = true) → ∃ q, q < nr ∧ pc_mfn nr ln F B V b s n r = some q ∧ pc_mf (ln q) (F q) b = true ∧ pc_e6 V s (pc_sf B (pc_af (ln q) (F q) b)) 7 0 = true
  | 0, r, h, ⟨q, h1, h2, _⟩ => absurd h2 (by omega)
  | n + 1, r, h, ⟨q, h1, h2, h3, h4⟩ => by
    unfold pc_mfn
    rw [if_pos (show r < nr by omega)]
    by_cases hc : pc_mf (ln r) (F r) b = true ∧ pc_e6 V s (pc_sf B (pc_af (ln r) (F r) b)) 7 0 = true
    · rw [if_pos hc]
      exact ⟨r, by omega, rfl, hc.1, hc.2⟩
    · rw [if_neg hc]
      refine pc_mfn_some n (r + 1) (by omega) ⟨q, ?_, h2, h3, h4⟩
      by_cases hq : q = r
      · subst hq; exact absurd ⟨h3, h4⟩ hc
      · omega
theorem pc_fn_mfn {nr : Nat} {ln : Nat → Nat} {F : Nat → Nat → Int32} {B b b' : Nat → Int32} {z : pc_Z} {s : Nat} (hR : ∀ r, r < nr → pc_RK (ln r) (F r)) (hc : z.1 ≤ 400) (hH : pc_HC z.1 z.2.1 z.2.2.2.1 z.2.2.2.2.1) (hD : pc_DS z.1 z.2.1) (hs : s < z.1) (hb : pc_q6 b b') : ∀ (n r : Nat), pc_fn nr ln F B z b (nI s) n r = pc_mfn nr ln F B z.2.1 b' s n r
  | 0, r => rfl
  | n + 1, r => by
    unfold pc_fn pc_mfn
    by_cases hr : r < nr
    · rw [if_pos hr, if_pos hr, pc_fn_mfn hR hc hH hD hs hb n (r + 1), pc_mf_b (hR r hr) hb]
      have e : (pc_fdz z (pc_sf B (pc_af (ln r) (F r) b)) = nI s) ↔ pc_e6 z.2.1 s (pc_sf B (pc_af (ln r) (F r) b')) 7 0 = true := by
        rw [pc_fdz_eq hc hH hD hs, pc_e6_iff, pc_e6_iff]
        have := pc_sf_b (B := B) (pc_af_b (hR r hr) hb)
        constructor
        · intro q v hv; rw [q v hv]; exact this v hv
        · intro q v hv; rw [q v hv]; exact (this v hv).symm
      simp only [e]
    · rw [if_neg hr, if_neg hr]
/-- the states of the counterexample -/
def pc_tb (nr : Nat) (ln : Nat → Nat) (F : Nat → Nat → Int32) (B V P f0 : Nat → Int32) (br : Int32) (tl : Nat) : Nat → (Nat → Int32)
  | 0 => f0
  | k + 1 => match pc_mfn nr ln F B V (pc_tb nr ln F B V P f0 br tl k) (pc_it P (tl - (k + 1)) br).toNatClampNeg (nr + 1) 0 with
    | none => pc_tb nr ln F B V P f0 br tl k
    | some q => pc_af (ln q) (F q) (pc_tb nr ln F B V P f0 br tl k)
def pc_tq (nr : Nat) (ln : Nat → Nat) (F : Nat → Nat → Int32) (B V P f0 : Nat → Int32) (br : Int32) (tl k : Nat) : Nat := (pc_mfn nr ln F B V (pc_tb nr ln F B V P f0 br tl k) (pc_it P (tl - (k + 1)) br).toNatClampNeg (nr + 1) 0).getD 0
theorem pc_tb_ok {nr : Nat} {ln : Nat → Nat} {F : Nat → Nat → Int32} {B f0 : Nat → Int32} {z : pc_Z} {tl s : Nat} (hC : pc_CL nr ln F B) (hR : ∀ r, r < nr → pc_RK (ln r) (F r)) (hz : pc_SI nr ln F B f0 z) (hs : s < z.1) (hch : pc_CH z.2.2.1 tl s) : ∀ k, k ≤ tl → pc_q6 (pc_sf B (pc_tb nr ln F B z.2.1 z.2.2.1 f0 (nI s) tl k)) (pc_stt z.2.1 (pc_it z.2.2.1 (tl - k) (nI s)).toNatClampNeg) ∧ (∀ j, j < k → ∃ q, q < nr ∧ pc_mfn nr ln F B z.2.1 (pc_tb nr ln F B z.2.1 z.2.2.1 f0 (nI s) tl j) (pc_it z.2.2.1 (tl - (j + 1)) (nI s)).toNatClampNeg (nr + 1) 0 = some q)
  | 0, hk => by
    obtain ⟨q, q1, q2, q3⟩ := pc_CH_it hz.2.1 tl tl s hs hch (Nat.le_refl _)
    rw [Nat.sub_self] at q3
    have q0 : q = 0 := q3
    subst q0
    refine ⟨?_, fun j hj => absurd hj (by omega)⟩
    rw [Nat.sub_zero, q2, nI_clamp (by omega)]
    exact hz.2.2.2.2.2.1.symm
  | k + 1, hk => by
    obtain ⟨ih1, ih2⟩ := pc_tb_ok hC hR hz hs hch k (by omega)
    obtain ⟨p, p1, p2, p3⟩ := pc_CH_it hz.2.1 (tl - (k + 1)) tl s hs hch (by omega)
    have hct := hz.2.1
    rw [show tl - (tl - (k + 1)) = k + 1 by omega] at p3
    obtain ⟨p0, -⟩ := p3
    obtain ⟨pp, pp1, pp2, r, r1, r2, r3⟩ := hz.2.2.2.2.2.2 p p0 p1
    have e1 : pc_it z.2.2.1 (tl - k) (nI s) = nI pp := by
      rw [show tl - k = (tl - (k + 1)) + 1 by omega, pc_it_succ, p2, nI_clamp (by omega), pp2]
    rw [e1, nI_clamp (by omega)] at ih1
    have hl := pc_lift (x := pc_tb nr ln F B z.2.1 z.2.2.1 f0 (nI s) tl k) (S := pc_stt z.2.1 p) hC hR ⟨r, r1, by rw [pc_mf_b (hR r r1) ih1]; exact r2, (pc_sf_b (pc_af_b (hR r r1) ih1)).trans r3.symm⟩
    obtain ⟨r', l1, l2, l3⟩ := hl
    obtain ⟨q, q1, q2, q3, q4⟩ := pc_mfn_some (nr := nr) (ln := ln) (F := F) (B := B) (V := z.2.1) (b := pc_tb nr ln F B z.2.1 z.2.2.1 f0 (nI s) tl k) (s := p) (nr + 1) 0 (by omega) ⟨r', by omega, l1, l2, pc_e6_iff.mpr (fun v hv => (l3 v hv).symm)⟩
    have q2' : pc_mfn nr ln F B z.2.1 (pc_tb nr ln F B z.2.1 z.2.2.1 f0 (nI s) tl k) (pc_it z.2.2.1 (tl - (k + 1)) (nI s)).toNatClampNeg (nr + 1) 0 = some q := by rw [p2, nI_clamp (by omega)]; exact q2
    have e2 : pc_tb nr ln F B z.2.1 z.2.2.1 f0 (nI s) tl (k + 1) = pc_af (ln q) (F q) (pc_tb nr ln F B z.2.1 z.2.2.1 f0 (nI s) tl k) := by
      show (match pc_mfn nr ln F B z.2.1 (pc_tb nr ln F B z.2.1 z.2.2.1 f0 (nI s) tl k) (pc_it z.2.2.1 (tl - (k + 1)) (nI s)).toNatClampNeg (nr + 1) 0 with | none => _ | some q => _) = _
      rw [q2']
    refine ⟨?_, fun j hj => ?_⟩
    · rw [e2, p2, nI_clamp (by omega)]
      exact fun v hv => (pc_e6_iff.mp q4 v hv).symm
    · by_cases hjk : j = k
      · subst hjk; exact ⟨q, q1, q2'⟩
      · exact ih2 j (by omega)
theorem pc_ok3_of {nr : Nat} {ln : Nat → Nat} {F : Nat → Nat → Int32} {B f0 : Nat → Int32} {z : pc_Z} {tl s : Nat} (hC : pc_CL nr ln F B) (hR : ∀ r, r < nr → pc_RK (ln r) (F r)) (hz : pc_SI nr ln F B f0 z) (hs : s < z.1) (hch : pc_CH z.2.2.1 tl s) : pc_ok3 nr ln F B z.2.1 z.2.2.1 f0 (nI s) tl (pc_tb nr ln F B z.2.1 z.2.2.1 f0 (nI s) tl) (pc_tq nr ln F B z.2.1 z.2.2.1 f0 (nI s) tl) := by
  refine ⟨rfl, fun k hk => ?_⟩
  obtain ⟨q, q1, q2⟩ := (pc_tb_ok hC hR hz hs hch tl (Nat.le_refl _)).2 k hk
  have e1 : pc_tq nr ln F B z.2.1 z.2.2.1 f0 (nI s) tl k = q := by unfold pc_tq; rw [q2]; rfl
  rw [e1]
  refine ⟨q1, q2, ?_⟩
  show (match pc_mfn nr ln F B z.2.1 (pc_tb nr ln F B z.2.1 z.2.2.1 f0 (nI s) tl k) (pc_it z.2.2.1 (tl - (k + 1)) (nI s)).toNatClampNeg (nr + 1) 0 with | none => _ | some q => _) = _
  rw [q2]
/-- the class lays the same -/
theorem pc_lt_ok {nr : Nat} {ln : Nat → Nat} {F : Nat → Nat → Int32} {B f0 W : Nat → Int32} {z : pc_Z} {tl s : Nat} {bs : Nat → Nat → Int32} {qs : Nat → Nat} (hR : ∀ r, r < nr → pc_RK (ln r) (F r)) (hz : pc_SI nr ln F B f0 z) (hs : s < z.1) (hch : pc_CH z.2.2.1 tl s) (h3 : pc_ok3 nr ln F B z.2.1 z.2.2.1 f0 (nI s) tl bs qs) (hW : ∀ i, i ≤ tl → W i = pc_it z.2.2.1 (tl - i) (nI s)) : ∀ (n i : Nat) (D T : Nat → Int32), tl ≤ i + n → i ≤ tl → (∀ j, j ≤ i → pc_q6 (pc_stt T j) (bs j)) → (∀ j, j < i → D j = nI (qs j)) → (∀ j, j ≤ tl → pc_q6 (pc_stt (pc_lt nr ln F B z W tl n i D T).2 j) (bs j)) ∧ ∀ j, j < tl → (pc_lt nr ln F B z W tl n i D T).1 j = nI (qs j)
  | 0, i, D, T, h1, h2, hT, hD => by
    have : i = tl := by omega
    subst this
    exact ⟨hT, hD⟩
  | n + 1, i, D, T, h1, h2, hT, hD => by
    unfold pc_lt
    by_cases hi : i < tl
    · rw [if_pos hi]
      obtain ⟨p, p1, p2, -⟩ := pc_CH_it hz.2.1 (tl - (i + 1)) tl s hs hch (by omega)
      have hct := hz.2.1
      obtain ⟨k1, k2, k3⟩ := h3.2 i hi
      have e1 : pc_fn nr ln F B z (pc_stt T i) (W (i + 1)) (nr + 1) 0 = some (qs i) := by
        rw [hW (i + 1) (by omega), p2, pc_fn_mfn hR hct hz.2.2.1 hz.2.2.2.1 p1 (hT i (Nat.le_refl _)), ← k2, p2, nI_clamp (by omega)]
      rw [e1]
      refine pc_lt_ok hR hz hs hch h3 hW n (i + 1) _ _ (by omega) (by omega) (fun j hj => ?_) (fun j hj => ?_)
      · show pc_q6 (pc_stt (pc_wr T (i + 1) (pc_af (ln (qs i)) (F (qs i)) (pc_stt T i))) j) (bs j)
        by_cases hji : j = i + 1
        · subst hji
          have e2 : pc_q6 (pc_stt (pc_wr T (i + 1) (pc_af (ln (qs i)) (F (qs i)) (pc_stt T i))) (i + 1)) (pc_af (ln (qs i)) (F (qs i)) (pc_stt T i)) := fun v hv => pc_wr_new hv
          rw [k3]
          exact e2.trans (pc_af_b (hR _ k1) (hT i (Nat.le_refl _)))
        · have e2 : pc_q6 (pc_stt (pc_wr T (i + 1) (pc_af (ln (qs i)) (F (qs i)) (pc_stt T i))) j) (pc_stt T j) := fun v hv => pc_wr_old (by omega) hv
          exact e2.trans (hT j (by omega))
      · show upd D i (nI (qs i)) j = nI (qs j)
        unfold upd
        by_cases hji : j = i
        · rw [if_pos hji, hji]
        · rw [if_neg hji]; exact hD j (by omega)
    · rw [if_neg hi]
      have : i = tl := by omega
      subst this
      exact ⟨hT, hD⟩
/-- what the trace holds when the description is violated -/
def pc_TO (nr : Nat) (ln : Nat → Nat) (F : Nat → Nat → Int32) (B f0 : Nat → Int32) (z : pc_Z) (sp : Nat) (D T : Nat → Int32) : Prop :=
  ∃ (bs : Nat → Nat → Int32) (qs : Nat → Nat), pc_ok3 nr ln F B z.2.1 z.2.2.1 f0 (nI (z.1 - 1)) sp bs qs ∧ pc_tl z.2.2.1 401 0 (nI (z.1 - 1)) = sp + 1 ∧ pc_vc z.2.2.1 z.1 sp (nI (z.1 - 1)) ∧ sp < 400 ∧ (∀ j, j ≤ sp → pc_q6 (pc_stt T j) (bs j)) ∧ ∀ j, j < sp → D j = nI (qs j)
theorem pc_TO_of {nr : Nat} {ln : Nat → Nat} {F : Nat → Nat → Int32} {B f0 W D T : Nat → Int32} {z : pc_Z} (hC : pc_CL nr ln F B) (hR : ∀ r, r < nr → pc_RK (ln r) (F r)) (hz : pc_SI nr ln F B f0 z) : pc_TO nr ln F B f0 z (pc_ly nr ln F B z f0 W D T).1 (pc_ly nr ln F B z f0 W D T).2.2.1 (pc_ly nr ln F B z f0 W D T).2.2.2 := by
  have hct := hz.2.1
  have hc1 := hz.1
  obtain ⟨tl, t1, t2⟩ := pc_CH_ex (ct := z.1) (P := z.2.2.1) (fun s h1 h2 => by obtain ⟨p, p1, p2, -⟩ := hz.2.2.2.2.2.2 s h1 h2; exact ⟨p, p1, p2⟩) z.1 (z.1 - 1) (by omega) (by omega)
  have hsp : pc_sp z.1 z.2.2.1 400 0 (nI (z.1 - 1)) = tl := by rw [pc_CH_sp hct hz.2.2.2.2.1 tl (z.1 - 1) 400 0 (by omega) t2 (by omega) (by omega), Nat.zero_add]
  have h3 := pc_ok3_of hC hR hz (by omega) t2
  have hl := pc_lt_ok (W := pc_wl z.1 z.2.2.1 (tl + 1) (nI (z.1 - 1)) W) hR hz (by omega) t2 h3 (fun i hi => (pc_CH_wl hct tl (z.1 - 1) W (by omega) t2 i).1 hi) 400 0 D (pc_wr T 0 f0) (by omega) (by omega) (fun j hj v hv => by
    rw [show j = 0 by omega]
    exact pc_wr_new hv) (fun j hj => absurd hj (by omega))
  refine ⟨pc_tb nr ln F B z.2.1 z.2.2.1 f0 (nI (z.1 - 1)) tl, pc_tq nr ln F B z.2.1 z.2.2.1 f0 (nI (z.1 - 1)) tl, ?_, ?_, ?_, ?_, ?_, ?_⟩
  · show pc_ok3 nr ln F B z.2.1 z.2.2.1 f0 (nI (z.1 - 1)) (pc_sp z.1 z.2.2.1 400 0 (nI (z.1 - 1))) _ _
    rw [hsp]; exact h3
  · show pc_tl z.2.2.1 401 0 (nI (z.1 - 1)) = pc_sp z.1 z.2.2.1 400 0 (nI (z.1 - 1)) + 1
    rw [hsp, pc_CH_tl hz.2.2.2.2.1 tl (z.1 - 1) 401 0 (by omega) t2 (by omega) (by omega), Nat.zero_add]
  · show pc_vc z.2.2.1 z.1 (pc_sp z.1 z.2.2.1 400 0 (nI (z.1 - 1))) _
    rw [hsp]; exact pc_CH_vc tl (z.1 - 1) (by omega) t2
  · show pc_sp z.1 z.2.2.1 400 0 (nI (z.1 - 1)) < 400
    rw [hsp]; omega
  · intro j hj
    have hj : j ≤ pc_sp z.1 z.2.2.1 400 0 (nI (z.1 - 1)) := hj
    rw [hsp] at hj
    have := hl.1 j hj
    show pc_q6 (pc_stt (pc_lt nr ln F B z (pc_wl z.1 z.2.2.1 (pc_sp z.1 z.2.2.1 400 0 (nI (z.1 - 1)) + 1) (nI (z.1 - 1)) W) (pc_sp z.1 z.2.2.1 400 0 (nI (z.1 - 1))) 400 0 D (pc_wr T 0 f0)).2 j) _
    rw [hsp]; exact this
  · intro j hj
    have hj : j < pc_sp z.1 z.2.2.1 400 0 (nI (z.1 - 1)) := hj
    rw [hsp] at hj
    have := hl.2 j hj
    show (pc_lt nr ln F B z (pc_wl z.1 z.2.2.1 (pc_sp z.1 z.2.2.1 400 0 (nI (z.1 - 1)) + 1) (nI (z.1 - 1)) W) (pc_sp z.1 z.2.2.1 400 0 (nI (z.1 - 1))) 400 0 D (pc_wr T 0 f0)).1 j = _
    rw [hsp]; exact this
theorem pc_SI_pok {nr : Nat} {ln : Nat → Nat} {F : Nat → Nat → Int32} {B f0 : Nat → Int32} {z : pc_Z} (hz : pc_SI nr ln F B f0 z) : pc_pok z.1 z.2.2.1 := by
  intro j hj
  by_cases h0 : j = 0
  · subst h0; exact Or.inl hz.2.2.2.2.1
  · obtain ⟨p, p1, p2, -⟩ := hz.2.2.2.2.2.2 j (by omega) hj
    exact Or.inr ⟨p, p1, p2⟩
