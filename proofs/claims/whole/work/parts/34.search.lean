/-! ===== class and reference search alike ===== -/
def pc_SI (nr : Nat) (ln : Nat → Nat) (F : Nat → Nat → Int32) (B f0 : Nat → Int32) (z : pc_Z) : Prop :=
  1 ≤ z.1 ∧ z.1 ≤ 400 ∧ pc_HC z.1 z.2.1 z.2.2.2.1 z.2.2.2.2.1 ∧ pc_DS z.1 z.2.1 ∧ z.2.2.1 0 = -1 ∧ pc_q6 (pc_stt z.2.1 0) (pc_sf B f0) ∧
  ∀ s, 0 < s → s < z.1 → ∃ p, p < s ∧ z.2.2.1 s = nI p ∧ ∃ r, r < nr ∧ pc_mf (ln r) (F r) (pc_stt z.2.1 p) = true ∧ pc_q6 (pc_stt z.2.1 s) (pc_sf B (pc_af (ln r) (F r) (pc_stt z.2.1 p)))
def pc_RL (z : pc_Z) (y : pc_Y) : Prop := y.1 = z.1 ∧ y.2.1 = z.2.1 ∧ y.2.2.1 = z.2.2.1 ∧ y.2.2.2 = (if z.2.2.2.2.2.1 = true then nI (z.1 - 1) else -1)
theorem pc_sto_lt {il : Nat} {iv : Nat → Int32} {z : pc_Z} {t : Nat → Int32} {q : Int32} (h : z.1 < 400) : pc_sto il iv z t q = (z.1 + 1, pc_wr z.2.1 z.1 t, upd z.2.2.1 z.1 q, upd z.2.2.2.1 (pc_bk t) (nI z.1), upd z.2.2.2.2.1 z.1 (z.2.2.2.1 (pc_bk t)), !(pc_ho il iv t), z.2.2.2.2.2.2) := by
  unfold pc_sto
  rw [if_pos h]
theorem pc_SI_sto {nr : Nat} {ln : Nat → Nat} {F : Nat → Nat → Int32} {B f0 iv b : Nat → Int32} {il ex r : Nat} {z : pc_Z} (hR : ∀ r, r < nr → pc_RK (ln r) (F r)) (hz : pc_SI nr ln F B f0 z) (hlt : z.1 < 400) (hex : ex < z.1) (hb : pc_q6 (pc_stt z.2.1 ex) b) (hr : r < nr) (hm : pc_mf (ln r) (F r) b = true) (hn : pc_fdz z (pc_sf B (pc_af (ln r) (F r) b)) = -1) : pc_SI nr ln F B f0 (pc_sto il iv z (pc_sf B (pc_af (ln r) (F r) b)) (nI ex)) := by
  obtain ⟨h1, h2, h3, h4, h5, h6, h7⟩ := hz
  rw [pc_sto_lt hlt]
  have hns : ∀ j, j < z.1 → ¬ pc_e6 z.2.1 j (pc_sf B (pc_af (ln r) (F r) b)) 7 0 = true := by
    rcases pc_fdz_cases (t := pc_sf B (pc_af (ln r) (F r) b)) h2 h3 with ⟨-, q⟩ | ⟨q, q1, q2, -⟩
    · exact q
    · rw [hn] at q2; exact absurd q2.symm (pc_m1 (by omega))
  have old : ∀ i, i < z.1 → pc_q6 (pc_stt (pc_wr z.2.1 z.1 (pc_sf B (pc_af (ln r) (F r) b))) i) (pc_stt z.2.1 i) := fun i hi v hv => pc_wr_old hi hv
  refine ⟨by show 1 ≤ z.1 + 1; omega, by show z.1 + 1 ≤ 400; omega, pc_HC_sto h3, pc_DS_sto h4 hns, ?_, (old 0 (by omega)).trans h6, ?_⟩
  · show upd z.2.2.1 z.1 (nI ex) 0 = -1
    unfold upd
    rw [if_neg (by omega)]
    exact h5
  · intro s s1 s2
    have s2 : s < z.1 + 1 := s2
    by_cases hs : s = z.1
    · subst hs
      refine ⟨ex, hex, by show upd z.2.2.1 z.1 (nI ex) z.1 = _; simp [upd], r, hr, ?_, ?_⟩
      · rw [pc_mf_b (hR r hr) ((old ex hex).trans hb)]; exact hm
      · have e1 : pc_q6 (pc_stt (pc_wr z.2.1 z.1 (pc_sf B (pc_af (ln r) (F r) b))) z.1) (pc_sf B (pc_af (ln r) (F r) b)) := fun v hv => pc_wr_new hv
        exact e1.trans (pc_sf_b (pc_af_b (hR r hr) ((old ex hex).trans hb))).symm
    · obtain ⟨p, p1, p2, q, q1, q2, q3⟩ := h7 s s1 (by omega)
      refine ⟨p, p1, by show upd z.2.2.1 z.1 (nI ex) s = _; unfold upd; rw [if_neg hs]; exact p2, q, q1, ?_, ?_⟩
      · rw [pc_mf_b (hR q q1) (old p (by omega))]; exact q2
      · exact ((old s (by omega)).trans q3).trans (pc_sf_b (pc_af_b (hR q q1) (old p (by omega)))).symm
/-- what is kept while exploring -/
def pc_XR (nr : Nat) (ln : Nat → Nat) (F : Nat → Nat → Int32) (B f0 : Nat → Int32) (z : pc_Z) (ex : Nat) (y : pc_Y) (ey : Nat) (fu : Bool) : Prop :=
  pc_SI nr ln F B f0 z ∧ pc_RL z y ∧ z.2.2.2.2.2.2 = fu ∧ (z.2.2.2.2.2.1 = false → ex = ey) ∧ ¬ (z.2.2.2.2.2.1 = true ∧ z.2.2.2.2.2.2 = true) ∧ (z.2.2.2.2.2.2 = true → ex < z.1) ∧ ex ≤ z.1 ∧ ey ≤ 400
theorem pc_xl_mxl {nr : Nat} {ln : Nat → Nat} {F : Nat → Nat → Int32} {B f0 iv b : Nat → Int32} {il ex : Nat} (hR : ∀ r, r < nr → pc_RK (ln r) (F r)) : ∀ (n r : Nat) (z : pc_Z) (y : pc_Y), nr < r + n → r ≤ nr → pc_SI nr ln F B f0 z → pc_RL z y → z.2.2.2.2.2.1 = false → z.2.2.2.2.2.2 = false → ex < z.1 → pc_q6 (pc_stt z.2.1 ex) b →
    pc_XR nr ln F B f0 (pc_xl nr ln F B il iv b ex n r z).1 (pc_xl nr ln F B il iv b ex n r z).2 (pc_mxl nr ln F B il iv b ex n r y).1 (pc_mxl nr ln F B il iv b ex n r y).2.1 (pc_mxl nr ln F B il iv b ex n r y).2.2 ∧ ((pc_xl nr ln F B il iv b ex n r z).1.2.2.2.2.2.1 = false → (pc_xl nr ln F B il iv b ex n r z).1.2.2.2.2.2.2 = false → (pc_xl nr ln F B il iv b ex n r z).2 = ex + 1)
  | 0, r, z, y, hn, hr0, _, _, _, _, _, _ => absurd hn (by omega)
  | n + 1, r, z, y, hn, hr0, hz, hy, hvi, hom, hex, hb => by
    have hz2 := hz.2.1
    have hbr : y.2.2.2 = -1 := by rw [hy.2.2.2, hvi]; rfl
    have hxl : pc_xl nr ln F B il iv b ex (n + 1) r z = if r < nr then (if (pc_xr B il iv (ln r) (F r) b ex z).2.2.2.2.2.1 = true then (pc_xr B il iv (ln r) (F r) b ex z, ex) else if (pc_xr B il iv (ln r) (F r) b ex z).2.2.2.2.2.2 = true then (pc_xr B il iv (ln r) (F r) b ex z, ex) else pc_xl nr ln F B il iv b ex n (r + 1) (pc_xr B il iv (ln r) (F r) b ex z)) else (z, ex + 1) := rfl
    have hml : pc_mxl nr ln F B il iv b ex (n + 1) r y = if r < nr then (if 0 ≤ y.2.2.2 then (y, ex + 1, false) else if pc_mf (ln r) (F r) b = true ∧ pc_is y.1 y.2.1 (pc_sf B (pc_af (ln r) (F r) b)) (y.1 + 1) 0 = false then (if y.1 = 400 then (y, ex, true) else pc_mxl nr ln F B il iv b ex n (r + 1) (pc_msto il iv y (pc_sf B (pc_af (ln r) (F r) b)) (nI ex))) else pc_mxl nr ln F B il iv b ex n (r + 1) y) else (y, ex + 1, false) := rfl
    by_cases hr : r < nr
    · rw [if_pos hr] at hxl
      rw [if_pos hr, if_neg (show ¬ 0 ≤ y.2.2.2 by rw [hbr]; decide)] at hml
      by_cases hm : pc_mf (ln r) (F r) b = true
      · by_cases hf : pc_fdz z (pc_sf B (pc_af (ln r) (F r) b)) = -1
        · have hx : pc_xr B il iv (ln r) (F r) b ex z = pc_sto il iv z (pc_sf B (pc_af (ln r) (F r) b)) (nI ex) := by unfold pc_xr; rw [if_pos hm, if_pos hf]
          have his : pc_is y.1 y.2.1 (pc_sf B (pc_af (ln r) (F r) b)) (y.1 + 1) 0 = false := by rw [hy.1, hy.2.1]; exact (pc_fdz_is hz2 hz.2.2.1).mp hf
          rw [if_pos (show pc_mf (ln r) (F r) b = true ∧ pc_is y.1 y.2.1 (pc_sf B (pc_af (ln r) (F r) b)) (y.1 + 1) 0 = false from ⟨hm, his⟩)] at hml
          rw [hx] at hxl
          by_cases h4 : z.1 = 400
          · rw [if_pos (show y.1 = 400 by rw [hy.1]; exact h4)] at hml
            have hs : pc_sto il iv z (pc_sf B (pc_af (ln r) (F r) b)) (nI ex) = (z.1, z.2.1, z.2.2.1, z.2.2.2.1, z.2.2.2.2.1, z.2.2.2.2.2.1, true) := by unfold pc_sto; rw [if_neg (by omega)]
            rw [hs, hvi] at hxl
            simp only [Bool.false_eq_true, if_false, if_true] at hxl
            rw [hxl, hml]
            refine ⟨⟨hz, ⟨hy.1, hy.2.1, hy.2.2.1, by rw [hbr]; rfl⟩, rfl, fun _ => rfl, fun q => (by cases q.1), fun _ => hex, by show ex ≤ z.1; omega, by show ex ≤ 400; omega⟩, fun _ q => (by cases q)⟩
          · have hlt : z.1 < 400 := by omega
            rw [if_neg (show ¬ y.1 = 400 by rw [hy.1]; exact h4)] at hml
            have hSI := pc_SI_sto (iv := iv) (il := il) hR hz hlt hex hb hr hm hf
            have hs := pc_sto_lt (il := il) (iv := iv) (z := z) (t := pc_sf B (pc_af (ln r) (F r) b)) (q := nI ex) hlt
            have hRL : pc_RL (pc_sto il iv z (pc_sf B (pc_af (ln r) (F r) b)) (nI ex)) (pc_msto il iv y (pc_sf B (pc_af (ln r) (F r) b)) (nI ex)) := by
              rw [hs]
              refine ⟨by show y.1 + 1 = z.1 + 1; rw [hy.1], by show pc_wr y.2.1 y.1 _ = pc_wr z.2.1 z.1 _; rw [hy.1, hy.2.1], by show upd y.2.2.1 y.1 _ = upd z.2.2.1 z.1 _; rw [hy.1, hy.2.2.1], ?_⟩
              show (if pc_ho il iv _ = true then y.2.2.2 else nI y.1) = if (!(pc_ho il iv _)) = true then nI (z.1 + 1 - 1) else -1
              rw [hbr, hy.1, Nat.add_sub_cancel]
              cases pc_ho il iv (pc_sf B (pc_af (ln r) (F r) b)) <;> rfl
            have hb' : pc_q6 (pc_stt (pc_sto il iv z (pc_sf B (pc_af (ln r) (F r) b)) (nI ex)).2.1 ex) b := by
              rw [hs]
              exact fun v hv => (pc_wr_old hex hv).trans (hb v hv)
            have hom' : (pc_sto il iv z (pc_sf B (pc_af (ln r) (F r) b)) (nI ex)).2.2.2.2.2.2 = false := by rw [hs]; exact hom
            have hct : (pc_sto il iv z (pc_sf B (pc_af (ln r) (F r) b)) (nI ex)).1 = z.1 + 1 := by rw [hs]
            cases hv : (pc_sto il iv z (pc_sf B (pc_af (ln r) (F r) b)) (nI ex)).2.2.2.2.2.1 with
            | true =>
              rw [if_pos hv] at hxl
              obtain ⟨n, rfl⟩ : ∃ q, n = q + 1 := ⟨n - 1, by omega⟩
              have hbr2 : 0 ≤ (pc_msto il iv y (pc_sf B (pc_af (ln r) (F r) b)) (nI ex)).2.2.2 := by
                rw [hRL.2.2.2, hv, if_pos rfl]; exact nI_pos' (by rw [hct]; omega)
              have hM : pc_mxl nr ln F B il iv b ex (n + 1) (r + 1) (pc_msto il iv y (pc_sf B (pc_af (ln r) (F r) b)) (nI ex)) = (pc_msto il iv y (pc_sf B (pc_af (ln r) (F r) b)) (nI ex), ex + 1, false) := by
                unfold pc_mxl
                split
                · first | rfl | rw [if_pos hbr2]
                · rfl
              rw [hxl, hml, hM]
              refine ⟨⟨hSI, hRL, hom', fun q => ?_, fun q => ?_, fun q => ?_, ?_, ?_⟩, fun q => ?_⟩
              · rw [hv] at q; cases q
              · rw [hom'] at q; cases q.2
              · rw [hom'] at q; cases q
              · show ex ≤ _; rw [hct]; omega
              · show ex + 1 ≤ 400; omega
              · rw [hv] at q; cases q
            | false =>
              rw [if_neg (by rw [hv]; decide), if_neg (by rw [hom']; decide)] at hxl
              rw [hxl, hml]
              exact pc_xl_mxl hR n (r + 1) _ _ (by omega) (by omega) hSI hRL hv hom' (by rw [hct]; omega) hb'
        · have hx : pc_xr B il iv (ln r) (F r) b ex z = z := by unfold pc_xr; rw [if_pos hm, if_neg hf]
          have his : ¬ pc_is y.1 y.2.1 (pc_sf B (pc_af (ln r) (F r) b)) (y.1 + 1) 0 = false := by rw [hy.1, hy.2.1]; exact fun q => hf ((pc_fdz_is hz2 hz.2.2.1).mpr q)
          rw [if_neg (show ¬ (pc_mf (ln r) (F r) b = true ∧ pc_is y.1 y.2.1 (pc_sf B (pc_af (ln r) (F r) b)) (y.1 + 1) 0 = false) from fun q => his q.2)] at hml
          rw [hx, if_neg (by rw [hvi]; decide), if_neg (by rw [hom]; decide)] at hxl
          rw [hxl, hml]
          exact pc_xl_mxl hR n (r + 1) z y (by omega) (by omega) hz hy hvi hom hex hb
      · have hx : pc_xr B il iv (ln r) (F r) b ex z = z := by unfold pc_xr; rw [if_neg hm]
        rw [if_neg (show ¬ (pc_mf (ln r) (F r) b = true ∧ pc_is y.1 y.2.1 (pc_sf B (pc_af (ln r) (F r) b)) (y.1 + 1) 0 = false) from fun q => hm q.1)] at hml
        rw [hx, if_neg (by rw [hvi]; decide), if_neg (by rw [hom]; decide)] at hxl
        rw [hxl, hml]
        exact pc_xl_mxl hR n (r + 1) z y (by omega) (by omega) hz hy hvi hom hex hb
    · rw [if_neg hr] at hxl hml
      rw [hxl, hml]
      refine ⟨⟨hz, hy, hom, fun _ => rfl, fun q => ?_, fun q => ?_, ?_, ?_⟩, fun _ _ => rfl⟩
      · rw [hvi] at q; cases q.1
      · rw [hom] at q; cases q
      · show ex + 1 ≤ z.1; omega
      · show ex + 1 ≤ 400; omega
theorem pc_mn_le {x : Int32} : pc_mn x ≤ x := by
  unfold pc_mn
  split
  · rename_i h; exact Int32.le_of_lt h
  · exact Int32.le_refl _
theorem pc_el_mel {nr : Nat} {ln : Nat → Nat} {F : Nat → Nat → Int32} {B f0 iv : Nat → Int32} {il : Nat} {x : Int32} (hR : ∀ r, r < nr → pc_RK (ln r) (F r)) : ∀ (n m i : Nat) (z : pc_Z) (y : pc_Y) (ex ey : Nat) (fu : Bool), 400 < i + n → i ≤ 400 → (if fu = true then 0 else 401 - ey) < m → (z.2.2.2.2.2.1 = false → z.2.2.2.2.2.2 = false → i ≤ ex) → pc_XR nr ln F B f0 z ex y ey fu →
    pc_XR nr ln F B f0 (pc_el nr ln F B il iv x n i z ex).1 (pc_el nr ln F B il iv x n i z ex).2 (pc_mel nr ln F B il iv x m i y ey fu).1 (pc_mel nr ln F B il iv x m i y ey fu).2.1 (pc_mel nr ln F B il iv x m i y ey fu).2.2
  | 0, m, i, z, y, ex, ey, fu, hn, hi, _, _, _ => absurd hn (by omega)
  | n + 1, 0, i, z, y, ex, ey, fu, hn, hi, hm, _, _ => absurd hm (by omega)
  | n + 1, m + 1, i, z, y, ex, ey, fu, hn, hi, hm, hie, hX => by
    obtain ⟨x1, x2, x3, x4, x5, x6, x7, x8⟩ := id hX
    have hz2 := x1.2.1
    have stop : (pc_mn x ≤ nI i ∨ z.2.2.2.2.2.1 = true ∨ z.2.2.2.2.2.2 = true ∨ z.1 ≤ ex) → pc_mel nr ln F B il iv x (m + 1) i y ey fu = (y, ey, fu) := by
      intro h
      unfold pc_mel
      by_cases c1 : x ≤ nI i
      · rw [if_pos c1]
      · rw [if_neg c1]
        by_cases c2 : fu = true
        · rw [if_pos c2]
        · rw [if_neg c2]
          by_cases c3 : 0 ≤ y.2.2.2
          · rw [if_pos c3]
          · rw [if_neg c3]
            have hvi : z.2.2.2.2.2.1 = false := by
              cases hv : z.2.2.2.2.2.1 with
              | false => rfl
              | true => exact absurd (by rw [x2.2.2.2, hv, if_pos rfl]; exact nI_pos' (by omega)) c3
            have hom : z.2.2.2.2.2.2 = false := by cases ho : z.2.2.2.2.2.2 with
              | false => rfl
              | true => exact absurd (x3.symm.trans ho) c2
            have hey := x4 hvi
            rw [if_neg]
            rw [x2.1]
            rcases h with h | h | h | h
            · have h4 : ¬ i < 400 := by
                intro h4
                apply c1
                unfold pc_mn at h
                split at h
                · exact absurd h (nI_ge (b := 400) h4 (by decide))
                · exact h
              have := hie hvi hom
              omega
            · rw [hvi] at h; cases h
            · rw [hom] at h; cases h
            · omega
    have cstop : (pc_mn x ≤ nI i ∨ z.2.2.2.2.2.1 = true ∨ z.2.2.2.2.2.2 = true ∨ z.1 ≤ ex) → pc_el nr ln F B il iv x (n + 1) i z ex = (z, ex) := by
      intro h
      unfold pc_el
      by_cases c1 : pc_mn x ≤ nI i
      · rw [if_pos c1]
      · rw [if_neg c1]
        by_cases c2 : z.2.2.2.2.2.1 = true
        · rw [if_pos c2]
        · rw [if_neg c2]
          by_cases c3 : z.2.2.2.2.2.2 = true
          · rw [if_pos c3]
          · rw [if_neg c3, if_pos]
            rcases h with h | h | h | h
            · exact absurd h c1
            · exact absurd h c2
            · exact absurd h c3
            · exact h
    by_cases hs : pc_mn x ≤ nI i ∨ z.2.2.2.2.2.1 = true ∨ z.2.2.2.2.2.2 = true ∨ z.1 ≤ ex
    · rw [stop hs, cstop hs]; exact hX
    · have c1 : ¬ pc_mn x ≤ nI i := fun q => hs (Or.inl q)
      have c2 : z.2.2.2.2.2.1 = false := by cases hv : z.2.2.2.2.2.1 with
        | false => rfl
        | true => exact absurd (Or.inr (Or.inl hv)) hs
      have c3 : z.2.2.2.2.2.2 = false := by cases hv : z.2.2.2.2.2.2 with
        | false => rfl
        | true => exact absurd (Or.inr (Or.inr (Or.inl hv))) hs
      have c4 : ¬ z.1 ≤ ex := fun q => hs (Or.inr (Or.inr (Or.inr q)))
      have hey := x4 c2
      subst hey
      have hfu : fu = false := x3.symm.trans c3
      have hbr : y.2.2.2 = -1 := by rw [x2.2.2.2, c2]; rfl
      have i4 := pc_mn_lt (by omega) c1
      unfold pc_el pc_mel
      rw [if_neg c1, if_neg (by rw [c2]; decide), if_neg (by rw [c3]; decide), if_neg c4, if_neg (fun q => c1 (Int32.le_trans pc_mn_le q)), if_neg (by rw [hfu]; decide), if_neg (by rw [hbr]; decide), if_pos (by rw [x2.1]; omega)]
      have hst : pc_mxp nr ln F B il iv ex y = pc_mxl nr ln F B il iv (pc_stt z.2.1 ex) ex (nr + 1) 0 y := by unfold pc_mxp; rw [x2.2.1]
      obtain ⟨hXR, hinc⟩ := pc_xl_mxl (f0 := f0) (iv := iv) (il := il) (b := pc_stt z.2.1 ex) hR (nr + 1) 0 z y (by omega) (by omega) x1 x2 c2 c3 (by omega) pc_q6.rfl'
      rw [← hst] at hXR
      refine pc_el_mel hR n m (i + 1) _ _ _ _ _ (by omega) (by omega) ?_ (fun q1 q2 => ?_) hXR
      · rw [hfu] at hm
        simp only [Bool.false_eq_true, if_false] at hm
        have hb := (pc_mxp_bd (nr := nr) (ln := ln) (F := F) (B := B) (iv := iv) (il := il) (ex := ex) (y := y) (by rw [x2.1]; exact hz2)).2
        rcases hb with ⟨b1, b2⟩ | ⟨b1, b2⟩
        · rw [b1]; simp; omega
        · rw [b1, b2]; simp; omega
      · have := hinc q1 q2
        have h9 := hie c2 c3
        show i + 1 ≤ (pc_xl nr ln F B il iv (pc_stt z.2.1 ex) ex (nr + 1) 0 z).2
        omega
theorem pc_el_vi {nr : Nat} {ln : Nat → Nat} {F : Nat → Nat → Int32} {B iv : Nat → Int32} {il : Nat} {x : Int32} {n i ex : Nat} {z : pc_Z} (h : z.2.2.2.2.2.1 = true) : pc_el nr ln F B il iv x n i z ex = (z, ex) := by
  cases n with
  | zero => rfl
  | succ n =>
    unfold pc_el
    split
    · rfl
    · first | rfl | rw [if_pos h]
