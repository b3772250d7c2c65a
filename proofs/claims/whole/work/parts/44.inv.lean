/-! ===== what class and reference keep between calls ===== -/
abbrev lw_T : Type := Nat × (Nat → Int32) × (Nat → Int32) × (Nat → Int32)
def lw_J (f0 Bf : Nat → Int32) (nr : Nat) (ln : Nat → Nat) (Rf : Nat → Int32) (il : Nat) (If : Nat → Int32) (z : pc_Z) (ex : Nat) (y : pc_Y) (ey : Nat) (fu : Bool) (t : lw_T) : Prop :=
  (∀ r, r < nr → pc_RK (ln r) (pc_rr Rf r)) ∧ pc_mok If il 0 0 ∧ pc_CL nr ln (pc_rr Rf) Bf ∧ pc_XR nr ln (pc_rr Rf) Bf f0 z ex y ey fu ∧ (z.2.2.2.2.2.1 = true → pc_TO nr ln (pc_rr Rf) Bf f0 z t.1 t.2.2.1 t.2.2.2)
def lw_U (z : pc_Z) (ex ey : Nat) (fu : Bool) : Prop := z.1 = 0 ∧ z.2.2.2.2.2.1 = false ∧ z.2.2.2.2.2.2 = false ∧ ex = 0 ∧ ey = 0 ∧ fu = false ∧ ∀ b, b < 512 → z.2.2.2.1 b = -1
def lw_V (nr : Nat) (ln : Nat → Nat) (Rf : Nat → Int32) (il : Nat) (If : Nat → Int32) : Prop := nr ≤ 12 ∧ (∀ r, r < 12 → ln r ≤ 32) ∧ il ≤ 32 ∧ (∀ r, r < 12 → ∀ j, j < ln r → pc_isW (pc_rr Rf r j) = true) ∧ ∀ j, j < il → pc_isW (If j) = true
def lw_I (f0 Bf : Nat → Int32) (nr : Nat) (ln : Nat → Nat) (Rf : Nat → Int32) (il : Nat) (If : Nat → Int32) (sl : Bool) (z : pc_Z) (ex : Nat) (y : pc_Y) (ey : Nat) (fu : Bool) (t : lw_T) : Prop :=
  lw_V nr ln Rf il If ∧ (pc_RL z y ∧ t.1 < 400) ∧ (sl = false → lw_U z ex ey fu) ∧ (sl = true → lw_J f0 Bf nr ln Rf il If z ex y ey fu t)
section LI
variable {f0 Bf : Nat → Int32} {nr : Nat} {ln : Nat → Nat} {Rf : Nat → Int32} {il : Nat} {If : Nat → Int32} {sl : Bool} {z : pc_Z} {ex : Nat} {y : pc_Y} {ey : Nat} {fu : Bool} {t : lw_T}
theorem lw_I_init (h : lw_I f0 Bf nr ln Rf il If sl z ex y ey fu t) (f1 B1 : Nat → Int32) (t1 : lw_T) (ht : t1.1 < 400) : lw_I f1 B1 0 ln Rf 0 If false (0, z.2.1, z.2.2.1, pc_fill 512 (-1) z.2.2.2.1, z.2.2.2.2.1, false, false) 0 (0, y.2.1, y.2.2.1, -1) 0 false t1 := by
  obtain ⟨⟨h1, h2, h3, h4, h5⟩, ⟨⟨r1, r2, r3, r4⟩, -⟩, -, -⟩ := h
  refine ⟨⟨by omega, h2, by omega, h4, fun j hj => absurd hj (by omega)⟩, ⟨⟨rfl, r2, r3, rfl⟩, ht⟩, fun _ => ⟨rfl, rfl, rfl, rfl, rfl, rfl, fun b hb => ?_⟩, fun e => by cases e⟩
  show pc_fill 512 (-1) z.2.2.2.1 b = -1
  simp [pc_fill, hb]
theorem lw_I_f0 (h : lw_I f0 Bf nr ln Rf il If sl z ex y ey fu t) (f1 : Nat → Int32) (hf : sl = true → f1 = f0) : lw_I f1 Bf nr ln Rf il If sl z ex y ey fu t := ⟨h.1, h.2.1, h.2.2.1, fun e => by rw [hf e]; exact h.2.2.2 e⟩
theorem lw_I_Bf (h : lw_I f0 Bf nr ln Rf il If sl z ex y ey fu t) (B1 : Nat → Int32) (hf : sl = true → B1 = Bf) : lw_I f0 B1 nr ln Rf il If sl z ex y ey fu t := ⟨h.1, h.2.1, h.2.2.1, fun e => by rw [hf e]; exact h.2.2.2 e⟩
theorem lw_I_begin (h : lw_I f0 Bf nr ln Rf il If sl z ex y ey fu t) (hs : sl = false) (hn : nr < 12) : lw_I f0 Bf (nr + 1) (pc_ul ln nr 0) Rf il If sl z ex y ey fu t := by
  obtain ⟨⟨h1, h2, h3, h4, h5⟩, hR, hU, hJ⟩ := h
  refine ⟨⟨by omega, fun r hr => ?_, h3, fun r hr j hj => ?_, h5⟩, hR, hU, fun e => by rw [hs] at e; cases e⟩
  · unfold pc_ul; split
    · omega
    · exact h2 r hr
  · unfold pc_ul at hj; split at hj
    · omega
    · exact h4 r hr j hj
/-- the reference's rows after a word for rule q -/
theorem lw_I_feed (h : lw_I f0 Bf nr ln Rf il If sl z ex y ey fu t) (hs : sl = false) {q : Nat} {x : Int32} (hx : pc_isW x = true) (hq : q < 12) (hl : ¬ 32 ≤ ln q) : lw_I f0 Bf nr (pc_ul ln q (ln q + 1)) (upd Rf (32 * q + ln q) x) il If sl z ex y ey fu t := by
  obtain ⟨⟨h1, h2, h3, h4, h5⟩, hR, hU, hJ⟩ := h
  refine ⟨⟨h1, fun r hr => ?_, h3, fun r hr j hj => ?_, h5⟩, hR, hU, fun e => by rw [hs] at e; cases e⟩
  · unfold pc_ul; split
    · omega
    · exact h2 r hr
  · show pc_isW (upd Rf (32 * q + ln q) x (32 * r + j)) = true
    unfold upd
    split
    · exact hx
    · rename_i hne
      unfold pc_ul at hj
      split at hj
      · rename_i hrq
        subst hrq
        exact h4 r hr j (by omega)
      · exact h4 r hr j hj
theorem lw_I_inv (h : lw_I f0 Bf nr ln Rf il If sl z ex y ey fu t) {x : Int32} : lw_I f0 Bf nr ln Rf (if sl = true then il else pc_fl il x) (if sl = true then If else pc_fw il If x) sl z ex y ey fu t := by
  cases sl with
  | true => exact h
  | false =>
    obtain ⟨⟨h1, h2, h3, h4, h5⟩, hR, hU, hJ⟩ := h
    refine ⟨⟨h1, h2, ?_, h4, ?_⟩, hR, hU, fun e => by cases e⟩
    · show pc_fl il x ≤ 32
      unfold pc_fl; split
      · omega
      · exact h3
    · intro j hj
      have hj : j < pc_fl il x := hj
      show pc_isW (pc_fw il If x j) = true
      unfold pc_fl at hj
      unfold pc_fw
      split at hj
      · rename_i hc
        rw [if_pos hc]
        unfold upd
        split
        · exact hc.1
        · exact h5 j (by omega)
      · rename_i hc
        rw [if_neg hc]
        exact h5 j hj
theorem lw_hW (h : lw_I f0 Bf nr ln Rf il If sl z ex y ey fu t) : ∀ r, r < nr → ∀ j, j < ln r → pc_isW (pc_rr Rf r j) = true := fun r hr j hj => h.1.2.2.2.1 r (by have := h.1.1; omega) j hj
/-- the two ways of finding the description right -/
theorem lw_aR (h : lw_I f0 Bf nr ln Rf il If sl z ex y ey fu t) : pc_aR nr ln (pc_rr Rf) (nr + 1) 0 = pc_sR nr ln Rf (nr + 1) 0 := pc_aR_sR (lw_hW h) _ _
theorem lw_iR (h : lw_I f0 Bf nr ln Rf il If sl z ex y ey fu t) : pc_iR il If (il + 1) 0 0 = pc_mI il If (il + 1) 0 0 := pc_iR_mI h.1.2.2.2.2 _ _ _
theorem lw_RK (h : lw_I f0 Bf nr ln Rf il If sl z ex y ey fu t) (hA : pc_aR nr ln (pc_rr Rf) (nr + 1) 0 = true) : ∀ r, r < nr → pc_RK (ln r) (pc_rr Rf r) := fun r hr => pc_RK_of (lw_hW h r hr) (pc_aR_all (nr + 1) 0 (by omega) hA r (Nat.zero_le _) hr)
theorem lw_mok (h : lw_I f0 Bf nr ln Rf il If sl z ex y ey fu t) (hI : pc_iR il If (il + 1) 0 0 = true) : pc_mok If il 0 0 := pc_iR_mok h.1.2.2.2.2 (il + 1) 0 0 (by omega) (Nat.zero_le _) hI
theorem lw_er4 {c : Bool} {nr : Nat} {ln : Nat → Nat} {F : Nat → Nat → Int32} {B f0 W D T : Nat → Int32} {z : pc_Z} {o : lw_T} (h : o.1 < 400) : (pc_er c (pc_ly nr ln F B z f0 W D T) (o.1, o.2.1, o.2.2.1, o.2.2.2)).1 < 400 := by
  unfold pc_er
  split
  · show pc_sp z.1 z.2.2.1 400 0 (nI (z.1 - 1)) < 400
    have := pc_sp_le (ct := z.1) (P := z.2.2.1) 400 0 (nI (z.1 - 1)) (by omega)
    omega
  · exact h
/-- sealing: the first state -/
theorem lw_I_seal (h : lw_I f0 Bf nr ln Rf il If sl z ex y ey fu t) (hs : sl = false) (hA : pc_aR nr ln (pc_rr Rf) (nr + 1) 0 = true) (hI : pc_iR il If (il + 1) 0 0 = true) (hB : pc_ba nr ln (pc_rr Rf) Bf il If 7 0 = true) :
    lw_I f0 Bf nr ln Rf il If true (pc_sto il If z (pc_sf Bf f0) (-1)) ex (pc_msto il If y (pc_sf Bf f0) (-1)) ey fu (pc_er (pc_sto il If z (pc_sf Bf f0) (-1)).2.2.2.2.2.1 (pc_ly nr ln (pc_rr Rf) Bf (pc_sto il If z (pc_sf Bf f0) (-1)) f0 t.2.1 t.2.2.1 t.2.2.2) (t.1, t.2.1, t.2.2.1, t.2.2.2)) := by
  have hRK := lw_RK h hA
  have hmk := lw_mok h hI
  have hCL := pc_CL_of hB
  obtain ⟨hV, ⟨⟨r1, r2, r3, r4⟩, ht⟩, hU, -⟩ := h
  obtain ⟨u1, u2, u3, u4, u5, u6, u7⟩ := hU hs
  obtain ⟨ct, V, P, N, O, vi, om⟩ := z
  obtain ⟨yc, yV, yP, br⟩ := y
  replace u1 : ct = 0 := u1
  replace u2 : vi = false := u2
  replace u3 : om = false := u3
  replace r1 : yc = ct := r1
  replace r2 : yV = V := r2
  replace r3 : yP = P := r3
  replace r4 : br = if vi = true then nI (ct - 1) else -1 := r4
  replace u7 : ∀ b, b < 512 → N b = -1 := u7
  rw [u1] at r1 r4 ⊢
  rw [u2] at r4 ⊢
  rw [r1, ← r2, ← r3, r4, u3, u4, u5, u6]
  rw [pc_sto_lt (show (0, yV, yP, N, O, false, false).1 < 400 by show 0 < 400; decide)]
  have hSI : pc_SI nr ln (pc_rr Rf) Bf f0 (0 + 1, pc_wr yV 0 (pc_sf Bf f0), upd yP 0 (-1), upd N (pc_bk (pc_sf Bf f0)) (nI 0), upd O 0 (N (pc_bk (pc_sf Bf f0))), !(pc_ho il If (pc_sf Bf f0)), false) := by
    refine ⟨Nat.le_refl _, by show 0 + 1 ≤ 400; decide, pc_HC_sto (pc_HC_0 u7), ?_, ?_, ?_, ?_⟩
    · intro i j hi hj _
      have hi : i < 0 + 1 := hi
      have hj : j < 0 + 1 := hj
      omega
    · show upd yP 0 (-1) 0 = -1
      simp [upd]
    · intro v hv
      exact pc_wr_new hv
    · intro s s1 s2
      have s2 : s < 0 + 1 := s2
      omega
  have hRL : pc_RL (0 + 1, pc_wr yV 0 (pc_sf Bf f0), upd yP 0 (-1), upd N (pc_bk (pc_sf Bf f0)) (nI 0), upd O 0 (N (pc_bk (pc_sf Bf f0))), !(pc_ho il If (pc_sf Bf f0)), false) (pc_msto il If (0, yV, yP, if false = true then nI (0 - 1) else -1) (pc_sf Bf f0) (-1)) := by
    refine ⟨rfl, rfl, rfl, ?_⟩
    show (if pc_ho il If (pc_sf Bf f0) = true then (if false = true then nI (0 - 1) else -1) else nI 0) = if (!(pc_ho il If (pc_sf Bf f0))) = true then nI (0 + 1 - 1) else -1
    cases pc_ho il If (pc_sf Bf f0) <;> rfl
  refine ⟨hV, ⟨hRL, lw_er4 ht⟩, fun e => (by cases e), fun _ => ⟨hRK, hmk, hCL, ⟨hSI, hRL, rfl, fun _ => rfl, ?_, ?_, Nat.zero_le _, by decide⟩, fun hv => ?_⟩⟩
  · exact fun e => absurd e.2 Bool.false_ne_true
  · exact fun e => absurd e Bool.false_ne_true
  · have hv : (!(pc_ho il If (pc_sf Bf f0))) = true := hv
    simp only [pc_er]
    rw [if_pos hv]
    exact pc_TO_of hCL hRK hSI
/-- exploring -/
theorem lw_I_explore (h : lw_I f0 Bf nr ln Rf il If sl z ex y ey fu t) (hs : sl = true) (x : Int32) :
    lw_I f0 Bf nr ln Rf il If sl (pc_el nr ln (pc_rr Rf) Bf il If x 401 0 z ex).1 (pc_el nr ln (pc_rr Rf) Bf il If x 401 0 z ex).2 (pc_mel nr ln (pc_rr Rf) Bf il If x 402 0 y ey fu).1 (pc_mel nr ln (pc_rr Rf) Bf il If x 402 0 y ey fu).2.1 (pc_mel nr ln (pc_rr Rf) Bf il If x 402 0 y ey fu).2.2
      (pc_er ((pc_el nr ln (pc_rr Rf) Bf il If x 401 0 z ex).1.2.2.2.2.2.1 && !z.2.2.2.2.2.1) (pc_ly nr ln (pc_rr Rf) Bf (pc_el nr ln (pc_rr Rf) Bf il If x 401 0 z ex).1 f0 t.2.1 t.2.2.1 t.2.2.2) (t.1, t.2.1, t.2.2.1, t.2.2.2)) := by
  obtain ⟨hV, ⟨hRL, ht⟩, hU, hJ⟩ := h
  obtain ⟨hRK, hmk, hCL, hX, hT⟩ := hJ hs
  have hX2 := pc_el_mel (il := il) (iv := If) (x := x) hRK 401 402 0 z y ex ey fu (by omega) (by omega) (by split <;> omega) (fun _ _ => Nat.zero_le _) hX
  refine ⟨hV, ⟨hX2.2.1, lw_er4 ht⟩, fun e => (by rw [hs] at e; cases e), fun _ => ⟨hRK, hmk, hCL, hX2, fun hv => ?_⟩⟩
  by_cases hz : z.2.2.2.2.2.1 = true
  · have hT := hT hz
    rw [pc_el_vi hz]
    simp only [pc_er, hz]
    exact hT
  · have hz : z.2.2.2.2.2.1 = false := by simpa using hz
    simp only [pc_er, hv, hz]
    exact pc_TO_of hCL hRK hX2.1
theorem lw_vi_br (h : pc_RL z y) (hc : z.1 ≤ 400) : (0 ≤ y.2.2.2 ↔ z.2.2.2.2.2.1 = true) := by
  rw [h.2.2.2]
  cases hv : z.2.2.2.2.2.1
  · simp
  · simp only [if_true, iff_true]
    exact nI_pos' (by omega)
theorem lw_br0 (h : pc_RL z y) (hv : z.2.2.2.2.2.1 = false) : y.2.2.2 = -1 := by rw [h.2.2.2, hv]; rfl
theorem lw_ct (h : lw_I f0 Bf nr ln Rf il If sl z ex y ey fu t) : z.1 ≤ 400 := by
  cases sl
  · have := (h.2.2.1 rfl).1; omega
  · exact (h.2.2.2 rfl).2.2.2.1.1.2.1
theorem lw_ex (h : lw_I f0 Bf nr ln Rf il If sl z ex y ey fu t) : ex ≤ 400 := by
  cases sl
  · have := (h.2.2.1 rfl).2.2.2.1; omega
  · have := (h.2.2.2 rfl).2.2.2.1.2.2.2.2.2.2.1
    have := lw_ct h
    omega
theorem lw_ey (h : lw_I f0 Bf nr ln Rf il If sl z ex y ey fu t) : ey ≤ 400 := by
  cases sl
  · have := (h.2.2.1 rfl).2.2.2.2.1; omega
  · exact (h.2.2.2 rfl).2.2.2.1.2.2.2.2.2.2.2
/-- the verdicts are one -/
theorem lw_verdict (h : lw_I f0 Bf nr ln Rf il If sl z ex y ey fu t) : (if z.2.2.2.2.2.1 = true then 2 else if sl = true ∧ z.1 ≤ ex then 1 else 0 : Int32) = if 0 ≤ y.2.2.2 then 2 else if sl = true ∧ fu = false ∧ ey = y.1 then 1 else 0 := by
  have hb := lw_vi_br h.2.1.1 (lw_ct h)
  by_cases hv : z.2.2.2.2.2.1 = true
  · rw [if_pos hv, if_pos (hb.mpr hv)]
  · rw [if_neg hv, if_neg (fun e => hv (hb.mp e))]
    have hv : z.2.2.2.2.2.1 = false := by simpa using hv
    cases sl
    · rw [if_neg (fun e => absurd e.1 Bool.false_ne_true), if_neg (fun e => absurd e.1 Bool.false_ne_true)]
    · obtain ⟨-, -, -, hX, -⟩ := h.2.2.2 rfl
      obtain ⟨hSI, hRL, h3, h4, h5, h6, h7, h8⟩ := hX
      have e4 := h4 hv
      have e1 := hRL.1
      subst e4
      by_cases hc : z.1 ≤ ex
      · have hf : fu = false := by
          rw [← h3]
          cases hom : z.2.2.2.2.2.2
          · rfl
          · have := h6 hom; omega
        rw [if_pos ⟨rfl, hc⟩, if_pos ⟨rfl, hf, by omega⟩]
      · rw [if_neg (fun e => hc e.2), if_neg (fun e => hc (by omega))]
theorem lw_explA (h : lw_I f0 Bf nr ln Rf il If sl z ex y ey fu t) (hs : sl = true) : (if z.2.2.2.2.2.2 = true then -5 else if z.2.2.2.2.2.1 = true then 0 else if z.1 ≤ ex then 0 else 1 : Int32) = if fu = true then -5 else if 0 ≤ y.2.2.2 then 0 else if ey = y.1 then 0 else 1 := by
  have hb := lw_vi_br h.2.1.1 (lw_ct h)
  obtain ⟨-, -, -, hX, -⟩ := h.2.2.2 hs
  obtain ⟨hSI, hRL, h3, h4, h5, h6, h7, h8⟩ := hX
  rw [h3]
  by_cases hf : fu = true
  · rw [if_pos hf, if_pos hf]
  · rw [if_neg hf, if_neg hf]
    by_cases hv : z.2.2.2.2.2.1 = true
    · rw [if_pos hv, if_pos (hb.mpr hv)]
    · rw [if_neg hv, if_neg (fun e => hv (hb.mp e))]
      have e4 := h4 (by simpa using hv)
      have e1 := hRL.1
      subst e4
      by_cases hc : z.1 ≤ ex
      · rw [if_pos hc, if_pos (by omega)]
      · rw [if_neg hc, if_neg (by omega)]
theorem lw_reach (h : lw_I f0 Bf nr ln Rf il If sl z ex y ey fu t) (f1 : Nat → Int32) : (if (if z.2.2.2.2.2.1 = true then 2 else if sl = true ∧ z.1 ≤ ex then 1 else 0 : Int32) = 1 then (if pc_fd z.1 z.2.1 z.2.2.2.2.1 (pc_sf Bf f1) 401 0 (z.2.2.2.1 (pc_bk (pc_sf Bf f1))) = -1 then 0 else 1) else -6 : Int32) = if (if 0 ≤ y.2.2.2 then 2 else if sl = true ∧ fu = false ∧ ey = y.1 then 1 else 0 : Int32) = 1 then (if pc_is y.1 y.2.1 (pc_sf Bf f1) (y.1 + 1) 0 = true then 1 else 0) else -6 := by
  rw [← lw_verdict h]
  by_cases hv : (if z.2.2.2.2.2.1 = true then 2 else if sl = true ∧ z.1 ≤ ex then 1 else 0 : Int32) = 1
  · rw [if_pos hv, if_pos hv]
    have hs : sl = true := by
      cases sl
      · exfalso
        revert hv
        cases z.2.2.2.2.2.1 <;> simp
      · rfl
    obtain ⟨-, -, -, ⟨hSI, hRL, -⟩, -⟩ := h.2.2.2 hs
    have hi := pc_fdz_is (z := z) (t := pc_sf Bf f1) hSI.2.1 hSI.2.2.1
    rw [hRL.1, hRL.2.1]
    show (if pc_fdz z (pc_sf Bf f1) = -1 then 0 else 1 : Int32) = _
    by_cases hf : pc_fdz z (pc_sf Bf f1) = -1
    · rw [if_pos hf, if_neg (by rw [hi.mp hf]; exact Bool.false_ne_true)]
    · rw [if_neg hf, if_pos (by
        cases hh : pc_is z.1 z.2.1 (pc_sf Bf f1) (z.1 + 1) 0
        · exact absurd (hi.mpr hh) hf
        · rfl)]
  · rw [if_neg hv, if_neg hv]
theorem lw_mel_fu {F : Nat → Nat → Int32} {iv : Nat → Int32} {x : Int32} {n k : Nat} (hf : fu = true) : pc_mel nr ln F Bf il iv x (n + 1) k y ey fu = (y, ey, fu) := by
  subst hf
  simp [pc_mel]
theorem lw_ans_rule {sp : Nat} {Df : Nat → Int32} {qs : Nat → Nat} (hs : sp < 400) (hD : ∀ j, j < sp → Df j = nI (qs j)) (i : Int32) : pc_ra sp Df i = if i < 0 then -1 else if i < nI sp then nI (qs i.toNatClampNeg) else -1 := by
  unfold pc_ra
  by_cases h0 : i < 0
  · rw [if_pos h0, if_pos h0]
  · rw [if_neg h0, if_neg h0]
    by_cases h1 : i < nI sp
    · rw [if_pos h1, if_neg (Int32.not_le.mpr h1)]
      obtain ⟨s1, s2⟩ := pc_has_nI (ct := sp) (s := i) (by omega) (by simp only [pc_has, if_neg h0]; rw [if_neg (Int32.not_le.mpr h1)])
      exact hD _ s2
    · rw [if_neg h1, if_pos (Int32.not_lt.mp h1)]
theorem lw_ans_var {sp : Nat} {Tf : Nat → Int32} {bs : Nat → Nat → Int32} (hs : sp < 400) (hT : ∀ j, j ≤ sp → pc_q6 (pc_stt Tf j) (bs j)) (i v : Int32) : (if pc_hst sp i = true ∧ pc_isV v = true then Tf (6 * i.toNatClampNeg + v.toNatClampNeg) else 0) = if i < 0 then 0 else if nI sp < i then 0 else if pc_isV v = true then bs i.toNatClampNeg v.toNatClampNeg else 0 := by
  by_cases h0 : i < 0
  · rw [if_pos h0, if_neg (fun e => by have := e.1; simp [pc_hst, h0] at this)]
  · rw [if_neg h0]
    by_cases h1 : nI sp < i
    · rw [if_pos h1, if_neg (fun e => by have := e.1; simp [pc_hst, h0, h1] at this)]
    · rw [if_neg h1]
      have hh : pc_hst sp i = true := by
        simp only [pc_hst, if_neg h0, if_neg h1]
        rw [if_neg (fun z => h1 (Int32.lt_of_lt_of_le (show nI sp < 400 from nI_lt (b := 400) hs (by decide)) z))]
      obtain ⟨s1, s2, s3⟩ := pc_hst_nI (sp := sp) (i := i) (by omega) hh
      by_cases hv : pc_isV v = true
      · rw [if_pos ⟨hh, hv⟩, if_pos hv]
        obtain ⟨v1, v2⟩ := pc_isV_nI hv
        exact hT _ s2 _ v2
      · rw [if_neg (fun e => hv e.2), if_neg hv]
end LI
