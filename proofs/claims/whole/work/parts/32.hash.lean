/-! ===== looking states up ===== -/
theorem pc_e6_iff' {V : Nat → Int32} {s : Nat} {t : Nat → Int32} : ∀ (n i : Nat), 6 < i + n → (pc_e6 V s t n i = true ↔ ∀ v, i ≤ v → v < 6 → V (s * 6 + v) = t v)
  | 0, i, h => ⟨fun _ v h1 h2 => absurd h2 (by omega), fun _ => rfl⟩
  | n + 1, i, h => by
    unfold pc_e6
    by_cases hi : i < 6
    · rw [if_pos hi]
      by_cases hc : V (s * 6 + i) = t i
      · rw [if_pos hc, pc_e6_iff' n (i + 1) (by omega)]
        constructor
        · intro q v h1 h2
          by_cases hv : v = i
          · subst hv; exact hc
          · exact q v (by omega) h2
        · intro q v h1 h2; exact q v (by omega) h2
      · rw [if_neg hc]
        exact ⟨fun q => (by cases q), fun q => absurd (q i (Nat.le_refl _) hi) hc⟩
    · rw [if_neg hi]
      exact ⟨fun _ v h1 h2 => absurd h2 (by omega), fun _ => rfl⟩
theorem pc_e6_iff {V : Nat → Int32} {s : Nat} {t : Nat → Int32} : pc_e6 V s t 7 0 = true ↔ ∀ v, v < 6 → V (6 * s + v) = t v := by
  rw [pc_e6_iff' 7 0 (by omega)]
  constructor
  · intro q v h; rw [Nat.mul_comm]; exact q v (by omega) h
  · intro q v _ h; rw [Nat.mul_comm]; exact q v h
theorem pc_is_iff' {ct : Nat} {V t : Nat → Int32} : ∀ (n i : Nat), ct < i + n → (pc_is ct V t n i = true ↔ ∃ j, i ≤ j ∧ j < ct ∧ pc_e6 V j t 7 0 = true)
  | 0, i, h => ⟨fun q => (by cases q), fun ⟨j, h1, h2, _⟩ => absurd h2 (by omega)⟩
  | n + 1, i, h => by
    unfold pc_is
    by_cases hi : i < ct
    · rw [if_pos hi]
      by_cases hc : pc_e6 V i t 7 0 = true
      · rw [if_pos hc]
        exact ⟨fun _ => ⟨i, Nat.le_refl _, hi, hc⟩, fun _ => rfl⟩
      · rw [if_neg hc, pc_is_iff' n (i + 1) (by omega)]
        constructor
        · rintro ⟨j, h1, h2, h3⟩; exact ⟨j, by omega, h2, h3⟩
        · rintro ⟨j, h1, h2, h3⟩
          refine ⟨j, ?_, h2, h3⟩
          by_cases hj : j = i
          · subst hj; exact absurd h3 hc
          · omega
    · rw [if_neg hi]
      exact ⟨fun q => (by cases q), fun ⟨j, h1, h2, _⟩ => absurd h2 (by omega)⟩
theorem pc_is_iff {ct : Nat} {V t : Nat → Int32} : pc_is ct V t (ct + 1) 0 = true ↔ ∃ j, j < ct ∧ pc_e6 V j t 7 0 = true := by
  rw [pc_is_iff' (ct + 1) 0 (by omega)]
  exact ⟨fun ⟨j, _, h2, h3⟩ => ⟨j, h2, h3⟩, fun ⟨j, h2, h3⟩ => ⟨j, Nat.zero_le _, h2, h3⟩⟩
theorem pc_mx_congr {s t : Nat → Int32} (h : ∀ v, v < 6 → s v = t v) : ∀ (n i : Nat) (m : Int32), pc_mx s n i m = pc_mx t n i m
  | 0, i, m => rfl
  | n + 1, i, m => by
    unfold pc_mx
    split
    · rename_i hi
      rw [h i hi]; exact pc_mx_congr h n (i + 1) _
    · rfl
theorem pc_bk_congr {s t : Nat → Int32} (h : ∀ v, v < 6 → s v = t v) : pc_bk s = pc_bk t := by
  unfold pc_bk
  rw [pc_mx_congr h]
/-- x is the last state below m in bucket b -/
def pc_LB (V : Nat → Int32) (m b : Nat) (x : Int32) : Prop := (x = -1 ∧ ∀ i, i < m → pc_bk (pc_stt V i) ≠ b) ∨ ∃ s, s < m ∧ x = nI s ∧ pc_bk (pc_stt V s) = b ∧ ∀ i, s < i → i < m → pc_bk (pc_stt V i) ≠ b
def pc_HC (ct : Nat) (V N O : Nat → Int32) : Prop := (∀ b, b < 512 → pc_LB V ct b (N b)) ∧ ∀ j, j < ct → pc_LB V j (pc_bk (pc_stt V j)) (O j)
theorem pc_fd_LB {ct : Nat} {V N O t : Nat → Int32} (hc : ct ≤ 400) (hH : pc_HC ct V N O) : ∀ (n i m : Nat) (s : Int32), 400 < i + n → i + m ≤ 400 → m ≤ ct → pc_LB V m (pc_bk t) s → (pc_fd ct V O t n i s = -1 ∧ ∀ j, j < m → ¬ pc_e6 V j t 7 0 = true) ∨ ∃ q, q < m ∧ pc_fd ct V O t n i s = nI q ∧ pc_e6 V q t 7 0 = true
  | 0, i, m, s, hn, hi, hm, _ => absurd hn (by omega)
  | n + 1, i, m, s, hn, hi, hm, hl => by
    have he : ∀ j, pc_e6 V j t 7 0 = true → pc_bk (pc_stt V j) = pc_bk t := fun j hj => pc_bk_congr (pc_e6_iff.mp hj)
    rcases hl with ⟨h1, h2⟩ | ⟨q, h1, h2, h3, h4⟩
    · left
      have hh : pc_has ct s = false := by rw [h1]; simp [pc_has]
      refine ⟨?_, fun j hj hz => h2 j hj (he j hz)⟩
      unfold pc_fd
      rw [hh]
      simp
    · subst h2
      have hh : pc_has ct (nI q) = true := pc_has_t (by omega) (by omega)
      have hcl : (nI q).toNatClampNeg = q := nI_clamp (by omega)
      have hu : pc_fd ct V O t (n + 1) i (nI q) = if pc_e6 V q t 7 0 = true then nI q else pc_fd ct V O t n (i + 1) (O q) := by
        show (if i < 400 then (if pc_has ct (nI q) = true then (if pc_e6 V (nI q).toNatClampNeg t 7 0 = true then nI q else pc_fd ct V O t n (i + 1) (O (nI q).toNatClampNeg)) else -1) else -1) = _
        rw [if_pos (by omega), if_pos hh, hcl]
      rw [hu]
      by_cases hq : pc_e6 V q t 7 0 = true
      · rw [if_pos hq]
        exact Or.inr ⟨q, h1, rfl, hq⟩
      · rw [if_neg hq]
        have hO := hH.2 q (by omega)
        rw [h3] at hO
        rcases pc_fd_LB hc hH n (i + 1) q (O q) (by omega) (by omega) (by omega) hO with ⟨a1, a2⟩ | ⟨p, a1, a2, a3⟩
        · left
          refine ⟨a1, fun j hj hz => ?_⟩
          rcases Nat.lt_trichotomy j q with z | z | z
          · exact a2 j z hz
          · subst z; exact hq hz
          · exact h4 j z hj (he j hz)
        · exact Or.inr ⟨p, by omega, a2, a3⟩
/-- none twice -/
def pc_DS (ct : Nat) (V : Nat → Int32) : Prop := ∀ i j, i < ct → j < ct → (∀ v, v < 6 → V (6 * i + v) = V (6 * j + v)) → i = j
theorem pc_fdz_cases {z : pc_Z} {t : Nat → Int32} (hc : z.1 ≤ 400) (hH : pc_HC z.1 z.2.1 z.2.2.2.1 z.2.2.2.2.1) : (pc_fdz z t = -1 ∧ ∀ j, j < z.1 → ¬ pc_e6 z.2.1 j t 7 0 = true) ∨ ∃ q, q < z.1 ∧ pc_fdz z t = nI q ∧ pc_e6 z.2.1 q t 7 0 = true :=
  pc_fd_LB hc hH 401 0 z.1 _ (by omega) (by omega) (Nat.le_refl _) (hH.1 (pc_bk t) (pc_bk_lt t))
theorem pc_fdz_is {z : pc_Z} {t : Nat → Int32} (hc : z.1 ≤ 400) (hH : pc_HC z.1 z.2.1 z.2.2.2.1 z.2.2.2.2.1) : pc_fdz z t = -1 ↔ pc_is z.1 z.2.1 t (z.1 + 1) 0 = false := by
  rcases pc_fdz_cases (t := t) hc hH with ⟨h1, h2⟩ | ⟨q, h1, h2, h3⟩
  · refine ⟨fun _ => ?_, fun _ => h1⟩
    cases hz : pc_is z.1 z.2.1 t (z.1 + 1) 0 with
    | false => rfl
    | true =>
      obtain ⟨j, j1, j2⟩ := pc_is_iff.mp hz
      exact absurd j2 (h2 j j1)
  · rw [h2]
    refine ⟨fun z => absurd z (pc_m1 (by omega)), fun hz => ?_⟩
    have := pc_is_iff.mpr ⟨q, h1, h3⟩
    rw [hz] at this; cases this
theorem pc_fdz_eq {z : pc_Z} {t : Nat → Int32} {s : Nat} (hc : z.1 ≤ 400) (hH : pc_HC z.1 z.2.1 z.2.2.2.1 z.2.2.2.2.1) (hD : pc_DS z.1 z.2.1) (hs : s < z.1) : pc_fdz z t = nI s ↔ pc_e6 z.2.1 s t 7 0 = true := by
  rcases pc_fdz_cases (t := t) hc hH with ⟨h1, h2⟩ | ⟨q, h1, h2, h3⟩
  · rw [h1]
    exact ⟨fun z => absurd z.symm (pc_m1 (by omega)), fun hz => absurd hz (h2 s hs)⟩
  · rw [h2]
    constructor
    · intro hz
      have : q = s := (nI_eq (by omega) (by omega)).mp hz
      subst this; exact h3
    · intro hz
      have e1 := pc_e6_iff.mp hz
      have e2 := pc_e6_iff.mp h3
      rw [hD q s h1 hs (fun v hv => (e2 v hv).trans (e1 v hv).symm)]
/-! storing one more -/
theorem pc_wr_old {V t : Nat → Int32} {c i v : Nat} (hi : i < c) (hv : v < 6) : pc_wr V c t (6 * i + v) = V (6 * i + v) := by
  unfold pc_wr
  rw [if_neg (by omega)]
theorem pc_wr_new {V t : Nat → Int32} {c v : Nat} (hv : v < 6) : pc_wr V c t (6 * c + v) = t v := by
  unfold pc_wr
  rw [if_pos (by omega)]
  congr 1
  omega
theorem pc_LB_wr {V t : Nat → Int32} {c m b : Nat} {x : Int32} (hm : m ≤ c) (h : pc_LB V m b x) : pc_LB (pc_wr V c t) m b x := by
  have e : ∀ i, i < m → pc_bk (pc_stt (pc_wr V c t) i) = pc_bk (pc_stt V i) := fun i hi => pc_bk_congr (fun v hv => pc_wr_old (by omega) hv)
  rcases h with ⟨h1, h2⟩ | ⟨s, h1, h2, h3, h4⟩
  · exact Or.inl ⟨h1, fun i hi => by rw [e i hi]; exact h2 i hi⟩
  · exact Or.inr ⟨s, h1, h2, by rw [e s h1]; exact h3, fun i h5 h6 => by rw [e i h6]; exact h4 i h5 h6⟩
theorem pc_HC_sto {ct : Nat} {V N O t : Nat → Int32} (h : pc_HC ct V N O) : pc_HC (ct + 1) (pc_wr V ct t) (upd N (pc_bk t) (nI ct)) (upd O ct (N (pc_bk t))) := by
  have en : pc_bk (pc_stt (pc_wr V ct t) ct) = pc_bk t := pc_bk_congr (fun v hv => pc_wr_new hv)
  refine ⟨fun b hb => ?_, fun j hj => ?_⟩
  · by_cases hbt : b = pc_bk t
    · subst hbt
      refine Or.inr ⟨ct, by omega, by simp [upd], en, fun i h1 h2 => absurd h2 (by omega)⟩
    · have e1 : upd N (pc_bk t) (nI ct) b = N b := by simp [upd, hbt]
      rw [e1]
      rcases pc_LB_wr (t := t) (Nat.le_refl ct) (h.1 b hb) with ⟨h1, h2⟩ | ⟨s, h1, h2, h3, h4⟩
      · refine Or.inl ⟨h1, fun i hi => ?_⟩
        by_cases hic : i = ct
        · subst hic; rw [en]; exact fun z => hbt z.symm
        · exact h2 i (by omega)
      · refine Or.inr ⟨s, by omega, h2, h3, fun i h5 h6 => ?_⟩
        by_cases hic : i = ct
        · subst hic; rw [en]; exact fun z => hbt z.symm
        · exact h4 i h5 (by omega)
  · by_cases hjc : j = ct
    · subst hjc
      have e1 : upd O j (N (pc_bk t)) j = N (pc_bk t) := by simp [upd]
      rw [e1, en]
      exact pc_LB_wr (Nat.le_refl j) (h.1 (pc_bk t) (pc_bk_lt t))
    · have e1 : upd O ct (N (pc_bk t)) j = O j := by simp [upd, hjc]
      have e2 : pc_bk (pc_stt (pc_wr V ct t) j) = pc_bk (pc_stt V j) := pc_bk_congr (fun v hv => pc_wr_old (by omega) hv)
      rw [e1, e2]
      exact pc_LB_wr (by omega) (h.2 j (by omega))
theorem pc_DS_sto {ct : Nat} {V t : Nat → Int32} (h : pc_DS ct V) (hn : ∀ j, j < ct → ¬ pc_e6 V j t 7 0 = true) : pc_DS (ct + 1) (pc_wr V ct t) := by
  intro i j hi hj he
  by_cases h1 : i = ct
  · by_cases h2 : j = ct
    · omega
    · exfalso
      subst h1
      refine hn j (by omega) (pc_e6_iff.mpr (fun v hv => ?_))
      have := he v hv
      rw [pc_wr_new hv, pc_wr_old (by omega) hv] at this
      exact this.symm
  · by_cases h2 : j = ct
    · exfalso
      subst h2
      refine hn i (by omega) (pc_e6_iff.mpr (fun v hv => ?_))
      have := he v hv
      rw [pc_wr_new hv, pc_wr_old (by omega) hv] at this
      exact this
    · refine h i j (by omega) (by omega) (fun v hv => ?_)
      have := he v hv
      rwa [pc_wr_old (by omega) hv, pc_wr_old (by omega) hv] at this
theorem pc_HC_0 {V O : Nat → Int32} {N : Nat → Int32} (h : ∀ b, b < 512 → N b = -1) : pc_HC 0 V N O := ⟨fun b hb => Or.inl ⟨h b hb, fun i hi => absurd hi (by omega)⟩, fun j hj => absurd hj (by omega)⟩
