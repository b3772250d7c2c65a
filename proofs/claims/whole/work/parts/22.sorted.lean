/-! ===== the two standard forms are one ===== -/
/-- how many numbers below n -/
def pc_cn (P : Nat → Bool) : Nat → Nat
  | 0 => 0
  | n + 1 => pc_cn P n + (if P n = true then 1 else 0)
theorem pc_cn_mono {P Q : Nat → Bool} : ∀ (n : Nat), (∀ u, u < n → P u = true → Q u = true) → pc_cn P n ≤ pc_cn Q n
  | 0, _ => Nat.le_refl _
  | n + 1, h => by
    have ih := pc_cn_mono n (fun u hu => h u (by omega))
    have hn := h n (by omega)
    unfold pc_cn
    by_cases hp : P n = true
    · rw [if_pos hp, if_pos (hn hp)]; omega
    · rw [if_neg hp]; split <;> omega
theorem pc_cn_congr {P Q : Nat → Bool} (n : Nat) (h : ∀ u, u < n → P u = Q u) : pc_cn P n = pc_cn Q n :=
  Nat.le_antisymm (pc_cn_mono n (fun u hu hp => by rw [← h u hu]; exact hp)) (pc_cn_mono n (fun u hu hp => by rw [h u hu]; exact hp))
theorem pc_cn_strict {P Q : Nat → Bool} : ∀ (n : Nat), (∀ u, u < n → P u = true → Q u = true) → ∀ w, w < n → P w = false → Q w = true → pc_cn P n + 1 ≤ pc_cn Q n
  | 0, _, w, hw, _, _ => absurd hw (by omega)
  | n + 1, h, w, hw, hp, hq => by
    have hn := h n (by omega)
    unfold pc_cn
    by_cases hwn : w = n
    · subst hwn
      have ih := pc_cn_mono w (fun u hu => h u (by omega))
      rw [hp, hq]
      simp
      exact ih
    · have ih := pc_cn_strict n (fun u hu => h u (by omega)) w (by omega) hp hq
      by_cases hpn : P n = true
      · rw [if_pos hpn, if_pos (hn hpn)]; omega
      · rw [if_neg hpn]; split <;> omega
theorem pc_cn_le {P : Nat → Bool} : ∀ (n m : Nat), n ≤ m → pc_cn P n ≤ pc_cn P m
  | n, 0, h => by rw [show n = 0 by omega]; exact Nat.le_refl _
  | n, m + 1, h => by
    by_cases hn : n = m + 1
    · subst hn; exact Nat.le_refl _
    · have := pc_cn_le (P := P) n m (by omega)
      have e : pc_cn P (m + 1) = pc_cn P m + (if P m = true then 1 else 0) := rfl
      omega
theorem pc_cn_one {P Q : Nat → Bool} {a : Nat} : ∀ (n : Nat), a < n → (∀ u, u < n → u ≠ a → P u = Q u) → pc_cn P n + (if Q a = true then 1 else 0) = pc_cn Q n + (if P a = true then 1 else 0)
  | 0, ha, _ => absurd ha (by omega)
  | n + 1, ha, h => by
    unfold pc_cn
    by_cases han : a = n
    · subst han
      have := pc_cn_congr (P := P) (Q := Q) a (fun u hu => h u (by omega) (by omega))
      rw [this]; omega
    · have ih := pc_cn_one n (by omega) (fun u hu hne => h u (by omega) hne)
      rw [h n (by omega) (fun z => han z.symm)]
      omega
theorem pc_cn_swap {P Q : Nat → Bool} {a b n : Nat} (hab : a ≠ b) (ha : a < n) (hb : b < n) (h1 : Q a = P b) (h2 : Q b = P a) (h : ∀ u, u < n → u ≠ a → u ≠ b → Q u = P u) : pc_cn Q n = pc_cn P n := by
  have e1 := pc_cn_one (P := fun u => if u = a then P b else P u) (Q := P) (a := a) n ha (fun u _ hne => by simp [hne])
  have e2 := pc_cn_one (P := Q) (Q := fun u => if u = a then P b else P u) (a := b) n hb (fun u hu hne => by
    by_cases hua : u = a
    · subst hua; simp [h1]
    · simp [hua, h u hu hua hne])
  simp only [if_pos rfl, if_true, if_neg (Ne.symm hab)] at e1 e2
  rw [h2] at e2
  omega
/-- of a total order each rank is somebody's -/
theorem pc_cn_ex {S : Nat → Bool} {L : Nat → Nat → Bool} (irr : ∀ u, L u u = false) (tr : ∀ u v w, L u v = true → L v w = true → L u w = true) (tot : ∀ u v, u ≠ v → L u v = true ∨ L v u = true) : ∀ (n k : Nat), k < pc_cn S n → ∃ u, u < n ∧ S u = true ∧ pc_cn (fun w => S w && L w u) n = k
  | 0, k, h => absurd h (by unfold pc_cn; omega)
  | n + 1, k, h => by
    have e : pc_cn S (n + 1) = pc_cn S n + (if S n = true then 1 else 0) := rfl
    by_cases hs : S n = true
    · rw [e, if_pos hs] at h
      have cx : ∀ u, pc_cn (fun w => S w && L w u) (n + 1) = pc_cn (fun w => S w && L w u) n + (if L n u = true then 1 else 0) := fun u => by
        show _ + (if (S n && L n u) = true then 1 else 0) = _
        rw [hs, Bool.true_and]
      have mo : ∀ u, L n u = true → pc_cn (fun w => S w && L w n) n ≤ pc_cn (fun w => S w && L w u) n := fun u hu => pc_cn_mono n (fun w _ hw => by
        rw [Bool.and_eq_true] at hw ⊢
        exact ⟨hw.1, tr w n u hw.2 hu⟩)
      rcases Nat.lt_trichotomy k (pc_cn (fun w => S w && L w n) n) with hk | hk | hk
      · have hle : pc_cn (fun w => S w && L w n) n ≤ pc_cn S n := pc_cn_mono n (fun w _ hw => by rw [Bool.and_eq_true] at hw; exact hw.1)
        obtain ⟨u, h1, h2, h3⟩ := pc_cn_ex (S := S) irr tr tot n k (by omega)
        refine ⟨u, by omega, h2, ?_⟩
        rw [cx, h3]
        cases hl : L n u with
        | false => simp
        | true => have := mo u hl; omega
      · exact ⟨n, by omega, hs, by rw [cx, irr]; simp [hk]⟩
      · obtain ⟨u, h1, h2, h3⟩ := pc_cn_ex (S := S) irr tr tot n (k - 1) (by omega)
        refine ⟨u, by omega, h2, ?_⟩
        rw [cx, h3]
        cases hl : L n u with
        | true => simp; omega
        | false =>
          exfalso
          have hun : L u n = true := (tot u n (by omega)).resolve_right (by rw [hl]; decide)
          have := pc_cn_strict (P := fun w => S w && L w u) (Q := fun w => S w && L w n) n (fun w _ hw => by
            rw [Bool.and_eq_true] at hw ⊢
            exact ⟨hw.1, tr w u n hw.2 hun⟩) u h1 (by simp [irr]) (by simp [h2, hun])
          omega
    · rw [e, if_neg hs] at h
      obtain ⟨u, h1, h2, h3⟩ := pc_cn_ex (S := S) irr tr tot n k (by omega)
      refine ⟨u, by omega, h2, ?_⟩
      show _ + (if (S n && L n u) = true then 1 else 0) = k
      simp [hs, h3]
/-! the reference's ranks are counts -/
def pc_bs (B : Nat → Int32) (v : Nat) : Nat → Bool := fun w => decide (B w = B v)
def pc_lx (s : Nat → Int32) (w u : Nat) : Bool := decide (s w < s u ∨ (s w = s u ∧ w < u))
theorem pc_lx_irr (s : Nat → Int32) (u : Nat) : pc_lx s u u = false := by simp [pc_lx]
theorem pc_i_lt {x y : Int32} : x < y ↔ x.toInt < y.toInt := Int32.lt_iff_toInt_lt
theorem pc_i_le {x y : Int32} : x ≤ y ↔ x.toInt ≤ y.toInt := Int32.le_iff_toInt_le
theorem pc_i_eq {x y : Int32} : x = y ↔ x.toInt = y.toInt := Int32.toInt_inj.symm
theorem pc_lx_tr (s : Nat → Int32) (u v w : Nat) (h1 : pc_lx s u v = true) (h2 : pc_lx s v w = true) : pc_lx s u w = true := by
  simp only [pc_lx, decide_eq_true_eq, pc_i_lt, pc_i_eq] at h1 h2 ⊢
  omega
theorem pc_lx_tot (s : Nat → Int32) (u v : Nat) (h : u ≠ v) : pc_lx s u v = true ∨ pc_lx s v u = true := by
  simp only [pc_lx, decide_eq_true_eq, pc_i_lt, pc_i_eq]
  omega
theorem pc_pl_cn {B s : Nat → Int32} {v : Nat} : ∀ (n u m : Nat), u ≤ 6 → 6 < u + n → pc_pl B s v n u m + pc_cn (fun w => pc_bs B v w && pc_lx s w v) u = m + pc_cn (fun w => pc_bs B v w && pc_lx s w v) 6
  | 0, u, m, h, h2 => absurd h2 (by omega)
  | n + 1, u, m, h, h2 => by
    unfold pc_pl
    by_cases hu : u < 6
    · rw [if_pos hu]
      have e : pc_cn (fun w => pc_bs B v w && pc_lx s w v) (u + 1) = pc_cn (fun w => pc_bs B v w && pc_lx s w v) u + (if (pc_bs B v u && pc_lx s u v) = true then 1 else 0) := rfl
      by_cases hc : ¬ u = v ∧ B u = B v ∧ (s u < s v ∨ (s u = s v ∧ u < v))
      · rw [if_pos hc]
        have ih := pc_pl_cn (B := B) (s := s) (v := v) n (u + 1) (m + 1) (by omega) (by omega)
        rw [if_pos (by simp [pc_bs, pc_lx, hc.2.1, hc.2.2])] at e
        omega
      · rw [if_neg hc]
        have ih := pc_pl_cn (B := B) (s := s) (v := v) n (u + 1) m (by omega) (by omega)
        rw [if_neg (by
          intro hz
          rw [Bool.and_eq_true] at hz
          have z1 : B u = B v := of_decide_eq_true hz.1
          have z2 : s u < s v ∨ (s u = s v ∧ u < v) := of_decide_eq_true hz.2
          refine hc ⟨fun q => ?_, z1, z2⟩
          subst q
          simp only [pc_i_lt] at z2
          omega)] at e
        omega
    · rw [if_neg hu, show u = 6 by omega]
theorem pc_rk_cn {B : Nat → Int32} {v : Nat} : ∀ (n u m : Nat), u ≤ v → v < u + n → pc_rk B v n u m + pc_cn (pc_bs B v) u = m + pc_cn (pc_bs B v) v
  | 0, u, m, h, h2 => absurd h2 (by omega)
  | n + 1, u, m, h, h2 => by
    unfold pc_rk
    by_cases hu : u < v
    · rw [if_pos hu]
      have e : pc_cn (pc_bs B v) (u + 1) = pc_cn (pc_bs B v) u + (if pc_bs B v u = true then 1 else 0) := rfl
      by_cases hc : B u = B v
      · rw [if_pos hc]
        have ih := pc_rk_cn (B := B) (v := v) n (u + 1) (m + 1) (by omega) (by omega)
        rw [if_pos (by simp [pc_bs, hc])] at e
        omega
      · rw [if_neg hc]
        have ih := pc_rk_cn (B := B) (v := v) n (u + 1) m (by omega) (by omega)
        rw [if_neg (by simp [pc_bs, hc])] at e
        omega
    · rw [if_neg hu, show u = v by omega]
theorem pc_sl_some {B s : Nat → Int32} {v k : Nat} : ∀ (n u : Nat), 6 < u + n → (∃ w, u ≤ w ∧ w < 6 ∧ B w = B v ∧ pc_pl B s w 7 0 0 = k) → ∃ w, w < 6 ∧ B w = B v ∧ pc_pl B s w 7 0 0 = k ∧ pc_sl B s v k n u = s w
  | 0, u, h, ⟨w, h1, h2, _⟩ => absurd h (by omega)
  | n + 1, u, h, ⟨w, h1, h2, h3, h4⟩ => by
    unfold pc_sl
    rw [if_pos (show u < 6 by omega)]
    by_cases hc : B u = B v ∧ pc_pl B s u 7 0 0 = k
    · rw [if_pos hc]
      exact ⟨u, by omega, hc.1, hc.2, rfl⟩
    · rw [if_neg hc]
      refine pc_sl_some n (u + 1) (by omega) ⟨w, ?_, h2, h3, h4⟩
      by_cases hw : w = u
      · subst hw; exact absurd ⟨h3, h4⟩ hc
      · omega
/-- below x, up to x, in v's block -/
def pc_c1 (B s : Nat → Int32) (v : Nat) (x : Int32) : Nat := pc_cn (fun w => pc_bs B v w && decide (s w < x)) 6
def pc_c2 (B s : Nat → Int32) (v : Nat) (x : Int32) : Nat := pc_cn (fun w => pc_bs B v w && decide (s w ≤ x)) 6
theorem pc_c_uniq {B s : Nat → Int32} {v k : Nat} {x y : Int32} (h1 : pc_c1 B s v x ≤ k) (h2 : k < pc_c2 B s v x) (h3 : pc_c1 B s v y ≤ k) (h4 : k < pc_c2 B s v y) : x = y := by
  have key : ∀ a b : Int32, a < b → pc_c2 B s v a ≤ pc_c1 B s v b := fun a b hab => pc_cn_mono 6 (fun w _ hw => by
    simp only [Bool.and_eq_true, decide_eq_true_eq, pc_i_lt, pc_i_le] at hw hab ⊢
    exact ⟨hw.1, by omega⟩)
  rcases Int.lt_trichotomy x.toInt y.toInt with h | h | h
  · have := key x y (pc_i_lt.mpr h); omega
  · exact pc_i_eq.mpr h
  · have := key y x (pc_i_lt.mpr h); omega
/-! the exchange sort -/
theorem pc_jn_iff {B : Nat → Int32} {a b : Nat} : pc_jn B a b = true ↔ ¬ B a = 0 ∧ B a = B b := by
  unfold pc_jn
  by_cases h0 : B a = 0
  · simp [h0]
  · by_cases h1 : B a = B b
    · rw [if_neg h0, if_pos h1]; exact ⟨fun _ => ⟨h0, h1⟩, fun _ => rfl⟩
    · rw [if_neg h0, if_neg h1]; exact ⟨fun z => (by cases z), fun z => absurd z.2 h1⟩
/-- a property of states that exchanges within a block keep -/
theorem pc_si_keep {B : Nat → Int32} {a : Nat} (Q : (Nat → Int32) → Prop) (hQ : ∀ (t : Nat → Int32) (b : Nat), a < b → b < 6 → ¬ B a = 0 → B a = B b → ¬ t a ≤ t b → Q t → Q (upd (upd t a (t b)) b (t a))) : ∀ (n b : Nat) (t : Nat → Int32), a < b → Q t → Q (pc_si B a n b t)
  | 0, b, t, _, h => h
  | n + 1, b, t, hab, h => by
    unfold pc_si
    split
    · rename_i hb
      refine pc_si_keep Q hQ n (b + 1) _ (by omega) ?_
      unfold pc_sw
      split
      · rename_i hc
        obtain ⟨j1, j2⟩ := pc_jn_iff.mp hc.1
        exact hQ t b hab hb j1 j2 hc.2 h
      · exact h
    · exact h
theorem pc_so_keep {B : Nat → Int32} (Q : (Nat → Int32) → Prop) (hQ : ∀ (t : Nat → Int32) (a b : Nat), a < b → b < 6 → ¬ B a = 0 → B a = B b → Q t → Q (upd (upd t a (t b)) b (t a))) : ∀ (n a : Nat) (t : Nat → Int32), Q t → Q (pc_so B n a t)
  | 0, a, t, h => h
  | n + 1, a, t, h => by
    unfold pc_so
    split
    · exact pc_so_keep Q hQ n (a + 1) _ (pc_si_keep Q (fun t b h1 h2 h3 h4 _ hq => hQ t a b h1 h2 h3 h4 hq) 7 (a + 1) t (by omega) h)
    · exact h
theorem pc_upd_s (t : Nat → Int32) (a b : Nat) (h : a ≠ b) : (upd (upd t a (t b)) b (t a)) a = t b ∧ (upd (upd t a (t b)) b (t a)) b = t a ∧ ∀ d, d ≠ a → d ≠ b → (upd (upd t a (t b)) b (t a)) d = t d := by
  refine ⟨by simp [upd, h], by simp [upd], fun d h1 h2 => by simp [upd, h1, h2]⟩
/-- in order up to place a -/
def pc_od (B t : Nat → Int32) (a : Nat) : Prop := ∀ c d, c < a → c < d → d < 6 → ¬ B c = 0 → B c = B d → t c ≤ t d
theorem pc_od_sw {B t : Nat → Int32} {a b : Nat} (hab : a < b) (hb : b < 6) (j : B a = B b) (h : pc_od B t a) : pc_od B (upd (upd t a (t b)) b (t a)) a := by
  obtain ⟨e1, e2, e3⟩ := pc_upd_s t a b (by omega)
  intro c d h1 h2 h3 h4 h5
  rw [e3 c (by omega) (by omega)]
  by_cases hda : d = a
  · subst hda; rw [e1]; exact h c b h1 (by omega) hb h4 (h5.trans j)
  · by_cases hdb : d = b
    · subst hdb; rw [e2]; exact h c a h1 (by omega) (by omega) h4 (h5.trans j.symm)
    · rw [e3 d hda hdb]; exact h c d h1 h2 h3 h4 h5
theorem pc_si_od {B : Nat → Int32} {a : Nat} : ∀ (n b : Nat) (t : Nat → Int32), a < b → b ≤ 6 → 6 < b + n → pc_od B t a → (∀ d, a < d → d < b → ¬ B a = 0 → B a = B d → t a ≤ t d) → pc_od B (pc_si B a n b t) (a + 1)
  | 0, b, t, _, h6, h, _, _ => absurd h (by omega)
  | n + 1, b, t, hab, h6, hn, ho, hd => by
    unfold pc_si
    split
    · rename_i hb
      unfold pc_sw
      split
      · rename_i hc
        obtain ⟨j1, j2⟩ := pc_jn_iff.mp hc.1
        obtain ⟨e1, e2, e3⟩ := pc_upd_s t a b (by omega)
        refine pc_si_od n (b + 1) _ (by omega) (by omega) (by omega) (pc_od_sw hab hb j2 ho) (fun d h1 h2 h3 h4 => ?_)
        rw [e1]
        have hlt : t b < t a := Int32.not_le.mp hc.2
        by_cases hdb : d = b
        · subst hdb; rw [e2]; exact Int32.le_of_lt hlt
        · rw [e3 d (by omega) hdb]; exact Int32.le_trans (Int32.le_of_lt hlt) (hd d h1 (by omega) h3 h4)
      · rename_i hc
        refine pc_si_od n (b + 1) t (by omega) (by omega) (by omega) ho (fun d h1 h2 h3 h4 => ?_)
        by_cases hdb : d = b
        · subst hdb
          exact Decidable.byContradiction (fun z => hc ⟨pc_jn_iff.mpr ⟨h3, h4⟩, z⟩)
        · exact hd d h1 (by omega) h3 h4
    · intro c d h1 h2 h3 h4 h5
      by_cases hca : c = a
      · subst hca; exact hd d h2 (by omega) h4 h5
      · exact ho c d (by omega) h2 h3 h4 h5
theorem pc_so_od {B : Nat → Int32} : ∀ (n a : Nat) (t : Nat → Int32), a ≤ 6 → 6 < a + n → pc_od B t a → pc_od B (pc_so B n a t) 6
  | 0, a, t, ha, h, _ => absurd h (by omega)
  | n + 1, a, t, ha, hn, ho => by
    unfold pc_so
    split
    · exact pc_so_od n (a + 1) _ (by omega) (by omega) (pc_si_od 7 (a + 1) t (by omega) (by omega) (by omega) ho (fun d h1 h2 _ _ => absurd h2 (by omega)))
    · rename_i h6
      rwa [show a = 6 by omega] at ho
theorem pc_sf_od (B s : Nat → Int32) : pc_od B (pc_sf B s) 6 := pc_so_od 7 0 s (by omega) (by omega) (fun c d h => absurd h (by omega))
theorem pc_sf_0 {B s : Nat → Int32} {v : Nat} (h : B v = 0) : pc_sf B s v = s v := by
  refine pc_so_keep (B := B) (fun t => t v = s v) (fun t a b h1 h2 h3 h4 hq => ?_) 7 0 s rfl
  obtain ⟨-, -, e3⟩ := pc_upd_s t a b (by omega)
  show (upd (upd t a (t b)) b (t a)) v = s v
  rw [e3 v (fun z => h3 (z ▸ h)) (fun z => h3 (h4.trans (z ▸ h)))]
  exact hq
/-- counts of values in a block are kept by exchanges in blocks -/
theorem pc_cnt_sw {B t : Nat → Int32} {a b v : Nat} (hab : a < b) (hb : b < 6) (j : B a = B b) (g : Int32 → Bool) : pc_cn (fun w => pc_bs B v w && g ((upd (upd t a (t b)) b (t a)) w)) 6 = pc_cn (fun w => pc_bs B v w && g (t w)) 6 := by
  obtain ⟨e1, e2, e3⟩ := pc_upd_s t a b (by omega)
  refine pc_cn_swap (a := a) (b := b) (by omega) (by omega) hb ?_ ?_ (fun u _ h1 h2 => ?_)
  · simp only [e1, pc_bs, j]
  · simp only [e2, pc_bs, j]
  · simp only [e3 u h1 h2]
theorem pc_cnt_sf {B s : Nat → Int32} {v : Nat} (g : Int32 → Bool) : pc_cn (fun w => pc_bs B v w && g (pc_sf B s w)) 6 = pc_cn (fun w => pc_bs B v w && g (s w)) 6 := by
  refine pc_so_keep (B := B) (fun t => pc_cn (fun w => pc_bs B v w && g (t w)) 6 = pc_cn (fun w => pc_bs B v w && g (s w)) 6) (fun t a b h1 h2 h3 h4 hq => ?_) 7 0 s rfl
  exact (pc_cnt_sw h1 h2 h4 g).trans hq
/-- a state in order has its v-th value at v's rank -/
theorem pc_od_rank {B t : Nat → Int32} {v : Nat} (hv : v < 6) (h0 : ¬ B v = 0) (ho : pc_od B t 6) : pc_c1 B t v (t v) ≤ pc_cn (pc_bs B v) v ∧ pc_cn (pc_bs B v) v < pc_c2 B t v (t v) := by
  constructor
  · have h1 : pc_c1 B t v (t v) ≤ pc_cn (fun w => pc_bs B v w && decide (w < v)) 6 := pc_cn_mono 6 (fun w hw hz => by
      simp only [Bool.and_eq_true, decide_eq_true_eq] at hz ⊢
      refine ⟨hz.1, ?_⟩
      rcases Nat.lt_or_ge w v with q | q
      · exact q
      · exfalso
        have hwv : B w = B v := of_decide_eq_true hz.1
        have hlt := hz.2
        by_cases hwe : w = v
        · subst hwe; rw [pc_i_lt] at hlt; omega
        · have := ho v w hv (by omega) hw h0 hwv.symm
          rw [pc_i_lt] at hlt
          rw [pc_i_le] at this
          omega)
    have h2 : ∀ n, v ≤ n → pc_cn (fun w => pc_bs B v w && decide (w < v)) n = pc_cn (pc_bs B v) v := by
      intro n
      induction n with
      | zero => intro h; rw [show v = 0 by omega]; rfl
      | succ n ih =>
        intro h
        by_cases hn : v = n + 1
        · subst hn
          exact pc_cn_congr (n + 1) (fun u hu => by simp [hu])
        · show _ + (if _ then 1 else 0) = _
          rw [ih (by omega), if_neg (by simp; omega)]
          rfl
    rw [h2 6 (by omega)] at h1
    exact h1
  · have h1 : pc_cn (pc_bs B v) (v + 1) ≤ pc_c2 B t v (t v) := by
      have h2 : pc_cn (pc_bs B v) (v + 1) ≤ pc_cn (fun w => pc_bs B v w && decide (t w ≤ t v)) (v + 1) := pc_cn_mono (v + 1) (fun w hw hz => by
        simp only [Bool.and_eq_true, decide_eq_true_eq]
        refine ⟨hz, ?_⟩
        have hwv : B w = B v := of_decide_eq_true hz
        by_cases hwe : w = v
        · subst hwe; exact Int32.le_refl _
        · exact ho w v (by omega) (by omega) hv (by rw [hwv]; exact h0) hwv)
      exact Nat.le_trans h2 (pc_cn_le (v + 1) 6 (by omega))
    have e : pc_cn (pc_bs B v) (v + 1) = pc_cn (pc_bs B v) v + (if pc_bs B v v = true then 1 else 0) := rfl
    rw [if_pos (by simp [pc_bs])] at e
    omega
theorem pc_io_sf (B s : Nat → Int32) : ∀ v, v < 6 → pc_io B s v = pc_sf B s v := by
  intro v hv
  unfold pc_io
  by_cases h0 : B v = 0
  · rw [if_pos h0, pc_sf_0 h0]
  · rw [if_neg h0]
    have hrk : pc_rk B v 7 0 0 = pc_cn (pc_bs B v) v := by
      have := pc_rk_cn (B := B) (v := v) 7 0 0 (by omega) (by omega)
      have e0 : pc_cn (pc_bs B v) 0 = 0 := rfl
      omega
    have hlt : pc_cn (pc_bs B v) v < pc_cn (pc_bs B v) 6 := by
      have e : pc_cn (pc_bs B v) (v + 1) = pc_cn (pc_bs B v) v + (if pc_bs B v v = true then 1 else 0) := rfl
      rw [if_pos (by simp [pc_bs])] at e
      have := pc_cn_le (P := pc_bs B v) (v + 1) 6 (by omega)
      omega
    have hpl : ∀ u, B u = B v → pc_pl B s u 7 0 0 = pc_cn (fun w => pc_bs B v w && pc_lx s w u) 6 := fun u hu => by
      have := pc_pl_cn (B := B) (s := s) (v := u) 7 0 0 (by omega) (by omega)
      have e0 : pc_cn (fun w => pc_bs B u w && pc_lx s w u) 0 = 0 := rfl
      have e1 : pc_cn (fun w => pc_bs B u w && pc_lx s w u) 6 = pc_cn (fun w => pc_bs B v w && pc_lx s w u) 6 := pc_cn_congr 6 (fun w _ => by simp only [pc_bs, hu])
      omega
    obtain ⟨u0, k1, k2, k3⟩ := pc_cn_ex (S := pc_bs B v) (L := pc_lx s) (pc_lx_irr s) (pc_lx_tr s) (pc_lx_tot s) 6 (pc_cn (pc_bs B v) v) hlt
    have hu0 : B u0 = B v := of_decide_eq_true k2
    rw [hrk]
    obtain ⟨w, w1, w2, w3, w4⟩ := pc_sl_some (B := B) (s := s) (v := v) (k := pc_cn (pc_bs B v) v) 7 0 (by omega) ⟨u0, by omega, k1, hu0, by rw [hpl u0 hu0]; exact k3⟩
    rw [w4]
    rw [hpl w w2] at w3
    obtain ⟨r1, r2⟩ := pc_od_rank hv h0 (pc_sf_od B s)
    have q1 : pc_c1 B s v (s w) ≤ pc_cn (pc_bs B v) v := by
      rw [← w3]
      exact pc_cn_mono 6 (fun x _ hx => by
        simp only [Bool.and_eq_true, pc_lx, decide_eq_true_eq] at hx ⊢
        exact ⟨hx.1, Or.inl hx.2⟩)
    have q2 : pc_cn (pc_bs B v) v < pc_c2 B s v (s w) := by
      have := pc_cn_strict (P := fun x => pc_bs B v x && pc_lx s x w) (Q := fun x => pc_bs B v x && decide (s x ≤ s w)) 6 (fun x _ hx => by
        simp only [Bool.and_eq_true, pc_lx, decide_eq_true_eq, pc_i_lt, pc_i_le, pc_i_eq] at hx ⊢
        exact ⟨hx.1, by omega⟩) w w1 (by simp [pc_lx_irr]) (by simp [pc_bs, w2])
      rw [w3] at this
      exact this
    refine pc_c_uniq (B := B) (s := s) (v := v) q1 q2 ?_ ?_
    · have := pc_cnt_sf (B := B) (s := s) (v := v) (fun y => decide (y < pc_sf B s v))
      unfold pc_c1 at r1 ⊢
      rw [← this]; exact r1
    · have := pc_cnt_sf (B := B) (s := s) (v := v) (fun y => decide (y ≤ pc_sf B s v))
      unfold pc_c2 at r2 ⊢
      rw [← this]; exact r2
