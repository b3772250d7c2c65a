/-! ===== the reference: sealing, the trace ===== -/
def pc_sR (nr : Nat) (ln : Nat → Nat) (R : Nat → Int32) : Nat → Nat → Bool
  | 0, _ => true
  | n + 1, r => if r < nr then (if pc_mR (ln r) (pc_rr R r) (ln r + 1) 0 0 0 = true then pc_sR nr ln R n (r + 1) else false) else true
def pc_tl (P : Nat → Int32) : Nat → Nat → Int32 → Nat
  | 0, k, _ => k
  | n + 1, k, s => if k < 400 then (if s < 0 then k else pc_tl P n (k + 1) (P s.toNatClampNeg)) else k
theorem pc_d1_p (k : Nat) : pc_d1 k + Int32.ofInt 1 = pc_d1 (k + 1) := by
  rw [pc_d1_s]
  unfold pc_d1
  rw [Int32.add_assoc, show (-1 : Int32) + Int32.ofInt 1 = 0 by decide, Int32.add_zero]
/-- a chain of k parents from s on -/
def pc_vc (P : Nat → Int32) (ct : Nat) : Nat → Int32 → Prop
  | 0, s => ∃ q, q < ct ∧ s = nI q
  | k + 1, s => ∃ q, q < ct ∧ s = nI q ∧ pc_vc P ct k (P q)
theorem pc_vc_at {P : Nat → Int32} {ct : Nat} (hc : ct ≤ 400) : ∀ {k : Nat} {s : Int32}, pc_vc P ct k s → s = nI s.toNatClampNeg ∧ s.toNatClampNeg < ct
  | 0, s, h => by
    obtain ⟨q, h1, rfl⟩ := h
    rw [nI_clamp (by omega)]
    exact ⟨rfl, h1⟩
  | k + 1, s, h => by
    obtain ⟨q, h1, rfl, -⟩ := h
    rw [nI_clamp (by omega)]
    exact ⟨rfl, h1⟩
theorem pc_vc_s {P : Nat → Int32} {ct k : Nat} {s : Int32} (hc : ct ≤ 400) (h : pc_vc P ct (k + 1) s) : pc_vc P ct k (P s.toNatClampNeg) := by
  obtain ⟨q, h1, rfl, h2⟩ := h
  rw [nI_clamp (by omega)]
  exact h2
theorem pc_vc_it {P : Nat → Int32} {ct : Nat} (hc : ct ≤ 400) : ∀ (j : Nat) {k : Nat} {s : Int32}, pc_vc P ct k s → j ≤ k → pc_vc P ct (k - j) (pc_it P j s)
  | 0, k, s, h, _ => h
  | j + 1, k, s, h, hj => by
    obtain ⟨k', rfl⟩ : ∃ q, k = q + 1 := ⟨k - 1, by omega⟩
    have := pc_vc_it hc j (pc_vc_s hc h) (by omega)
    rwa [show k' + 1 - (j + 1) = k' - j by omega]
