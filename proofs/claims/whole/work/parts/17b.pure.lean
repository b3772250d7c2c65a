theorem pc_sto_ge {il : Nat} {iv : Nat → Int32} {z : pc_Z} {t : Nat → Int32} {q : Int32} : z.1 ≤ (pc_sto il iv z t q).1 := by
  unfold pc_sto
  split
  · exact Nat.le_succ _
  · exact Nat.le_refl _
theorem pc_sto_ge1 {il : Nat} {iv : Nat → Int32} {z : pc_Z} {t : Nat → Int32} {q : Int32} (h : z.1 < 400) : (pc_sto il iv z t q).1 = z.1 + 1 := by
  unfold pc_sto
  rw [if_pos h]
theorem pc_xr_ge {B iv f b : Nat → Int32} {il ln ex : Nat} {z : pc_Z} : z.1 ≤ (pc_xr B il iv ln f b ex z).1 := by
  unfold pc_xr
  split
  · split
    · exact pc_sto_ge
    · exact Nat.le_refl _
  · exact Nat.le_refl _
theorem pc_xl_ge {nr : Nat} {ln : Nat → Nat} {F : Nat → Nat → Int32} {B iv b : Nat → Int32} {il ex : Nat} : ∀ (n r : Nat) (z : pc_Z), z.1 ≤ (pc_xl nr ln F B il iv b ex n r z).1.1
  | 0, r, z => Nat.le_refl _
  | n + 1, r, z => by
    unfold pc_xl
    split
    · split
      · exact pc_xr_ge
      · split
        · exact pc_xr_ge
        · exact Nat.le_trans pc_xr_ge (pc_xl_ge n (r + 1) _)
    · exact Nat.le_refl _
theorem pc_xp_bd {nr : Nat} {ln : Nat → Nat} {F : Nat → Nat → Int32} {B iv : Nat → Int32} {il ex : Nat} {z : pc_Z} (h : z.1 ≤ 400) : (pc_xp nr ln F B il iv ex z).1.1 ≤ 400 ∧ (pc_xp nr ln F B il iv ex z).2 ≤ ex + 1 ∧ z.1 ≤ (pc_xp nr ln F B il iv ex z).1.1 := ⟨(pc_xl_le _ _ _ h).1, (pc_xl_le _ _ _ h).2, pc_xl_ge _ _ _⟩
theorem pc_el_bd {nr : Nat} {ln : Nat → Nat} {F : Nat → Nat → Int32} {B iv : Nat → Int32} {il : Nat} {x : Int32} : ∀ (n i : Nat) (z : pc_Z) (ex : Nat), z.1 ≤ 400 → ex ≤ 400 → (pc_el nr ln F B il iv x n i z ex).1.1 ≤ 400 ∧ (pc_el nr ln F B il iv x n i z ex).2 ≤ 400 ∧ z.1 ≤ (pc_el nr ln F B il iv x n i z ex).1.1
  | 0, i, z, ex, h, h2 => ⟨h, h2, Nat.le_refl _⟩
  | n + 1, i, z, ex, h, h2 => by
    unfold pc_el
    split
    · exact ⟨h, h2, Nat.le_refl _⟩
    · split
      · exact ⟨h, h2, Nat.le_refl _⟩
      · split
        · exact ⟨h, h2, Nat.le_refl _⟩
        · split
          · exact ⟨h, h2, Nat.le_refl _⟩
          · have hb := pc_xp_bd (nr := nr) (ln := ln) (F := F) (B := B) (iv := iv) (il := il) (ex := ex) h
            have ih := pc_el_bd (nr := nr) (ln := ln) (F := F) (B := B) (iv := iv) (il := il) (x := x) n (i + 1) (pc_xp nr ln F B il iv ex z).1 (pc_xp nr ln F B il iv ex z).2 hb.1 (by omega)
            exact ⟨ih.1, ih.2.1, Nat.le_trans hb.2.2 ih.2.2⟩
/-- the trace after exploring, after sealing -/
def pc_er (c : Bool) (ly old : Nat × (Nat → Int32) × (Nat → Int32) × (Nat → Int32)) : Nat × (Nat → Int32) × (Nat → Int32) × (Nat → Int32) := if c = true then ly else old
