/-! ===== more rows of the go layer: the world in another order, calls that take the whole world ===== -/
def go_us (x y : Int32) : Int32 := (x.toUInt32 >>> (y.toUInt32 &&& Int32.toUInt32 31)).toInt32
theorem go_nd_range (n : Nat) : va_nd (List.range n) = true := by
  have key : ∀ l : List Nat, l.Nodup → va_nd l = true := by
    intro l
    induction l with
    | nil => intro _; rfl
    | cons a l ih =>
      intro h
      rw [List.nodup_cons] at h
      simp [va_nd, h.1, ih h.2]
  exact key _ List.nodup_range
theorem go_all_range (ws : va_W) : (List.range ws.length).map (fun i => ws[i]?) = ws.map some := by
  apply List.ext_getElem?
  intro i
  by_cases h : i < ws.length
  · simp [h]
  · simp [h]
theorem go_pa_len : ∀ (is : List Nat) (w1 ws : va_W), (go_pa ws is w1).length = ws.length
  | [], w1, ws => by simp [go_pa]
  | i :: is, [], ws => rfl
  | i :: is, c :: cs, ws => by
    show (go_pa (ws.set i c) is cs).length = _
    rw [go_pa_len is cs, List.length_set]
theorem go_pa_out : ∀ (is : List Nat) (w1 ws : va_W) (k : Nat), k ∉ is → (go_pa ws is w1)[k]? = ws[k]?
  | [], w1, ws, k, _ => by simp [go_pa]
  | i :: is, [], ws, k, _ => rfl
  | i :: is, c :: cs, ws, k, h => by
    rw [List.mem_cons, not_or] at h
    show (go_pa (ws.set i c) is cs)[k]? = _
    rw [go_pa_out is cs _ k h.2, List.getElem?_set_ne (Ne.symm h.1)]
theorem go_pa_rng : ∀ (w1 ws : va_W) (k : Nat), k + w1.length = ws.length → ws.take k ++ w1 = go_pa ws ((List.range w1.length).map (· + k)) w1
  | [], ws, k, h => by
    simp at h
    simp [go_pa, h]
  | c :: cs, ws, k, h => by
    rw [List.length_cons, List.range_succ_eq_map, List.map_cons, List.map_map]
    show _ = go_pa (ws.set (0 + k) c) _ cs
    have e : (List.range cs.length).map ((· + k) ∘ Nat.succ) = (List.range cs.length).map (· + (k + 1)) := List.map_congr_left (fun j _ => by simp; omega)
    rw [e, ← go_pa_rng cs (ws.set (0 + k) c) (k + 1) (by rw [List.length_set]; simp at h; omega), Nat.zero_add]
    have hk : k < ws.length := by simp at h; omega
    rw [List.take_succ, List.getElem?_set_self hk]
    simp [List.take_set_of_le]
theorem go_pa_all {ws w1 : va_W} (h : w1.length = ws.length) : go_pa ws (List.range ws.length) w1 = w1 := by
  have h1 := go_pa_rng w1 ws 0 (by omega)
  simp at h1
  rw [← h]
  exact h1.symm
theorem go_len_ad {w1 ws : va_W} (h : w1.map (·.1) = ws.map (·.1)) : w1.length = ws.length := by simpa using congrArg List.length h
section GM
variable {X : go_X} {cc : ByteArray} {own : String} {rt : Option FieldType} {nL fr lo rc rs : Nat} {G : go_G} {kz : Nat × Nat} {ws : va_W} {lv : List (Nat × Value)} {st : List Value} {pc : Nat}
theorem go_se (st' : List Value) (h : st = st') (kk : go_Go X kz ws lv st' pc) : go_Go X kz ws lv st pc := by subst h; exact kk
theorem go_we (ws' : va_W) (h : ws = ws') (kk : go_Go X kz ws' lv st pc) : go_Go X kz ws lv st pc := by subst h; exact kk
theorem go_le (lv' : List (Nat × Value)) (h : lv = lv') (kk : go_Go X kz ws lv' st pc) : go_Go X kz ws lv st pc := by subst h; exact kk
/-- the first cells in another order -/
theorem go_perm (L L' tl : va_W) (is : List Nat) (h : is.map (fun i => L[i]?) = L'.map some) (hn : va_nd is = true) (hl : L'.length = L.length) (kk : go_Go X kz (L' ++ tl) lv st pc) : go_Go X kz (L ++ tl) lv st pc := by
  obtain ⟨p, l, e, R, s, m, args, below, meth, c, G', nL', A, Q⟩ := X
  intro H locs ls hP hD hS hl'
  have hlen : is.length = L'.length := by simpa using congrArg List.length h
  have key : ∀ (k : Nat) (q : Nat × va_E), (L' ++ tl)[k]? = some q → ∃ j : Nat, (L ++ tl)[j]? = some q ∧ ((k < L'.length ∧ is[k]? = some j ∧ j < L.length) ∨ (L'.length ≤ k ∧ j = k)) := by
    intro k q hk
    by_cases hkl : k < L'.length
    · rw [List.getElem?_append_left hkl] at hk
      have h1 : (is.map (fun i => L[i]?))[k]? = some (some q) := by rw [h, List.getElem?_map, hk]; rfl
      rw [List.getElem?_map] at h1
      cases hi : is[k]? with
      | none => rw [hi] at h1; cases h1
      | some j =>
        rw [hi] at h1
        have h2 : L[j]? = some q := Option.some.inj h1
        have h3 : j < L.length := (List.getElem?_eq_some_iff.mp h2).1
        exact ⟨j, by rw [List.getElem?_append_left h3]; exact h2, Or.inl ⟨hkl, rfl, h3⟩⟩
    · have hk2 := hk
      rw [List.getElem?_append_right (by omega)] at hk
      exact ⟨k, by rw [List.getElem?_append_right (by omega), ← hl]; exact hk, Or.inr ⟨by omega, rfl⟩⟩
  refine kk H locs ls (fun k q hk => ?_) ⟨fun i j x y hi hj hxy => ?_, fun k q hk => ?_⟩ hS hl'
  · obtain ⟨j, hj, -⟩ := key k q hk
    exact hP j q hj
  · obtain ⟨a, ha, hca⟩ := key i x hi
    obtain ⟨b, hb, hcb⟩ := key j y hj
    have hab := hD.1 a b x y ha hb hxy
    subst hab
    rcases hca with ⟨h1, h2, h3⟩ | ⟨h1, h2⟩ <;> rcases hcb with ⟨g1, g2, g3⟩ | ⟨g1, g2⟩
    · exact va_nd_inj is hn i j a h2 g2
    · omega
    · omega
    · omega
  · obtain ⟨j, hj, -⟩ := key k q hk
    exact hD.2 j q hj
variable {y : MethodName} {bytes : ByteArray} {nL' fr' lo' : Nat} {rt' : Option FieldType} {As : List Value} {w1 : va_W} {ra : Option Value} {b n index ci : Nat}
theorem go_cV (C : go_Cx X cc own rt nL fr lo rc rs G) (hF : go_Fn y bytes nL' rt' fr' lo' G (.ref b :: As) ws ra w1) (M : go_MV own index y n) (hcode : Cond.code y bytes nL' rt' ∈ go_tb) (d : decode cc pc = .ok (.invokevirtual index, 3)) (rest : List Value) (hst : st = As.reverse ++ .ref b :: rest) (ha : w1.map (·.1) = ws.map (·.1))
    (q0 : Nat) {fs : List Value} {T : u_T} {N : Nat} (hq : ws[q0]? = some (b, .inr (ci, fs))) (hcl : vwCl[ci]? = some (y.cls, T, N)) (hn : As.length = n) (hR : fr' + 1 ≤ fr ∧ 8 + (nL' + 11) + lo' ≤ lo ∧ kz.1 ≤ rc ∧ kz.2 ≤ rs ∧ (rest.map fun v => v.category).sum ≤ 8) (st' : List Value) (hst' : ra.toList ++ rest = st') (kk : go_Go X kz w1 lv st' (pc + 3)) : go_Go X kz ws lv st pc :=
  go_callV C hF M hcode d rest hst (List.range ws.length) (go_all_range ws) (go_nd_range _) ha q0 hq hcl hn hR w1 (go_pa_all (go_len_ad ha)) (by rw [hst']; exact kk)
theorem go_cS (C : go_Cx X cc own rt nL fr lo rc rs G) (hF : go_Fn y bytes nL' rt' fr' lo' G As ws ra w1) (M : go_MS own index y n) (hcode : Cond.code y bytes nL' rt' ∈ go_tb) (d : decode cc pc = .ok (.invokestatic index, 3)) (rest : List Value) (hst : st = As.reverse ++ rest) (ha : w1.map (·.1) = ws.map (·.1))
    (hn : As.length = n) (hR : fr' + 1 ≤ fr ∧ 8 + (nL' + 11) + lo' ≤ lo ∧ kz.1 ≤ rc ∧ kz.2 ≤ rs ∧ (rest.map fun v => v.category).sum ≤ 8) (st' : List Value) (hst' : ra.toList ++ rest = st') (kk : go_Go X kz w1 lv st' (pc + 3)) : go_Go X kz ws lv st pc :=
  go_callS C hF M hcode d rest hst (List.range ws.length) (go_all_range ws) (go_nd_range _) ha hn hR w1 (go_pa_all (go_len_ad ha)) (by rw [hst']; exact kk)
theorem go_cN (C : go_Cx X cc own rt nL fr lo rc rs G) (hF : go_Fn y bytes nL' rt' fr' lo' G As ws ra w1) (M : go_MN own index y n) (hcode : Cond.code y bytes nL' rt' ∈ go_tb) (d : decode cc pc = .ok (.invokestatic index, 3)) (rest : List Value) (hst : st = As.reverse ++ rest) (ha : w1.map (·.1) = ws.map (·.1))
    (hn : As.length = n) (hR : fr' + 1 ≤ fr ∧ 8 + (nL' + 11) + lo' ≤ lo ∧ kz.1 ≤ rc ∧ kz.2 ≤ rs ∧ (rest.map fun v => v.category).sum ≤ 8) (st' : List Value) (hst' : ra.toList ++ rest = st') (kk : go_Go X kz w1 lv st' (pc + 3)) : go_Go X kz ws lv st pc :=
  go_callN C hF M hcode d rest hst (List.range ws.length) (go_all_range ws) (go_nd_range _) ha hn hR w1 (go_pa_all (go_len_ad ha)) (by rw [hst']; exact kk)
variable {S : Type} {P : S → Prop} {rf : S → Option Value} {wf : S → va_W}
theorem go_cVe (C : go_Cx X cc own rt nL fr lo rc rs G) (hF : go_Fe y bytes nL' rt' fr' lo' G (.ref b :: As) ws P rf wf) (M : go_MV own index y n) (hcode : Cond.code y bytes nL' rt' ∈ go_tb) (d : decode cc pc = .ok (.invokevirtual index, 3)) (rest : List Value) (hst : st = As.reverse ++ .ref b :: rest) (ha : ∀ u, (wf u).map (·.1) = ws.map (·.1))
    (q0 : Nat) {fs : List Value} {T : u_T} {N : Nat} (hq : ws[q0]? = some (b, .inr (ci, fs))) (hcl : vwCl[ci]? = some (y.cls, T, N)) (hn : As.length = n) (hR : fr' + 1 ≤ fr ∧ 8 + (nL' + 11) + lo' ≤ lo ∧ kz.1 ≤ rc ∧ kz.2 ≤ rs ∧ (rest.map fun v => v.category).sum ≤ 8) (kk : ∀ u, P u → go_Go X kz (wf u) lv ((rf u).toList ++ rest) (pc + 3)) : go_Go X kz ws lv st pc :=
  go_callVe C hF M hcode d rest hst (List.range ws.length) (go_all_range ws) (go_nd_range _) ha q0 hq hcl hn hR wf (fun u => go_pa_all (go_len_ad (ha u))) kk
theorem go_cSe (C : go_Cx X cc own rt nL fr lo rc rs G) (hF : go_Fe y bytes nL' rt' fr' lo' G As ws P rf wf) (M : go_MS own index y n) (hcode : Cond.code y bytes nL' rt' ∈ go_tb) (d : decode cc pc = .ok (.invokestatic index, 3)) (rest : List Value) (hst : st = As.reverse ++ rest) (ha : ∀ u, (wf u).map (·.1) = ws.map (·.1))
    (hn : As.length = n) (hR : fr' + 1 ≤ fr ∧ 8 + (nL' + 11) + lo' ≤ lo ∧ kz.1 ≤ rc ∧ kz.2 ≤ rs ∧ (rest.map fun v => v.category).sum ≤ 8) (kk : ∀ u, P u → go_Go X kz (wf u) lv ((rf u).toList ++ rest) (pc + 3)) : go_Go X kz ws lv st pc :=
  go_callSe C hF M hcode d rest hst (List.range ws.length) (go_all_range ws) (go_nd_range _) ha hn hR wf (fun u => go_pa_all (go_len_ad (ha u))) kk
end GM
