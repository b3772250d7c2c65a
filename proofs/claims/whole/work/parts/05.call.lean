/-! ===== calls over the go layer ===== -/
def go_pa : va_W → List Nat → va_W → va_W
  | ws, [], _ => ws
  | ws, _ :: _, [] => ws
  | ws, i :: is, c :: cs => go_pa (ws.set i c) is cs
theorem go_pa_in : ∀ (is : List Nat) (w1 ws : va_W) (k : Nat) (q : Nat × va_E), is.length = w1.length → (go_pa ws is w1)[k]? = some q → q ∈ w1 ∨ (k ∉ is ∧ ws[k]? = some q)
  | [], w1, ws, k, q, _, h => Or.inr ⟨List.not_mem_nil, by simpa [go_pa] using h⟩
  | i :: is, [], ws, k, q, hl, _ => by simp at hl
  | i :: is, c :: cs, ws, k, q, hl, h => by
    rcases go_pa_in is cs (ws.set i c) k q (by simpa using hl) (by simpa [go_pa] using h) with h1 | ⟨h1, h2⟩
    · exact Or.inl (List.mem_cons_of_mem _ h1)
    · by_cases hk : k = i
      · subst hk
        have hlt : k < (ws.set k c).length := (List.getElem?_eq_some_iff.mp h2).1
        rw [List.length_set] at hlt
        rw [List.getElem?_set_self hlt] at h2
        cases h2
        exact Or.inl List.mem_cons_self
      · rw [List.getElem?_set_ne (Ne.symm hk)] at h2
        exact Or.inr ⟨fun hm => (List.mem_cons.mp hm).elim hk h1, h2⟩
theorem go_pa_ad : ∀ (is : List Nat) (w1 ws : va_W), is.map (fun i => ws[i]?.map (·.1)) = w1.map (fun c => some c.1) → ∀ k : Nat, (go_pa ws is w1)[k]?.map (·.1) = ws[k]?.map (·.1)
  | [], w1, ws, _, k => by simp [go_pa]
  | i :: is, [], ws, h, k => by simp at h
  | i :: is, c :: cs, ws, h, k => by
    simp only [List.map_cons, List.cons.injEq] at h
    obtain ⟨h1, h2⟩ := h
    have key : ∀ j : Nat, (ws.set i c)[j]?.map (·.1) = ws[j]?.map (·.1) := by
      intro j
      by_cases hj : j = i
      · subst hj
        cases hw : ws[j]? with
        | none => rw [hw] at h1; cases h1
        | some z =>
          have hlt : j < ws.length := (List.getElem?_eq_some_iff.mp hw).1
          rw [List.getElem?_set_self hlt]
          rw [hw] at h1
          exact h1.symm
      · rw [List.getElem?_set_ne (Ne.symm hj)]
    have ih := go_pa_ad is cs (ws.set i c) (by rw [← h2]; exact List.map_congr_left (fun j _ => key j)) k
    show (go_pa (ws.set i c) is cs)[k]?.map (·.1) = _
    rw [ih, key]
theorem go_join {A : Nat → Prop} {D : va_G} {cl : List vw_C} {ws wc w1 : va_W} {H H1 : Heap} (hP : va_P D cl ws H) (hD : va_D A ws) (isC : List Nat) (hC : isC.map (fun i => ws[i]?) = wc.map some) (ha : w1.map (·.1) = wc.map (·.1))
    (hk : ∀ q : Nat, q < H.size → ¬ va_A wc H.size q → H1[q]? = H[q]?) (hP1 : va_P D cl w1 H1) : va_P D cl (go_pa ws isC w1) H1 ∧ va_D A (go_pa ws isC w1) := by
  have hlen : isC.length = w1.length := by
    have h1 : isC.length = wc.length := by simpa using congrArg List.length hC
    have h2 : w1.length = wc.length := by simpa using congrArg List.length ha
    omega
  have had : isC.map (fun i => ws[i]?.map (·.1)) = w1.map (fun c => some c.1) := by
    have h1 : isC.map (fun i => ws[i]?.map (·.1)) = (isC.map (fun i => ws[i]?)).map (fun o => o.map (·.1)) := by rw [List.map_map]; rfl
    rw [h1, hC, List.map_map]
    have h2 : (w1.map (·.1)).map some = (wc.map (·.1)).map some := by rw [ha]
    rw [List.map_map, List.map_map] at h2
    exact h2.symm
  have hor : ∀ (k : Nat) (q : Nat × va_E), (go_pa ws isC w1)[k]? = some q → ∃ q0, ws[k]? = some q0 ∧ q0.1 = q.1 := by
    intro k q h
    have h1 := go_pa_ad isC w1 ws had k
    rw [h] at h1
    cases hw : ws[k]? with
    | none => rw [hw] at h1; cases h1
    | some z => rw [hw] at h1; exact ⟨z, rfl, (Option.some.inj h1).symm⟩
  refine ⟨fun k q h => ?_, fun i j x y hi hj hxy => ?_, fun k q h => ?_⟩
  · rcases go_pa_in isC w1 ws k q hlen h with h1 | ⟨h1, h2⟩
    · obtain ⟨i, hi⟩ := List.getElem?_of_mem h1
      exact hP1 i q hi
    · have hq := hP k q h2
      refine hq.kept (hk q.1 hq.lt (fun hz => ?_))
      rcases hz with ⟨k2, e, h3⟩ | h3
      · have h4 : (isC.map (fun i => ws[i]?))[k2]? = some (some (q.1, e)) := by rw [hC, List.getElem?_map, h3]; rfl
        rw [List.getElem?_map] at h4
        cases hi : isC[k2]? with
        | none => rw [hi] at h4; cases h4
        | some i =>
          rw [hi] at h4
          have h5 : ws[i]? = some (q.1, e) := Option.some.inj h4
          have h6 := hD.1 k i q (q.1, e) h2 h5 rfl
          subst h6
          exact h1 (List.mem_of_getElem? hi)
      · exact absurd hq.lt (by omega)
  · obtain ⟨x0, a1, a2⟩ := hor i x hi
    obtain ⟨y0, b1, b2⟩ := hor j y hj
    exact hD.1 i j x0 y0 a1 b1 (a2.trans (hxy.trans b2.symm))
  · obtain ⟨q0, a1, a2⟩ := hor k q h
    rw [← a2]
    exact hD.2 k q0 a1
theorem go_after {p : Program} {l : Launch} {e : Env} {R : Room} {s : State} {m : MethodId} {args a : Array Value} {below : List Frame} {meth : Method} {c : Code} {H : Heap} {locs : List Loc} {cells slots : Nat} {Q : State → Prop} {pc : Nat} {ls : Array Slot} {rest st0 : List Value} {A : Nat → Prop} {G : go_G} {ws wc w1 : va_W} {rc : Option Value}
    (hr : va_Run p l e R s m args below meth c H locs cells slots 0 0 (F0 m pc ls st0) rest (go_Q G (va_A wc H.size) rc w1 a) (va_A wc H.size)) (hP : va_P G.1 vwCl ws H) (hD : va_D A ws) (hS : va_S A s.heap H locs) (hA : ∀ q, s.heap.size ≤ q → A q) (isC : List Nat) (hC : isC.map (fun i => ws[i]?) = wc.map some) (ha : w1.map (·.1) = wc.map (·.1))
    (kk : ∀ (H1 : Heap) (locs1 : List Loc), va_P G.1 vwCl (go_pa ws isC w1) H1 → va_D A (go_pa ws isC w1) → va_S A s.heap H1 locs1 → W p l e R s m args below meth c H1 locs1 cells slots Q (F0 m (pc + 3) ls (rc.toList ++ rest))) : W p l e R s m args below meth c H locs cells slots Q (F0 m pc ls st0) := by
  intro T hT X
  obtain ⟨v, st₀, t, T', L, h0, X', hL, e1, e2, ⟨hv, hp1, hz, hk⟩, st⟩ := hr T hT X
  cases hv
  rw [h0] at hz hk
  have hF := va_free (wc := wc) hD hS hA isC hC
  rw [← e1] at hp1 hz hk
  obtain ⟨j1, j2⟩ := go_join hP hD isC hC ha hk hp1
  obtain ⟨t2, a1, b1⟩ := kk T'.heap (locs ++ L) j1 j2
    ⟨Nat.le_trans hS.1 hz, fun q h1 h2 => by rw [hk q (Nat.lt_of_lt_of_le h1 hS.1) (fun z => h2 (hF q z))]; exact hS.2.1 q h1 h2, fun q hq => by
      rcases List.mem_append.mp hq with h | h
      · exact hS.2.2 q h
      · exact hF _ (hL q h)⟩ T' rfl X'
  exact ⟨t2, st t2 a1, b1⟩
def go_MV (own : String) (index : Nat) (y : MethodName) (n : Nat) : Prop := Cond.methodLink own index y ∈ go_tb ∧ Cond.instanceMethod y ∈ go_tb ∧ Cond.selects y.cls y y ∈ go_tb ∧ Cond.initialized y.cls ∈ go_tb ∧ (y.cls ≠ "java/lang/invoke/MethodHandle" ∧ y.cls ≠ "java/lang/invoke/VarHandle" ∧ (parseMethodDescriptor y.desc).map (fun d => d.parameters.length) = some n)
def go_MS (own : String) (index : Nat) (y : MethodName) (n : Nat) : Prop := Cond.methodLink own index y ∈ go_tb ∧ Cond.static y ∈ go_tb ∧ Cond.initialized y.cls ∈ go_tb ∧ (y.cls ≠ "java/lang/invoke/MethodHandle" ∧ y.cls ≠ "java/lang/invoke/VarHandle" ∧ (parseMethodDescriptor y.desc).map (fun d => d.parameters.length) = some n)
def go_MN (own : String) (index : Nat) (y : MethodName) (n : Nat) : Prop := (∃ host, Cond.methodLinkNest own index y host ∈ lw_tbl) ∧ Cond.static y ∈ go_tb ∧ Cond.initialized y.cls ∈ go_tb ∧ (y.cls ≠ "java/lang/invoke/MethodHandle" ∧ y.cls ≠ "java/lang/invoke/VarHandle" ∧ (parseMethodDescriptor y.desc).map (fun d => d.parameters.length) = some n)
theorem go_blind {G : go_G} {As : List Value} {W0 : va_W} {sz : Nat} : FrameBlind (va_Pc As (fun U => U.heap.size = sz ∧ va_P G.1 vwCl W0 U.heap ∧ go_KK G U ∧ va_D (fun _ => True) W0)) := fun _ _ _ _ q => ⟨q.1, q.2.1, q.2.2.1, go_KK_calling q.2.2.2.1, q.2.2.2.2⟩
theorem go_goodW {y : MethodName} {bytes : ByteArray} {n : Nat} {r : Option FieldType} (h : Cond.code y bytes n r ∈ go_tb) : GoodIn go_tb (Cond.code y bytes n r :: go_tb) := fun w hw => (List.mem_cons.mp hw).elim (fun e => by subst e; exact go_tb_good _ h) (go_tb_good w)
section GC
variable {X : go_X} {cc : ByteArray} {own : String} {rt : Option FieldType} {nL fr lo rc rs : Nat} {G : go_G} {kz : Nat × Nat} {ws : va_W} {lv : List (Nat × Value)} {st : List Value} {pc : Nat}
variable {y : MethodName} {bytes : ByteArray} {nL' fr' lo' : Nat} {rt' : Option FieldType} {As : List Value} {wc w1 : va_W} {ra : Option Value} {b n index ci : Nat}
/-- the words of a world's part -/
theorem go_callV (C : go_Cx X cc own rt nL fr lo rc rs G) (hF : go_Fn y bytes nL' rt' fr' lo' G (.ref b :: As) wc ra w1) (M : go_MV own index y n) (hcode : Cond.code y bytes nL' rt' ∈ go_tb) (d : decode cc pc = .ok (.invokevirtual index, 3)) (rest : List Value) (hst : st = As.reverse ++ .ref b :: rest) (isC : List Nat) (hC : isC.map (fun i => ws[i]?) = wc.map some) (hnd : va_nd isC = true) (ha : w1.map (·.1) = wc.map (·.1))
    (q0 : Nat) {fs : List Value} {T : u_T} {N : Nat} (hq : ws[q0]? = some (b, .inr (ci, fs))) (hcl : vwCl[ci]? = some (y.cls, T, N)) (hn : As.length = n) (hR : fr' + 1 ≤ fr ∧ 8 + (nL' + 11) + lo' ≤ lo ∧ kz.1 ≤ rc ∧ kz.2 ≤ rs ∧ (rest.map fun v => v.category).sum ≤ 8) (ws' : va_W) (hw : go_pa ws isC w1 = ws') (kk : go_Go X kz ws' lv (ra.toList ++ rest) (pc + 3)) : go_Go X kz ws lv st pc := by
  obtain ⟨p, l, e, R, s, m, args, below, meth, c, G', nL0, A, Q⟩ := X
  obtain ⟨hx, hb, hr, hml, hown, hts, hlk, hK, rfl, rfl, rfl, hA⟩ := C
  intro H locs ls hP hD hS hl
  subst hw; subst hst
  obtain ⟨m1, m2, m3, m4, m5⟩ := M
  have hPc : va_P G'.1 vwCl wc H := hP.sub isC (by
    have : isC.filterMap (fun i => ws[i]?) = (isC.map (fun i => ws[i]?)).filterMap id := by rw [List.filterMap_map]; rfl
    rw [this, hC, List.filterMap_map]; exact List.filterMap_some)
  have hDc : va_D A wc := hD.sub isC hnd hC
  have cb : CallB { frames := fr, cells := rc, slots := rs, locals := lo } s args own index y bytes nL' rt' (Cond.code y bytes nL' rt' :: go_tb) { frames := fr', cells := 0, slots := 0, locals := lo' } 0 0 n := callB_of n hts (go_goodW hcode) rfl rfl rfl (hts _ m4) (hts _ m1) m5 ⟨hR.1, hR.2.1⟩
  refine go_after (G := G') (va_runV (As := As) (rest := rest) ⟨hx, hb, hml, hown, hts⟩ (hF l H.size) ⟨cb, hts _ m2, hts _ m3⟩ ⟨go_blind, va_recv hK.1 hP hcl hq, fun U hU hW => ⟨rfl, by rw [hU], by rw [hU]; exact hPc, go_KK_warm hW hK, hDc.weaken (fun _ _ _ _ => trivial)⟩⟩ rfl hn hl.1 rfl (lv_room hR.2.2.2.2) d ⟨hR.2.2.1, hR.2.2.2.1⟩) hP hD hS hA isC hC ha (fun H1 locs1 hP1 hD1 hS1 => kk H1 locs1 ls hP1 hD1 hS1 hl)
theorem go_callS (C : go_Cx X cc own rt nL fr lo rc rs G) (hF : go_Fn y bytes nL' rt' fr' lo' G As wc ra w1) (M : go_MS own index y n) (hcode : Cond.code y bytes nL' rt' ∈ go_tb) (d : decode cc pc = .ok (.invokestatic index, 3)) (rest : List Value) (hst : st = As.reverse ++ rest) (isC : List Nat) (hC : isC.map (fun i => ws[i]?) = wc.map some) (hnd : va_nd isC = true) (ha : w1.map (·.1) = wc.map (·.1))
    (hn : As.length = n) (hR : fr' + 1 ≤ fr ∧ 8 + (nL' + 11) + lo' ≤ lo ∧ kz.1 ≤ rc ∧ kz.2 ≤ rs ∧ (rest.map fun v => v.category).sum ≤ 8) (ws' : va_W) (hw : go_pa ws isC w1 = ws') (kk : go_Go X kz ws' lv (ra.toList ++ rest) (pc + 3)) : go_Go X kz ws lv st pc := by
  obtain ⟨p, l, e, R, s, m, args, below, meth, c, G', nL0, A, Q⟩ := X
  obtain ⟨hx, hb, hr, hml, hown, hts, hlk, hK, rfl, rfl, rfl, hA⟩ := C
  intro H locs ls hP hD hS hl
  subst hw; subst hst
  obtain ⟨m1, m2, m4, m5⟩ := M
  have hPc : va_P G'.1 vwCl wc H := hP.sub isC (by
    have : isC.filterMap (fun i => ws[i]?) = (isC.map (fun i => ws[i]?)).filterMap id := by rw [List.filterMap_map]; rfl
    rw [this, hC, List.filterMap_map]; exact List.filterMap_some)
  have hDc : va_D A wc := hD.sub isC hnd hC
  have cb : CallB { frames := fr, cells := rc, slots := rs, locals := lo } s args own index y bytes nL' rt' (Cond.code y bytes nL' rt' :: go_tb) { frames := fr', cells := 0, slots := 0, locals := lo' } 0 0 n := callB_of n hts (go_goodW hcode) rfl rfl rfl (hts _ m4) (hts _ m1) m5 ⟨hR.1, hR.2.1⟩
  refine go_after (G := G') (va_runS (As := As) (rest := rest) ⟨hx, hb, hml, hown, hts⟩ (hF l H.size) ⟨cb, hts _ m2⟩ ⟨go_blind, fun U hU hW => ⟨rfl, by rw [hU], by rw [hU]; exact hPc, go_KK_warm hW hK, hDc.weaken (fun _ _ _ _ => trivial)⟩⟩ rfl hn hl.1 rfl (lv_room hR.2.2.2.2) d ⟨hR.2.2.1, hR.2.2.2.1⟩) hP hD hS hA isC hC ha (fun H1 locs1 hP1 hD1 hS1 => kk H1 locs1 ls hP1 hD1 hS1 hl)
theorem go_callN (C : go_Cx X cc own rt nL fr lo rc rs G) (hF : go_Fn y bytes nL' rt' fr' lo' G As wc ra w1) (M : go_MN own index y n) (hcode : Cond.code y bytes nL' rt' ∈ go_tb) (d : decode cc pc = .ok (.invokestatic index, 3)) (rest : List Value) (hst : st = As.reverse ++ rest) (isC : List Nat) (hC : isC.map (fun i => ws[i]?) = wc.map some) (hnd : va_nd isC = true) (ha : w1.map (·.1) = wc.map (·.1))
    (hn : As.length = n) (hR : fr' + 1 ≤ fr ∧ 8 + (nL' + 11) + lo' ≤ lo ∧ kz.1 ≤ rc ∧ kz.2 ≤ rs ∧ (rest.map fun v => v.category).sum ≤ 8) (ws' : va_W) (hw : go_pa ws isC w1 = ws') (kk : go_Go X kz ws' lv (ra.toList ++ rest) (pc + 3)) : go_Go X kz ws lv st pc := by
  obtain ⟨p, l, e, R, s, m, args, below, meth, c, G', nL0, A, Q⟩ := X
  obtain ⟨hx, hb, hr, hml, hown, hts, hlk, hK, rfl, rfl, rfl, hA⟩ := C
  intro H locs ls hP hD hS hl
  subst hw; subst hst
  obtain ⟨⟨host, m1⟩, m2, m4, m5⟩ := M
  have hPc : va_P G'.1 vwCl wc H := hP.sub isC (by
    have : isC.filterMap (fun i => ws[i]?) = (isC.map (fun i => ws[i]?)).filterMap id := by rw [List.filterMap_map]; rfl
    rw [this, hC, List.filterMap_map]; exact List.filterMap_some)
  have hDc : va_D A wc := hD.sub isC hnd hC
  have cb : va_CN { frames := fr, cells := rc, slots := rs, locals := lo } s args own index y host bytes nL' rt' (Cond.code y bytes nL' rt' :: go_tb) { frames := fr', cells := 0, slots := 0, locals := lo' } 0 0 n := va_cnB n hts (go_goodW hcode) rfl rfl rfl (hK.2 _ m1 rfl) (hts _ m4) m5 ⟨hR.1, hR.2.1⟩
  refine go_after (G := G') (va_runSN (As := As) (rest := rest) ⟨hx, hb, hml, hown, hts⟩ (hF l H.size) ⟨cb, hts _ m2, trivial⟩ ⟨go_blind, fun U hU hW => ⟨rfl, by rw [hU], by rw [hU]; exact hPc, go_KK_warm hW hK, hDc.weaken (fun _ _ _ _ => trivial)⟩⟩ rfl hn hl.1 rfl (lv_room hR.2.2.2.2) d ⟨hR.2.2.1, hR.2.2.2.1⟩) hP hD hS hA isC hC ha (fun H1 locs1 hP1 hD1 hS1 => kk H1 locs1 ls hP1 hD1 hS1 hl)
/-- System.arraycopy of ints, by numbers -/
theorem go_copy (C : go_Cx X cc own rt nL fr lo rc rs G) (hl1 : Cond.methodLink own index arraycopyName ∈ go_tb) (hl2 : Cond.native arraycopyName ∈ go_tb ∧ Cond.static arraycopyName ∈ go_tb ∧ Cond.initialized "java/lang/System" ∈ go_tb) (d : decode cc pc = .ok (.invokestatic index, 3)) {a a0 n0 n1 : Nat} {f g : Nat → Int32} {sp dp cn : Int32} (q0 q1 : Nat) (ha0 : ws[q0]? = some (a0, .inl (G.2.1, n0, .inl f))) (ha1 : ws[q1]? = some (a, .inl (G.2.1, n1, .inl g)))
    (sj dj nj : Nat) (h1 : sp = nI sj) (h2 : dp = nI dj) (h3 : cn = nI nj) (h4 : sj + nj ≤ n0) (h5 : dj + nj ≤ n1) (hb0 : n0 < 2 ^ 31) (hb1 : n1 < 2 ^ 31) (hR : 1 ≤ fr ∧ (st.map fun v => v.category).sum + (nativeFrameWords "java/lang/System" "arraycopy" 5 + 11) ≤ lo) (ws' : va_W) (hw : ws.set q1 (a, .inl (G.2.1, n1, .inl (va_cpy f g sj dj nj))) = ws') (kk : go_Go X kz ws' lv st (pc + 3)) : go_Go X kz ws lv (.int cn :: .int dp :: .ref a :: .int sp :: .ref a0 :: st) pc := by
  obtain ⟨p, l, e, R, s, m, args, below, meth, c, G', nL0, A, Q⟩ := X
  obtain ⟨hx, hb, hr, hml, hown, hts, hlk, hK, rfl, rfl, rfl, hA⟩ := C
  intro H locs ls hP hD hS hl
  subst h1; subst h2; subst h3; subst hw
  have c1 : (nI sj).toNatClampNeg = sj := nI_clamp (by omega)
  have c2 : (nI dj).toNatClampNeg = dj := nI_clamp (by omega)
  have c3 : (nI nj).toNatClampNeg = nj := nI_clamp (by omega)
  refine va_copyi hx hb (hml.trans hl.1.symm) hown (hts _ hl1) (hts _ hl2.1) (hts _ hl2.2.1) (hts _ hl2.2.2) hK.1 hP hD hS q0 q1 0 0 (ty := .int) ha0 ha1 rfl rfl rfl (nI_pos (by omega)) (nI_pos (by omega)) (nI_pos (by omega)) (by rw [c1, c3]; exact h4) (by rw [c2, c3]; exact h5) (fun _ _ => rfl) hR.1 hR.2 d (fun H1 locs1 hP1 hD1 hS1 => ?_)
  rw [c1, c2, c3] at hP1 hD1
  exact kk H1 locs1 ls hP1 hD1 hS1 hl
end GC
