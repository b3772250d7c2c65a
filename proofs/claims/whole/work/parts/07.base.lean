/-! ===== numbers, truth values, contracts with something left open ===== -/
def go_b (b : Bool) : Int32 := if b then 1 else 0
theorem go_bn (b : Bool) : narrow .boolean (.int (go_b b)) = .int (go_b b) := by cases b <;> rfl
theorem go_bf (b : Bool) : fits .boolean (.int (go_b b)) = true := by cases b <;> rfl
theorem go_b0 {b : Bool} : go_b b = 0 ↔ b = false := by cases b <;> simp [go_b]
theorem go_bT : go_b true = 1 := rfl
theorem go_bF : go_b false = 0 := rfl
theorem go_binj {a b : Bool} (h : go_b a = go_b b) : a = b := by cases a <;> cases b <;> simp [go_b] at h ⊢
section GN
variable {X : go_X} {cc : ByteArray} {own : String} {rt : Option FieldType} {nL fr lo rc rs : Nat} {G : go_G} {kz : Nat × Nat} {ws : va_W} {lv : List (Nat × Value)} {st : List Value} {pc : Nat} {off : Int} {a b : Nat} {t : Bool}
theorem go_icmp_geN (C : go_Cx X cc own rt nL fr lo rc rs G) (tgt : Nat) (d : decode cc pc = .ok (.if_icmp .ge off, 3)) (ht : (pc : Int) + off = (tgt : Int)) (ha : a < 2 ^ 31) (hb : b < 2 ^ 31) (kt : ¬ a < b → go_Go X kz ws lv st tgt) (kf : a < b → go_Go X kz ws lv st (pc + 3)) : go_Go X kz ws lv (.int (nI b) :: .int (nI a) :: st) pc := go_icmp_ge C tgt d ht (fun h => kt (Nat.not_lt.mpr ((nI_leI hb ha).mp h))) (fun h => kf (Nat.not_le.mp fun z => h ((nI_leI hb ha).mpr z)))
theorem go_icmp_ltN (C : go_Cx X cc own rt nL fr lo rc rs G) (tgt : Nat) (d : decode cc pc = .ok (.if_icmp .lt off, 3)) (ht : (pc : Int) + off = (tgt : Int)) (ha : a < 2 ^ 31) (hb : b < 2 ^ 31) (kt : a < b → go_Go X kz ws lv st tgt) (kf : ¬ a < b → go_Go X kz ws lv st (pc + 3)) : go_Go X kz ws lv (.int (nI b) :: .int (nI a) :: st) pc := go_icmp_lt C tgt d ht (fun h => kt ((nI_ltI ha hb).mp h)) (fun h => kf (fun z => h ((nI_ltI ha hb).mpr z)))
theorem go_icmp_gtN (C : go_Cx X cc own rt nL fr lo rc rs G) (tgt : Nat) (d : decode cc pc = .ok (.if_icmp .gt off, 3)) (ht : (pc : Int) + off = (tgt : Int)) (ha : a < 2 ^ 31) (hb : b < 2 ^ 31) (kt : b < a → go_Go X kz ws lv st tgt) (kf : ¬ b < a → go_Go X kz ws lv st (pc + 3)) : go_Go X kz ws lv (.int (nI b) :: .int (nI a) :: st) pc := go_icmp_gt C tgt d ht (fun h => kt ((nI_ltI hb ha).mp h)) (fun h => kf (fun z => h ((nI_ltI hb ha).mpr z)))
theorem go_icmp_leN (C : go_Cx X cc own rt nL fr lo rc rs G) (tgt : Nat) (d : decode cc pc = .ok (.if_icmp .le off, 3)) (ht : (pc : Int) + off = (tgt : Int)) (ha : a < 2 ^ 31) (hb : b < 2 ^ 31) (kt : ¬ b < a → go_Go X kz ws lv st tgt) (kf : b < a → go_Go X kz ws lv st (pc + 3)) : go_Go X kz ws lv (.int (nI b) :: .int (nI a) :: st) pc := go_icmp_le C tgt d ht (fun h => kt (Nat.not_lt.mpr ((nI_leI ha hb).mp h))) (fun h => kf (Nat.not_le.mp fun z => h ((nI_leI ha hb).mpr z)))
theorem go_icmp_eqN (C : go_Cx X cc own rt nL fr lo rc rs G) (tgt : Nat) (d : decode cc pc = .ok (.if_icmp .eq off, 3)) (ht : (pc : Int) + off = (tgt : Int)) (ha : a < 2 ^ 31) (hb : b < 2 ^ 31) (kt : a = b → go_Go X kz ws lv st tgt) (kf : ¬ a = b → go_Go X kz ws lv st (pc + 3)) : go_Go X kz ws lv (.int (nI b) :: .int (nI a) :: st) pc := go_icmp_eq C tgt d ht (fun h => kt ((nI_eq ha hb).mp h)) (fun h => kf (fun z => h ((nI_eq ha hb).mpr z)))
theorem go_icmp_neN (C : go_Cx X cc own rt nL fr lo rc rs G) (tgt : Nat) (d : decode cc pc = .ok (.if_icmp .ne off, 3)) (ht : (pc : Int) + off = (tgt : Int)) (ha : a < 2 ^ 31) (hb : b < 2 ^ 31) (kt : ¬ a = b → go_Go X kz ws lv st tgt) (kf : a = b → go_Go X kz ws lv st (pc + 3)) : go_Go X kz ws lv (.int (nI b) :: .int (nI a) :: st) pc := go_icmp_ne C tgt d ht (fun h => kt (fun z => h ((nI_eq ha hb).mpr z))) (fun h => kf ((nI_eq ha hb).mp h))
theorem go_nz (ha : a < 2 ^ 31) : nI a = 0 ↔ a = 0 := by rw [← nI_0]; exact nI_eq ha (by decide)
theorem go_if_eqN (C : go_Cx X cc own rt nL fr lo rc rs G) (tgt : Nat) (d : decode cc pc = .ok (.ifCond .eq off, 3)) (ht : (pc : Int) + off = (tgt : Int)) (ha : a < 2 ^ 31) (kt : a = 0 → go_Go X kz ws lv st tgt) (kf : ¬ a = 0 → go_Go X kz ws lv st (pc + 3)) : go_Go X kz ws lv (.int (nI a) :: st) pc := go_if_eq C tgt d ht (fun h => kt ((go_nz ha).mp h)) (fun h => kf (fun z => h ((go_nz ha).mpr z)))
theorem go_if_neN (C : go_Cx X cc own rt nL fr lo rc rs G) (tgt : Nat) (d : decode cc pc = .ok (.ifCond .ne off, 3)) (ht : (pc : Int) + off = (tgt : Int)) (ha : a < 2 ^ 31) (kt : ¬ a = 0 → go_Go X kz ws lv st tgt) (kf : a = 0 → go_Go X kz ws lv st (pc + 3)) : go_Go X kz ws lv (.int (nI a) :: st) pc := go_if_ne C tgt d ht (fun h => kt (fun z => h ((go_nz ha).mpr z))) (fun h => kf ((go_nz ha).mp h))
theorem go_if_ltN (C : go_Cx X cc own rt nL fr lo rc rs G) (tgt : Nat) (d : decode cc pc = .ok (.ifCond .lt off, 3)) (ht : (pc : Int) + off = (tgt : Int)) (ha : a < 2 ^ 31) (kf : go_Go X kz ws lv st (pc + 3)) : go_Go X kz ws lv (.int (nI a) :: st) pc := go_if_lt C tgt d ht (fun h => absurd h (nI_pos ha)) (fun _ => kf)
theorem go_if_geN (C : go_Cx X cc own rt nL fr lo rc rs G) (tgt : Nat) (d : decode cc pc = .ok (.ifCond .ge off, 3)) (ht : (pc : Int) + off = (tgt : Int)) (ha : a < 2 ^ 31) (kt : go_Go X kz ws lv st tgt) : go_Go X kz ws lv (.int (nI a) :: st) pc := go_if_ge C tgt d ht (fun _ => kt) (fun h => absurd (nI_pos' ha) h)
theorem go_if_eqB (C : go_Cx X cc own rt nL fr lo rc rs G) (tgt : Nat) (d : decode cc pc = .ok (.ifCond .eq off, 3)) (ht : (pc : Int) + off = (tgt : Int)) (kt : t = false → go_Go X kz ws lv st tgt) (kf : t = true → go_Go X kz ws lv st (pc + 3)) : go_Go X kz ws lv (.int (go_b t) :: st) pc := go_if_eq C tgt d ht (fun h => kt (go_b0.mp h)) (fun h => kf (by cases t; exact absurd rfl h; rfl))
theorem go_if_neB (C : go_Cx X cc own rt nL fr lo rc rs G) (tgt : Nat) (d : decode cc pc = .ok (.ifCond .ne off, 3)) (ht : (pc : Int) + off = (tgt : Int)) (kt : t = true → go_Go X kz ws lv st tgt) (kf : t = false → go_Go X kz ws lv st (pc + 3)) : go_Go X kz ws lv (.int (go_b t) :: st) pc := go_if_ne C tgt d ht (fun h => kt (by cases t; exact absurd rfl h; rfl)) (fun h => kf (go_b0.mp h))
/-- the contents of a row of ints under another name -/
theorem go_cont {f : Nat → Int32} {c : ClassId} {n : Nat} (q0 : Nat) (he : ws[q0]? = some (a, .inl (c, n, .inl f))) (g : Nat → Int32) (hfg : ∀ j, j < n → f j = g j) (ws' : va_W) (hw : ws.set q0 (a, .inl (c, n, .inl g)) = ws') (kk : go_Go X kz ws' lv st pc) : go_Go X kz ws lv st pc := by
  obtain ⟨p, l, e, R, s, m, args, below, meth, c, G', nL', A, Q⟩ := X
  intro H locs ls hP hD hS hl
  subst hw
  refine kk H locs ls (hP.set hD he ?_ (fun _ _ => rfl)) (hD.set he) hS hl
  have h1 := hP q0 _ he
  show H[a]? = some (vp_cell _ (n, .inl g))
  have h2 : H[a]? = some (vp_cell _ (n, .inl f)) := h1
  rw [h2, vp_cell_i, vp_cell_i]
  congr 1
  unfold arrV
  congr 1
  apply Array.ext
  · simp
  · intro i h3 h4
    simp at h3
    simp [hfg i h3]
end GN
/-- a contract that leaves something open: u -/
def go_Qe (G : go_G) (A : Nat → Prop) {S : Type} (P : S → Prop) (r : S → Option Value) (W1 : S → va_W) : Array Value → State → Outcome → State → Prop := fun _ st oc t => (∃ u : S, P u ∧ oc = .returned (r u) ∧ va_P G.1 vwCl (W1 u) t.heap) ∧ va_F A st t
def go_Fe (y : MethodName) (cc : ByteArray) (nL : Nat) (rt : Option FieldType) (fr lo : Nat) (G : go_G) (As : List Value) (W0 : va_W) {S : Type} (P : S → Prop) (r : S → Option Value) (W1 : S → va_W) : Prop :=
  ∀ (l : Launch) (sz : Nat), Met l y (.code y cc nL rt :: go_tb) { frames := fr, cells := 0, slots := 0, locals := lo } (va_Pc As (fun U => U.heap.size = sz ∧ va_P G.1 vwCl W0 U.heap ∧ go_KK G U ∧ va_D (fun _ => True) W0)) (go_Qe G (va_A W0 sz) P r W1) 0 0 (va_A W0 sz)
def go_Ee (X : go_X) {S : Type} (P : S → Prop) (r : S → Option Value) (W1 : S → va_W) : Prop :=
  match X with
  | (_, _, _, _, s, _, args, below, _, _, G, _, A, Q) => Q = MQ below (go_Qe G A P r W1) args s 0 0 A
theorem go_Fe_of {y : MethodName} {cc : ByteArray} {nL : Nat} {rt : Option FieldType} {fr lo : Nat} {G : go_G} {As : List Value} {W0 : va_W} {S : Type} {P : S → Prop} {r : S → Option Value} {W1 : S → va_W} (hy : plainName y.cls = true) (hn : (lg_sl As).length ≤ nL)
    (h : ∀ X : go_X, go_Cx X cc y.cls rt nL fr lo 0 0 G → go_Ee X P r W1 → go_Go X (0, 0) W0 (lv_args 0 As) [] 0) : go_Fe y cc nL rt fr lo G As W0 P r W1 := by
  intro l sz
  refine Met.ofW (cc := cc) (maxL := nL) (ret := rt) hy rfl ?_
  intro p e s m args below meth c s₁ B hml hv
  obtain ⟨rfl, hsz, hP, hK, hD0⟩ := hv
  subst hsz
  have hts := atoms_spec (ws := .code y cc nL rt :: go_tb) B.pre
  have hown : s.vm.findClass y.cls = some m.cls := findClass_of_methodNamed B.named
  have hg := h (p, l, e, (headSpec (.code y cc nL rt :: go_tb) { frames := fr, cells := 0, slots := 0, locals := lo }).room, s, m, As.toArray, below, meth, c, G, nL, va_A W0 s.heap.size, MQ below (go_Qe G (va_A W0 s.heap.size) P r W1) As.toArray s 0 0 (va_A W0 s.heap.size))
    ⟨B.exec, B.bytes, B.returns, hml, hown, fun w hw => hts w (List.mem_cons_of_mem _ hw), B.notSynchronized, hK, rfl, rfl, rfl, fun q hq => Or.inr hq⟩ rfl
  have hl := lv_entry As (n := nL) hn
  rw [lg_entry_eq]
  exact hg s.heap [] _ hP hD0.self va_S.rf hl
theorem go_afterE {p : Program} {l : Launch} {e : Env} {R : Room} {s : State} {m : MethodId} {args a : Array Value} {below : List Frame} {meth : Method} {c : Code} {H : Heap} {locs : List Loc} {cells slots : Nat} {Q : State → Prop} {pc : Nat} {ls : Array Slot} {rest st0 : List Value} {A : Nat → Prop} {G : go_G} {ws wc : va_W} {S : Type} {P : S → Prop} {r : S → Option Value} {w1 : S → va_W}
    (hr : va_Run p l e R s m args below meth c H locs cells slots 0 0 (F0 m pc ls st0) rest (go_Qe G (va_A wc H.size) P r w1 a) (va_A wc H.size)) (hP : va_P G.1 vwCl ws H) (hD : va_D A ws) (hS : va_S A s.heap H locs) (hA : ∀ q, s.heap.size ≤ q → A q) (isC : List Nat) (hC : isC.map (fun i => ws[i]?) = wc.map some) (ha : ∀ u, (w1 u).map (·.1) = wc.map (·.1))
    (kk : ∀ (u : S) (H1 : Heap) (locs1 : List Loc), P u → va_P G.1 vwCl (go_pa ws isC (w1 u)) H1 → va_D A (go_pa ws isC (w1 u)) → va_S A s.heap H1 locs1 → W p l e R s m args below meth c H1 locs1 cells slots Q (F0 m (pc + 3) ls ((r u).toList ++ rest))) : W p l e R s m args below meth c H locs cells slots Q (F0 m pc ls st0) := by
  intro T hT X
  obtain ⟨v, st₀, t, T', L, h0, X', hL, e1, e2, ⟨⟨u, hu, hv, hp1⟩, hz, hk⟩, st⟩ := hr T hT X
  cases hv
  rw [h0] at hz hk
  have hF := va_free (wc := wc) hD hS hA isC hC
  rw [← e1] at hp1 hz hk
  obtain ⟨j1, j2⟩ := go_join hP hD isC hC (ha u) hk hp1
  obtain ⟨t2, a1, b1⟩ := kk u T'.heap (locs ++ L) hu j1 j2
    ⟨Nat.le_trans hS.1 hz, fun q h1 h2 => by rw [hk q (Nat.lt_of_lt_of_le h1 hS.1) (fun z => h2 (hF q z))]; exact hS.2.1 q h1 h2, fun q hq => by
      rcases List.mem_append.mp hq with h | h
      · exact hS.2.2 q h
      · exact hF _ (hL q h)⟩ T' rfl X'
  exact ⟨t2, st t2 a1, b1⟩
section GE
variable {X : go_X} {cc : ByteArray} {own : String} {rt : Option FieldType} {nL fr lo rc rs : Nat} {G : go_G} {kz : Nat × Nat} {ws : va_W} {lv : List (Nat × Value)} {st : List Value} {pc : Nat}
variable {y : MethodName} {bytes : ByteArray} {nL' fr' lo' : Nat} {rt' : Option FieldType} {As : List Value} {wc : va_W} {S : Type} {P : S → Prop} {ra : S → Option Value} {w1 : S → va_W} {b n index ci : Nat}
theorem go_callVe (C : go_Cx X cc own rt nL fr lo rc rs G) (hF : go_Fe y bytes nL' rt' fr' lo' G (.ref b :: As) wc P ra w1) (M : go_MV own index y n) (hcode : Cond.code y bytes nL' rt' ∈ go_tb) (d : decode cc pc = .ok (.invokevirtual index, 3)) (rest : List Value) (hst : st = As.reverse ++ .ref b :: rest) (isC : List Nat) (hC : isC.map (fun i => ws[i]?) = wc.map some) (hnd : va_nd isC = true) (ha : ∀ u, (w1 u).map (·.1) = wc.map (·.1))
    (q0 : Nat) {fs : List Value} {T : u_T} {N : Nat} (hq : ws[q0]? = some (b, .inr (ci, fs))) (hcl : vwCl[ci]? = some (y.cls, T, N)) (hn : As.length = n) (hR : fr' + 1 ≤ fr ∧ 8 + (nL' + 11) + lo' ≤ lo ∧ kz.1 ≤ rc ∧ kz.2 ≤ rs ∧ (rest.map fun v => v.category).sum ≤ 8) (ws' : S → va_W) (hw : ∀ u, go_pa ws isC (w1 u) = ws' u) (kk : ∀ u, P u → go_Go X kz (ws' u) lv ((ra u).toList ++ rest) (pc + 3)) : go_Go X kz ws lv st pc := by
  obtain ⟨p, l, e, R, s, m, args, below, meth, c, G', nL0, A, Q⟩ := X
  obtain ⟨hx, hb, hr, hml, hown, hts, hlk, hK, rfl, rfl, rfl, hA⟩ := C
  intro H locs ls hP hD hS hl
  subst hst
  obtain ⟨m1, m2, m3, m4, m5⟩ := M
  have hPc : va_P G'.1 vwCl wc H := hP.sub isC (by
    have : isC.filterMap (fun i => ws[i]?) = (isC.map (fun i => ws[i]?)).filterMap id := by rw [List.filterMap_map]; rfl
    rw [this, hC, List.filterMap_map]; exact List.filterMap_some)
  have hDc : va_D A wc := hD.sub isC hnd hC
  have cb : CallB { frames := fr, cells := rc, slots := rs, locals := lo } s args own index y bytes nL' rt' (Cond.code y bytes nL' rt' :: go_tb) { frames := fr', cells := 0, slots := 0, locals := lo' } 0 0 n := callB_of n hts (go_goodW hcode) rfl rfl rfl (hts _ m4) (hts _ m1) m5 ⟨hR.1, hR.2.1⟩
  refine go_afterE (G := G') (va_runV (As := As) (rest := rest) ⟨hx, hb, hml, hown, hts⟩ (hF l H.size) ⟨cb, hts _ m2, hts _ m3⟩ ⟨go_blind, va_recv hK.1 hP hcl hq, fun U hU hW => ⟨rfl, by rw [hU], by rw [hU]; exact hPc, go_KK_warm hW hK, hDc.weaken (fun _ _ _ _ => trivial)⟩⟩ rfl hn hl.1 rfl (lv_room hR.2.2.2.2) d ⟨hR.2.2.1, hR.2.2.2.1⟩) hP hD hS hA isC hC ha (fun u H1 locs1 hu hP1 hD1 hS1 => by
    rw [hw u] at hP1 hD1
    exact kk u hu H1 locs1 ls hP1 hD1 hS1 hl)
theorem go_callSe (C : go_Cx X cc own rt nL fr lo rc rs G) (hF : go_Fe y bytes nL' rt' fr' lo' G As wc P ra w1) (M : go_MS own index y n) (hcode : Cond.code y bytes nL' rt' ∈ go_tb) (d : decode cc pc = .ok (.invokestatic index, 3)) (rest : List Value) (hst : st = As.reverse ++ rest) (isC : List Nat) (hC : isC.map (fun i => ws[i]?) = wc.map some) (hnd : va_nd isC = true) (ha : ∀ u, (w1 u).map (·.1) = wc.map (·.1))
    (hn : As.length = n) (hR : fr' + 1 ≤ fr ∧ 8 + (nL' + 11) + lo' ≤ lo ∧ kz.1 ≤ rc ∧ kz.2 ≤ rs ∧ (rest.map fun v => v.category).sum ≤ 8) (ws' : S → va_W) (hw : ∀ u, go_pa ws isC (w1 u) = ws' u) (kk : ∀ u, P u → go_Go X kz (ws' u) lv ((ra u).toList ++ rest) (pc + 3)) : go_Go X kz ws lv st pc := by
  obtain ⟨p, l, e, R, s, m, args, below, meth, c, G', nL0, A, Q⟩ := X
  obtain ⟨hx, hb, hr, hml, hown, hts, hlk, hK, rfl, rfl, rfl, hA⟩ := C
  intro H locs ls hP hD hS hl
  subst hst
  obtain ⟨m1, m2, m4, m5⟩ := M
  have hPc : va_P G'.1 vwCl wc H := hP.sub isC (by
    have : isC.filterMap (fun i => ws[i]?) = (isC.map (fun i => ws[i]?)).filterMap id := by rw [List.filterMap_map]; rfl
    rw [this, hC, List.filterMap_map]; exact List.filterMap_some)
  have hDc : va_D A wc := hD.sub isC hnd hC
  have cb : CallB { frames := fr, cells := rc, slots := rs, locals := lo } s args own index y bytes nL' rt' (Cond.code y bytes nL' rt' :: go_tb) { frames := fr', cells := 0, slots := 0, locals := lo' } 0 0 n := callB_of n hts (go_goodW hcode) rfl rfl rfl (hts _ m4) (hts _ m1) m5 ⟨hR.1, hR.2.1⟩
  refine go_afterE (G := G') (va_runS (As := As) (rest := rest) ⟨hx, hb, hml, hown, hts⟩ (hF l H.size) ⟨cb, hts _ m2⟩ ⟨go_blind, fun U hU hW => ⟨rfl, by rw [hU], by rw [hU]; exact hPc, go_KK_warm hW hK, hDc.weaken (fun _ _ _ _ => trivial)⟩⟩ rfl hn hl.1 rfl (lv_room hR.2.2.2.2) d ⟨hR.2.2.1, hR.2.2.2.1⟩) hP hD hS hA isC hC ha (fun u H1 locs1 hu hP1 hD1 hS1 => by
    rw [hw u] at hP1 hD1
    exact kk u hu H1 locs1 ls hP1 hD1 hS1 hl)
theorem go_iretE (C : go_Cx X cc own (some .int) nL fr lo rc rs G) (E : go_Ee X P ra w1) {v : Int32} (d : decode cc pc = .ok (.ireturn, 1)) (u : S) (hu : P u) (hr : some (.int v) = ra u) (hw : ws = w1 u) : go_Go X (0, 0) ws lv [.int v] pc := by
  obtain ⟨p, l, e, R, s, m, args, below, meth, c, G', nL', A, Q⟩ := X
  obtain ⟨hx, hb, hrt, hml, hown, hts, hlk, hK, rfl, rfl, rfl, hA⟩ := C
  intro H locs ls hP hD hS hl
  have E : Q = _ := E
  subst E; subst hw
  exact W.iret hx hb hrt (fun t ht hW => ⟨⟨u, hu, by rw [hr], by rw [ht]; exact hP⟩, hS.F ht⟩) hS.2.2 d hlk
theorem go_zretE (C : go_Cx X cc own (some .boolean) nL fr lo rc rs G) (E : go_Ee X P ra w1) {v : Int32} (d : decode cc pc = .ok (.ireturn, 1)) (hn : narrow .boolean (.int v) = .int v) (u : S) (hu : P u) (hr : some (.int v) = ra u) (hw : ws = w1 u) : go_Go X (0, 0) ws lv [.int v] pc := by
  obtain ⟨p, l, e, R, s, m, args, below, meth, c, G', nL', A, Q⟩ := X
  obtain ⟨hx, hb, hrt, hml, hown, hts, hlk, hK, rfl, rfl, rfl, hA⟩ := C
  intro H locs ls hP hD hS hl
  have E : Q = _ := E
  subst E; subst hw
  exact W.zret hx hb hrt hn (fun t ht hW => ⟨⟨u, hu, by rw [hr], by rw [ht]; exact hP⟩, hS.F ht⟩) hS.2.2 d hlk
theorem go_vretE (C : go_Cx X cc own none nL fr lo rc rs G) (E : go_Ee X P ra w1) (d : decode cc pc = .ok (.return_, 1)) (u : S) (hu : P u) (hr : none = ra u) (hw : ws = w1 u) : go_Go X (0, 0) ws lv [] pc := by
  obtain ⟨p, l, e, R, s, m, args, below, meth, c, G', nL', A, Q⟩ := X
  obtain ⟨hx, hb, hrt, hml, hown, hts, hlk, hK, rfl, rfl, rfl, hA⟩ := C
  intro H locs ls hP hD hS hl
  have E : Q = _ := E
  subst E; subst hw
  exact W.vret hx hb hrt (fun t ht hW => ⟨⟨u, hu, by rw [hr], by rw [ht]; exact hP⟩, hS.F ht⟩) hS.2.2 d hlk
end GE
