/-! ===== constructors: rows that make cells ===== -/
def go_AO (X : go_X) : Prop := match X with | (_, _, _, _, s, _, _, _, _, _, _, _, _, _) => va_AO "ProtoCheck$WordRow" s
def go_IN (X : go_X) : Prop := match X with | (_, _, _, _, _, _, _, _, meth, _, _, _, _, _) => meth.name = "<init>"
def go_Qi (G : go_G) (A : Nat → Prop) (W1 : (Nat → Nat) → va_W) : Array Value → State → Outcome → State → Prop := fun _ st oc t => (∃ ad : Nat → Nat, oc = .returned none ∧ va_P G.1 vwCl (W1 ad) t.heap ∧ va_D A (W1 ad)) ∧ va_F A st t
def go_Fi (y : MethodName) (cc : ByteArray) (nL fr lo mc ms : Nat) (G : go_G) (b : Nat) (W0 : va_W) (W1 : (Nat → Nat) → va_W) : Prop :=
  ∀ (l : Launch) (sz : Nat), Met l y (.code y cc nL none :: go_tb) { frames := fr, cells := mc, slots := ms, locals := lo } (va_Pc [.ref b] (fun U => U.heap.size = sz ∧ va_P G.1 vwCl W0 U.heap ∧ (go_KK G U ∧ va_AO "ProtoCheck$WordRow" U) ∧ va_D (fun _ => True) W0)) (go_Qi G (va_A W0 sz) W1) mc ms (va_A W0 sz)
def go_Ei (X : go_X) (mc ms : Nat) (W1 : (Nat → Nat) → va_W) : Prop :=
  match X with
  | (_, _, _, _, s, _, args, below, _, _, G, _, A, Q) => Q = MQ below (go_Qi G A W1) args s mc ms A
theorem go_Fi_of {y : MethodName} {cc : ByteArray} {nL fr lo mc ms : Nat} {G : go_G} {b : Nat} {W0 : va_W} {W1 : (Nat → Nat) → va_W} (hy : plainName y.cls = true) (hn : (lg_sl [Value.ref b]).length ≤ nL) (hi : y.name = "<init>")
    (h : ∀ X : go_X, go_Cx X cc y.cls none nL fr lo mc ms G → go_AO X → go_IN X → go_Ei X mc ms W1 → go_Go X (0, 0) W0 (lv_args 0 [.ref b]) [] 0) : go_Fi y cc nL fr lo mc ms G b W0 W1 := by
  intro l sz
  refine Met.ofW (cc := cc) (maxL := nL) (ret := none) hy rfl ?_
  intro p e s m args below meth c s₁ B hml hv
  obtain ⟨rfl, hsz, hP, hK, hD0⟩ := hv
  subst hsz
  have hts := atoms_spec (ws := .code y cc nL none :: go_tb) B.pre
  have hown : s.vm.findClass y.cls = some m.cls := findClass_of_methodNamed B.named
  have hin : meth.name = y.name := (name_of_methodNamed B.named B.method).1
  have hg := h (p, l, e, (headSpec (.code y cc nL none :: go_tb) { frames := fr, cells := mc, slots := ms, locals := lo }).room, s, m, [Value.ref b].toArray, below, meth, c, G, nL, va_A W0 s.heap.size, MQ below (go_Qi G (va_A W0 s.heap.size) W1) [Value.ref b].toArray s mc ms (va_A W0 s.heap.size))
    ⟨B.exec, B.bytes, B.returns, hml, hown, fun w hw => hts w (List.mem_cons_of_mem _ hw), B.notSynchronized, hK.1, rfl, rfl, rfl, fun q hq => Or.inr hq⟩ hK.2 (hin.trans hi) rfl
  have hl := lv_entry [Value.ref b] (n := nL) hn
  rw [lg_entry_eq]
  exact hg s.heap [] _ hP hD0.self va_S.rf hl
section GI
variable {X : go_X} {cc : ByteArray} {own : String} {rt : Option FieldType} {nL fr lo rc rs : Nat} {G : go_G} {kz : Nat × Nat} {ws : va_W} {lv : List (Nat × Value)} {st : List Value} {pc : Nat}
theorem go_newa (C : go_Cx X cc own rt nL fr lo rc rs G) (ha : Cond.arrayClass .int ∈ go_tb) {n : Int32} (N : Nat) (d : decode cc pc = .ok (.newarray .int, 2)) (hn : n = nI N) (hN : N < 100000) (hk : kz.1 + 1 ≤ rc ∧ kz.2 + N ≤ rs) (kk : ∀ q : Nat, go_Go X (kz.1 + 1, kz.2 + N) (ws ++ [(q, .inl (G.2.1, N, .inl (fun _ => 0)))]) lv (.ref q :: st) (pc + 2)) : go_Go X kz ws lv (.int n :: st) pc := by
  obtain ⟨p, l, e, R, s, m, args, below, meth, c, G', nL', A, Q⟩ := X
  obtain ⟨hx, hb, hr, hml, hown, hts, hlk, hK, rfl, rfl, rfl, hA⟩ := C
  intro H locs ls hP hD hS hl
  subst hn
  refine va_newa (atype := .int) (ty := .int) (a0 := (N, .inl (fun _ => 0))) hx hb (hts _ ha) rfl hK.1 hP hD hS hA (fun _ => rfl) (nI_pos (by omega)) (nI_clamp (by omega)) (by show N * 4 ≤ _; omega) hk.1 hk.2 d (fun q cA H1 hK1 hP1 hD1 hS1 => ?_)
  have e1 : va_RA s cA .int := (hK1.2 2 _ rfl).2
  have e2 : va_RA s G'.2.1 .int := (hK.1.2 0 _ rfl).2
  have e3 : cA = G'.2.1 := Option.some.inj (Eq.trans (Eq.symm e1) e2)
  subst e3
  exact kk q H1 locs ls hP1 hD1 hS1 hl
theorem go_newq (C : go_Cx X cc own rt nL fr lo rc rs G) (hAO : go_AO X) {index : Nat} (hcl : Cond.classLink own index "ProtoCheck$WordRow" ∈ go_tb) {n : Int32} (N : Nat) (d : decode cc pc = .ok (.anewarray index, 3)) (hn : n = nI N) (hN : N < 100000) (hk : kz.1 + 1 ≤ rc ∧ kz.2 + N ≤ rs) (kk : ∀ q : Nat, go_Go X (kz.1 + 1, kz.2 + N) (ws ++ [(q, .inl (G.2.2, N, .inr (.inr (.inr (.inr (fun _ => none))))))]) lv (.ref q :: st) (pc + 3)) : go_Go X kz ws lv (.int n :: st) pc := by
  obtain ⟨p, l, e, R, s, m, args, below, meth, c, G', nL', A, Q⟩ := X
  obtain ⟨hx, hb, hr, hml, hown, hts, hlk, hK, rfl, rfl, rfl, hA⟩ := C
  intro H locs ls hP hD hS hl
  subst hn
  refine va_newq hx hb hown (hts _ hcl) hAO hK.1 hP hD hS hA (nI_pos (by omega)) (nI_clamp (by omega)) (by omega) hk.1 hk.2 d (fun q cA H1 hK1 hP1 hD1 hS1 => ?_)
  obtain ⟨_, _, -, -, -, e1⟩ := (hK1.2 2 _ rfl).2
  obtain ⟨_, _, -, -, -, e2⟩ := (hK.1.2 1 _ rfl).2
  have e3 : cA = G'.2.2 := Option.some.inj (Eq.trans (Eq.symm e1) e2)
  subst e3
  exact kk q H1 locs ls hP1 hD1 hS1 hl
theorem go_aast (C : go_Cx X cc own rt nL fr lo rc rs G) {a n v : Nat} {vs : List Value} {f : Nat → Option Nat} {i : Int32} (d : decode cc pc = .ok (.aastore, 1)) (q0 qk : Nat) (he : ws[q0]? = some (a, .inl (G.2.2, n, .inr (.inr (.inr (.inr f)))))) (hv : ws[qk]? = some (v, .inr (6, vs))) (j : Nat) (hi : i = nI j) (hj : j < n) (hn : n < 2 ^ 31) (ws' : va_W) (hw : ws.set q0 (a, .inl (G.2.2, n, .inr (.inr (.inr (.inr (va_up f j (some v))))))) = ws') (kk : go_Go X kz ws' lv st (pc + 1)) : go_Go X kz ws lv (.ref v :: .int i :: .ref a :: st) pc := by
  obtain ⟨p, l, e, R, s, m, args, below, meth, c, G', nL', A, Q⟩ := X
  obtain ⟨hx, hb, hr, hml, hown, hts, hlk, hK, rfl, rfl, rfl, hA⟩ := C
  intro H locs ls hP hD hS hl
  subst hi
  subst hw
  have hc : (nI j).toNatClampNeg = j := nI_clamp (by omega)
  refine va_astq (r := (RX7, TX7, 2)) hx hb hK.1 hP hD hS q0 1 qk 6 he rfl hv rfl (vp_in_nI hj hn) d (fun H2 locs2 hP2 hD2 hS2 => ?_)
  rw [hc] at hP2 hD2
  exact kk H2 locs2 ls hP2 hD2 hS2 hl
/-- the rows of references under another name -/
theorem go_contq {a : Nat} {f : Nat → Option Nat} {c : ClassId} {n : Nat} (q0 : Nat) (he : ws[q0]? = some (a, .inl (c, n, .inr (.inr (.inr (.inr f)))))) (g : Nat → Option Nat) (hfg : ∀ j, j < n → f j = g j) (ws' : va_W) (hw : ws.set q0 (a, .inl (c, n, .inr (.inr (.inr (.inr g))))) = ws') (kk : go_Go X kz ws' lv st pc) : go_Go X kz ws lv st pc := by
  obtain ⟨p, l, e, R, s, m, args, below, meth, c, G', nL', A, Q⟩ := X
  intro H locs ls hP hD hS hl
  subst hw
  refine kk H locs ls (hP.set hD he ?_ (fun _ _ => rfl)) (hD.set he) hS hl
  have h2 : H[a]? = some (vp_cell _ (n, .inr (.inr (.inr (.inr f))))) := hP q0 _ he
  show H[a]? = some (vp_cell _ (n, .inr (.inr (.inr (.inr g)))))
  rw [h2, vp_cell_q, vp_cell_q]
  congr 1
  unfold arrV
  congr 1
  apply Array.ext
  · simp
  · intro i h3 h4
    simp at h3
    simp [hfg i h3]
def go_CN (own : String) (index ci : Nat) (Cn : String) (T : u_T) (N : Nat) (ty : Nat → FieldType) : Prop := vwCl[ci]? = some (Cn, T, N) ∧ (∀ w ∈ u_ws Cn T N, w ∈ go_tb) ∧ (∀ k, k < N → parseFieldDescriptor (T k).2.2.1 = some (ty k)) ∧ Cond.classLink own index Cn ∈ go_tb ∧ Cond.instantiable Cn N ∈ go_tb ∧ Cond.initialized Cn ∈ go_tb
theorem go_new (C : go_Cx X cc own rt nL fr lo rc rs G) {index ci N : Nat} {Cn : String} {T : u_T} {ty : Nat → FieldType} (K : go_CN own index ci Cn T N ty) (fs : List Value) (hfs : ∀ j, j < N → defaultValue (ty j) = vp_V fs j) (d : decode cc pc = .ok (.new index, 3)) (hk : kz.1 + 1 ≤ rc ∧ kz.2 + N ≤ rs) (kk : ∀ q : Nat, go_Go X (kz.1 + 1, kz.2 + N) (ws ++ [(q, .inr (ci, fs))]) lv (.ref q :: st) (pc + 3)) : go_Go X kz ws lv st pc := by
  obtain ⟨p, l, e, R, s, m, args, below, meth, c, G', nL', A, Q⟩ := X
  obtain ⟨hx, hb, hr, hml, hown, hts, hlk, hK, rfl, rfl, rfl, hA⟩ := C
  obtain ⟨h1, h2, h3, h4, h5, h6⟩ := K
  intro H locs ls hP hD hS hl
  exact va_new (ci := ci) (fs := fs) hx hb hts h2 ty h3 hown (hts _ h4) (hts _ h5) (hts _ h6) hK.1 hP hD hS hA h1 hfs hk.1 hk.2 d (fun q H1 hP1 hD1 hS1 => kk q H1 locs ls hP1 hD1 hS1 hl)
def go_FF (own : String) (index ci k : Nat) (ty : FieldType) : Prop := ∃ (Cn : String) (T : u_T) (N : Nat) (ty0 : Nat → FieldType), vwCl[ci]? = some (Cn, T, N) ∧ (∀ w ∈ u_ws Cn T N, w ∈ go_tb) ∧ k < N ∧ Cond.fieldLink own index (T k).1 (T k).2.1 (T k).2.2.1 ∈ go_tb ∧ (∀ k, k < N → parseFieldDescriptor (T k).2.2.1 = some (ty0 k)) ∧ (∀ a, a < N → ∀ b, b < N → a ≠ b → (T a).2.1 ≠ (T b).2.1) ∧ (T k).2.2.2 = true ∧ parseFieldDescriptor (T k).2.2.1 = some ty ∧ (T k).1 = own
theorem go_putF (C : go_Cx X cc own rt nL fr lo rc rs G) (hI : go_IN X) {index ci k a : Nat} {fs : List Value} {v : Value} {ty : FieldType} (F : go_FF own index ci k ty) (d : decode cc pc = .ok (.putfield index, 3)) (q0 : Nat) (he : ws[q0]? = some (a, .inr (ci, fs))) (hn : narrow ty v = v) (hfit : fits ty v = true) (hl : k < fs.length) (ws' : va_W) (hw : ws.set q0 (a, .inr (ci, fs.set k v)) = ws') (kk : go_Go X kz ws' lv st (pc + 3)) : go_Go X kz ws lv (v :: .ref a :: st) pc := by
  obtain ⟨p, l, e, R, s, m, args, below, meth, c, G', nL', A, Q⟩ := X
  obtain ⟨hx, hb, hr, hml, hown, hts, hlk, hK, rfl, rfl, rfl, hA⟩ := C
  obtain ⟨Cn, T, N, ty0, h1, h2, h3, h4, h5, h6, h7, h8, h9⟩ := F
  intro H locs ls hP hD hS hl9
  subst hw
  exact va_putF (D := G'.1) (ci := ci) (v := v) (ty := ty) hx hb hts h2 ty0 h5 h6 hown hK.1 hP hD hS q0 he h1 k h3 (hts _ h4) (fun _ h9 => h9) h7 hI h9 h8 hn hfit hl d (fun H2 locs2 hP2 hD2 hS2 => kk H2 locs2 ls hP2 hD2 hS2 hl9)
theorem go_oinit (C : go_Cx X cc own rt nL fr lo rc rs G) {index a : Nat} (h1 : Cond.methodLink own index Lib.objectInit ∈ go_tb) (h2 : Cond.instanceMethod Lib.objectInit ∈ go_tb ∧ Cond.code Lib.objectInit ⟨#[0xb1]⟩ 1 none ∈ go_tb) (d : decode cc pc = .ok (.invokespecial index, 3)) (hR : 1 ≤ fr ∧ (st.map fun v => v.category).sum + 12 ≤ lo) (kk : go_Go X kz ws lv st (pc + 3)) : go_Go X kz ws lv (.ref a :: st) pc := by
  obtain ⟨p, l, e, R, s, m, args, below, meth, c, G', nL', A, Q⟩ := X
  obtain ⟨hx, hb, hr, hml, hown, hts, hlk, hK, rfl, rfl, rfl, hA⟩ := C
  intro H locs ls hP hD hS hl
  exact W.objInit hx hb hown (hts _ h1) (hts _ h2.1) (hts _ h2.2) rfl (hl.1.trans hml.symm) rfl d hR.1 (by show 2 * 0 + _ + 12 ≤ lo; omega) (kk H locs ls hP hD hS hl)
theorem go_vretI (C : go_Cx X cc own none nL fr lo rc rs G) {mc ms : Nat} {W1 : (Nat → Nat) → va_W} (E : go_Ei X mc ms W1) (d : decode cc pc = .ok (.return_, 1)) (ad : Nat → Nat) (hw : ws = W1 ad) : go_Go X (mc, ms) ws lv [] pc := by
  obtain ⟨p, l, e, R, s, m, args, below, meth, c, G', nL', A, Q⟩ := X
  obtain ⟨hx, hb, hrt, hml, hown, hts, hlk, hK, rfl, rfl, rfl, hA⟩ := C
  intro H locs ls hP hD hS hl
  have E : Q = _ := E
  subst E; subst hw
  exact W.vret hx hb hrt (fun t ht hW => ⟨⟨ad, rfl, by rw [ht]; exact hP, hD⟩, hS.F ht⟩) hS.2.2 d hlk
theorem go_blindI {b : Nat} {W0 : va_W} {sz : Nat} : FrameBlind (va_Pc [.ref b] (fun U => U.heap.size = sz ∧ va_P G.1 vwCl W0 U.heap ∧ (go_KK G U ∧ va_AO "ProtoCheck$WordRow" U) ∧ va_D (fun _ => True) W0)) := fun a U g mk q => ⟨q.1, q.2.1, q.2.2.1, ⟨go_KK_calling q.2.2.2.1.1, va_AO.moved (u := U) (U := U.calling g mk a) (Vm.Alike.refl U.vm) q.2.2.2.1.2⟩, q.2.2.2.2⟩
theorem go_afterI {p : Program} {l : Launch} {e : Env} {R : Room} {s : State} {m : MethodId} {args a : Array Value} {below : List Frame} {meth : Method} {c : Code} {H : Heap} {locs : List Loc} {cells slots mc ms : Nat} {Q : State → Prop} {ls : Array Slot} {rest st0 : List Value} {A : Nat → Prop} {wc wr : va_W} {w1 : (Nat → Nat) → va_W}
    (hr : va_Run p l e R s m args below meth c H locs cells slots mc ms (F0 m pc ls st0) rest (go_Qi G (va_A wc H.size) w1 a) (va_A wc H.size)) (hP : va_P G.1 vwCl ws H) (hD : va_D A ws) (hS : va_S A s.heap H locs) (hA : ∀ q, s.heap.size ≤ q → A q) (isC isR : List Nat) (hC : isC.map (fun i => ws[i]?) = wc.map some) (hRr : isR.map (fun i => ws[i]?) = wr.map some) (hn : va_nd isR = true) (hdis : ∀ i ∈ isR, i ∉ isC)
    (kk : ∀ (ad : Nat → Nat) (H1 : Heap) (locs1 : List Loc), va_P G.1 vwCl (wr ++ w1 ad) H1 → va_D A (wr ++ w1 ad) → va_S A s.heap H1 locs1 → W p l e R s m args below meth c H1 locs1 (cells + mc) (slots + ms) Q (F0 m (pc + 3) ls rest)) : W p l e R s m args below meth c H locs cells slots Q (F0 m pc ls st0) := by
  intro T hT X
  obtain ⟨v, st₀, t, T', L, h0, X', hL, e1, e2, ⟨⟨ad, hv, hp1, hd1⟩, hz, hk⟩, st⟩ := hr T hT X
  cases hv
  rw [h0] at hz hk
  have hF := va_free (wc := wc) hD hS hA isC hC
  rw [← e1] at hp1 hz hk
  obtain ⟨j1, j2⟩ := va_join (wr := wr) (w1 := w1 ad) hP hD isC isR hC hRr hn hdis hk hF hp1 hd1
  obtain ⟨t2, a1, b1⟩ := kk ad T'.heap (locs ++ L) j1 j2
    ⟨Nat.le_trans hS.1 hz, fun q h1 h2 => by rw [hk q (Nat.lt_of_lt_of_le h1 hS.1) (fun z => h2 (hF q z))]; exact hS.2.1 q h1 h2, fun q hq => by
      rcases List.mem_append.mp hq with h | h
      · exact hS.2.2 q h
      · exact hF _ (hL q h)⟩ T' rfl X'
  exact ⟨t2, st t2 a1, b1⟩
variable {y : MethodName} {bytes : ByteArray} {nL' fr' lo' mc ms : Nat} {wc wr : va_W} {w1 : (Nat → Nat) → va_W} {b index : Nat}
theorem go_callI (C : go_Cx X cc own rt nL fr lo rc rs G) (hAO : go_AO X) (hF : go_Fi y bytes nL' fr' lo' mc ms G b wc w1) (M : Cond.methodLink own index y ∈ go_tb ∧ Cond.instanceMethod y ∈ go_tb ∧ Cond.initialized y.cls ∈ go_tb ∧ (y.cls ≠ "java/lang/invoke/MethodHandle" ∧ y.cls ≠ "java/lang/invoke/VarHandle" ∧ (parseMethodDescriptor y.desc).map (fun d => d.parameters.length) = some 0)) (hy : y.name = "<init>") (hcode : Cond.code y bytes nL' none ∈ go_tb) (d : decode cc pc = .ok (.invokespecial index, 3)) (rest : List Value) (hst : st = .ref b :: rest) (isC isR : List Nat) (hC : isC.map (fun i => ws[i]?) = wc.map some) (hRr : isR.map (fun i => ws[i]?) = wr.map some) (hnC : va_nd isC = true) (hn : va_nd isR = true) (hdis : ∀ i ∈ isR, i ∉ isC)
    (hR : fr' + 1 ≤ fr ∧ 8 + (nL' + 11) + lo' ≤ lo ∧ kz.1 + mc ≤ rc ∧ kz.2 + ms ≤ rs ∧ (rest.map fun v => v.category).sum ≤ 8) (kk : ∀ ad : Nat → Nat, go_Go X (kz.1 + mc, kz.2 + ms) (wr ++ w1 ad) lv rest (pc + 3)) : go_Go X kz ws lv st pc := by
  obtain ⟨p, l, e, R, s, m, args, below, meth, c, G', nL0, A, Q⟩ := X
  obtain ⟨hx, hb, hr, hml, hown, hts, hlk, hK, rfl, rfl, rfl, hA⟩ := C
  intro H locs ls hP hD hS hl
  subst hst
  obtain ⟨m1, m2, m4, m5⟩ := M
  have hPc : va_P G'.1 vwCl wc H := hP.sub isC (by
    have : isC.filterMap (fun i => ws[i]?) = (isC.map (fun i => ws[i]?)).filterMap id := by rw [List.filterMap_map]; rfl
    rw [this, hC, List.filterMap_map]; exact List.filterMap_some)
  have hDc : va_D A wc := hD.sub isC hnC hC
  have cb : CallB { frames := fr, cells := rc, slots := rs, locals := lo } s args own index y bytes nL' none (Cond.code y bytes nL' none :: go_tb) { frames := fr', cells := mc, slots := ms, locals := lo' } mc ms 0 := callB_of 0 hts (go_goodW hcode) rfl rfl rfl (hts _ m4) (hts _ m1) m5 ⟨hR.1, hR.2.1⟩
  exact go_afterI (G := G') (va_runI (As := []) (rest := rest) ⟨hx, hb, hml, hown, hts⟩ (hF l H.size) ⟨cb, hy, hts _ m2⟩ ⟨go_blindI, fun U hU hW => ⟨rfl, by rw [hU], by rw [hU]; exact hPc, ⟨go_KK_warm hW hK, va_AO.moved hW.alike hAO⟩, hDc.weaken (fun _ _ _ _ => trivial)⟩⟩ rfl rfl hl.1 rfl (lv_room hR.2.2.2.2) d ⟨hR.2.2.1, hR.2.2.2.1⟩) hP hD hS hA isC isR hC hRr hn hdis (fun ad H1 locs1 hP1 hD1 hS1 => kk ad H1 locs1 ls hP1 hD1 hS1 hl)
theorem go_callIN (C : go_Cx X cc own rt nL fr lo rc rs G) (hAO : go_AO X) (hF : go_Fi y bytes nL' fr' lo' mc ms G b wc w1) {host : String} (M : Cond.methodLinkNest own index y host ∈ lw_tbl ∧ Cond.instanceMethod y ∈ go_tb ∧ Cond.initialized y.cls ∈ go_tb ∧ (y.cls ≠ "java/lang/invoke/MethodHandle" ∧ y.cls ≠ "java/lang/invoke/VarHandle" ∧ (parseMethodDescriptor y.desc).map (fun d => d.parameters.length) = some 0)) (hy : y.name = "<init>") (hcode : Cond.code y bytes nL' none ∈ go_tb) (d : decode cc pc = .ok (.invokespecial index, 3)) (rest : List Value) (hst : st = .ref b :: rest) (isC isR : List Nat) (hC : isC.map (fun i => ws[i]?) = wc.map some) (hRr : isR.map (fun i => ws[i]?) = wr.map some) (hnC : va_nd isC = true) (hn : va_nd isR = true) (hdis : ∀ i ∈ isR, i ∉ isC)
    (hR : fr' + 1 ≤ fr ∧ 8 + (nL' + 11) + lo' ≤ lo ∧ kz.1 + mc ≤ rc ∧ kz.2 + ms ≤ rs ∧ (rest.map fun v => v.category).sum ≤ 8) (kk : ∀ ad : Nat → Nat, go_Go X (kz.1 + mc, kz.2 + ms) (wr ++ w1 ad) lv rest (pc + 3)) : go_Go X kz ws lv st pc := by
  obtain ⟨p, l, e, R, s, m, args, below, meth, c, G', nL0, A, Q⟩ := X
  obtain ⟨hx, hb, hr, hml, hown, hts, hlk, hK, rfl, rfl, rfl, hA⟩ := C
  intro H locs ls hP hD hS hl
  subst hst
  obtain ⟨m1, m2, m4, m5⟩ := M
  have hPc : va_P G'.1 vwCl wc H := hP.sub isC (by
    have : isC.filterMap (fun i => ws[i]?) = (isC.map (fun i => ws[i]?)).filterMap id := by rw [List.filterMap_map]; rfl
    rw [this, hC, List.filterMap_map]; exact List.filterMap_some)
  have hDc : va_D A wc := hD.sub isC hnC hC
  have cb : va_CN { frames := fr, cells := rc, slots := rs, locals := lo } s args own index y host bytes nL' none (Cond.code y bytes nL' none :: go_tb) { frames := fr', cells := mc, slots := ms, locals := lo' } mc ms 0 := va_cnB 0 hts (go_goodW hcode) rfl rfl rfl (hK.2 _ m1 rfl) (hts _ m4) m5 ⟨hR.1, hR.2.1⟩
  exact go_afterI (G := G') (va_runIN (As := []) (rest := rest) ⟨hx, hb, hml, hown, hts⟩ (hF l H.size) ⟨cb, hy, hts _ m2⟩ ⟨go_blindI, fun U hU hW => ⟨rfl, by rw [hU], by rw [hU]; exact hPc, ⟨go_KK_warm hW hK, va_AO.moved hW.alike hAO⟩, hDc.weaken (fun _ _ _ _ => trivial)⟩⟩ rfl rfl hl.1 rfl (lv_room hR.2.2.2.2) d ⟨hR.2.2.1, hR.2.2.2.1⟩) hP hD hS hA isC isR hC hRr hn hdis (fun ad H1 locs1 hP1 hD1 hS1 => kk ad H1 locs1 ls hP1 hD1 hS1 hl)
end GI
