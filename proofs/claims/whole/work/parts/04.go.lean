/-! ===== the layer 'go': one method's walk without heaps in sight ===== -/
def go_tb : List Cond := lw_tbl.filter goodWord
theorem go_tb_good : GoodIn go_tb go_tb := fun w h => ⟨h, good_of_word (List.mem_filter.mp h).2⟩
theorem go_tb_of {w : Cond} (h : w ∈ lw_tbl) (g : goodWord w = true) : w ∈ go_tb := List.mem_filter.mpr ⟨h, g⟩
def go_isN : Cond → Bool
  | .methodLinkNest _ _ _ _ => true
  | _ => false
abbrev go_G : Type := va_G × ClassId × ClassId
def go_KK (G : go_G) (U : State) : Prop := va_K G.1 vwCl [(G.2.1, .int), (G.2.2, .object "ProtoCheck$WordRow")] U ∧ ∀ w ∈ lw_tbl, go_isN w = true → va_Nw w U
theorem go_KK_warm {G : go_G} {s U : State} (hW : s.WarmedH U.vm) (h : go_KK G s) : go_KK G U := by
  refine ⟨va_K.moved hW.alike h.1, fun w hw hn => ?_⟩
  have h1 := h.2 w hw hn
  cases w <;> simp only [go_isN] at hn <;> first | exact va_Nw.warmM hW h1 | cases hn
theorem go_KK_calling {G : go_G} {U : State} {g : JFrame} {mk : MethodId} {a : Array Value} (h : go_KK G U) : go_KK G (U.calling g mk a) := by
  refine ⟨va_K.moved (u := U) (U := U.calling g mk a) (Vm.Alike.refl U.vm) h.1, fun w hw hn => ?_⟩
  have h1 := h.2 w hw hn
  cases w <;> simp only [go_isN] at hn <;> first | exact va_Nw.same (u := U) (U := U.calling g mk a) rfl rfl h1 | cases hn
/-- the end of a method: its answer r, its cells W1 -/
def go_Q (G : go_G) (A : Nat → Prop) (r : Option Value) (W1 : va_W) : Array Value → State → Outcome → State → Prop := fun _ st oc t => oc = .returned r ∧ va_P G.1 vwCl W1 t.heap ∧ va_F A st t
/-- the contract of a method that makes nothing: from cells W0 and arguments As it answers r and leaves the cells W1 -/
def go_Fn (y : MethodName) (cc : ByteArray) (nL : Nat) (rt : Option FieldType) (fr lo : Nat) (G : go_G) (As : List Value) (W0 : va_W) (r : Option Value) (W1 : va_W) : Prop :=
  ∀ (l : Launch) (sz : Nat), Met l y (.code y cc nL rt :: go_tb) { frames := fr, cells := 0, slots := 0, locals := lo } (va_Pc As (fun U => U.heap.size = sz ∧ va_P G.1 vwCl W0 U.heap ∧ go_KK G U ∧ va_D (fun _ => True) W0)) (go_Q G (va_A W0 sz) r W1) 0 0 (va_A W0 sz)
abbrev go_X : Type := Program × Launch × Env × Room × State × MethodId × Array Value × List Frame × Method × Code × go_G × Nat × (Nat → Prop) × (State → Prop)
def go_Go (X : go_X) (k : Nat × Nat) (ws : va_W) (lv : List (Nat × Value)) (st : List Value) (pc : Nat) : Prop :=
  match X with
  | (p, l, e, R, s, m, args, below, meth, c, G, nL, A, Q) => ∀ (H : Heap) (locs : List Loc) (ls : Array Slot), va_P G.1 vwCl ws H → va_D A ws → va_S A s.heap H locs → lv_has ls nL lv → W p l e R s m args below meth c H locs k.1 k.2 Q (F0 m pc ls st)
/-- what stays during a walk -/
def go_Cx (X : go_X) (cc : ByteArray) (own : String) (rt : Option FieldType) (nL fr lo rc rs : Nat) (G : go_G) : Prop :=
  match X with
  | (p, _, _, R, s, m, args, _, meth, c, G', nL', A, _) => p.tables.exec = Jvm.exec ∧ c.code = cc ∧ meth.sig.returnType = rt ∧ c.maxLocals = nL ∧ s.vm.findClass own = some m.cls ∧ (∀ w ∈ go_tb, w.before args s = true) ∧ meth.locks = false ∧ go_KK G s ∧ R = { frames := fr, cells := rc, slots := rs, locals := lo } ∧ G' = G ∧ nL' = nL ∧ ∀ q : Nat, s.heap.size ≤ q → A q
/-- what is to be answered at the walk's end -/
def go_Ex (X : go_X) (r : Option Value) (W1 : va_W) : Prop :=
  match X with
  | (_, _, _, _, s, _, args, below, _, _, G, _, A, Q) => Q = MQ below (go_Q G A r W1) args s 0 0 A
theorem go_Fn_of {y : MethodName} {cc : ByteArray} {nL : Nat} {rt : Option FieldType} {fr lo : Nat} {G : go_G} {As : List Value} {W0 : va_W} {r : Option Value} {W1 : va_W} (hy : plainName y.cls = true) (hn : (lg_sl As).length ≤ nL)
    (h : ∀ X : go_X, go_Cx X cc y.cls rt nL fr lo 0 0 G → go_Ex X r W1 → go_Go X (0, 0) W0 (lv_args 0 As) [] 0) : go_Fn y cc nL rt fr lo G As W0 r W1 := by
  intro l sz
  refine Met.ofW (cc := cc) (maxL := nL) (ret := rt) hy rfl ?_
  intro p e s m args below meth c s₁ B hml hv
  obtain ⟨rfl, hsz, hP, hK, hD0⟩ := hv
  subst hsz
  have hts := atoms_spec (ws := .code y cc nL rt :: go_tb) B.pre
  have hown : s.vm.findClass y.cls = some m.cls := findClass_of_methodNamed B.named
  have hg := h (p, l, e, (headSpec (.code y cc nL rt :: go_tb) { frames := fr, cells := 0, slots := 0, locals := lo }).room, s, m, As.toArray, below, meth, c, G, nL, va_A W0 s.heap.size, MQ below (go_Q G (va_A W0 s.heap.size) r W1) As.toArray s 0 0 (va_A W0 s.heap.size))
    ⟨B.exec, B.bytes, B.returns, hml, hown, fun w hw => hts w (List.mem_cons_of_mem _ hw), B.notSynchronized, hK, rfl, rfl, rfl, fun q hq => Or.inr hq⟩ rfl
  have hl := lv_entry As (n := nL) hn
  rw [lg_entry_eq]
  exact hg s.heap [] _ hP hD0.self va_S.rf hl
section GO
variable {X : go_X} {cc : ByteArray} {own : String} {rt : Option FieldType} {nL fr lo rc rs : Nat} {G : go_G} {kz : Nat × Nat} {ws : va_W} {lv : List (Nat × Value)} {st : List Value} {pc : Nat}
/-- a row of the kit that touches the stack and the pc alone -/
theorem go_st (C : go_Cx X cc own rt nL fr lo rc rs G) {st' : List Value} {pc' : Nat}
    (row : ∀ {p : Program} {l : Launch} {e : Env} {R : Room} {s : State} {m : MethodId} {args : Array Value} {below : List Frame} {meth : Method} {c : Code} {H : Heap} {locs : List Loc} {Q : State → Prop} {ls : Array Slot}, p.tables.exec = Jvm.exec → c.code = cc → lv_has ls nL lv → W p l e R s m args below meth c H locs kz.1 kz.2 Q (F0 m pc' ls st') → W p l e R s m args below meth c H locs kz.1 kz.2 Q (F0 m pc ls st))
    (kk : go_Go X kz ws lv st' pc') : go_Go X kz ws lv st pc := by
  obtain ⟨p, l, e, R, s, m, args, below, meth, c, G', nL', A, Q⟩ := X
  obtain ⟨hx, hb, hr, hml, hown, hts, hlk, hK, rfl, rfl, rfl, hA⟩ := C
  intro H locs ls hP hD hS hl
  exact row hx hb hl (kk H locs ls hP hD hS hl)
/-- a row of the kit with two ends -/
theorem go_br (C : go_Cx X cc own rt nL fr lo rc rs G) {st' : List Value} {pt pf : Nat} {a b : Prop}
    (row : ∀ {p : Program} {l : Launch} {e : Env} {R : Room} {s : State} {m : MethodId} {args : Array Value} {below : List Frame} {meth : Method} {c : Code} {H : Heap} {locs : List Loc} {Q : State → Prop} {ls : Array Slot}, p.tables.exec = Jvm.exec → c.code = cc → (a → W p l e R s m args below meth c H locs kz.1 kz.2 Q (F0 m pt ls st')) → (b → W p l e R s m args below meth c H locs kz.1 kz.2 Q (F0 m pf ls st')) → W p l e R s m args below meth c H locs kz.1 kz.2 Q (F0 m pc ls st))
    (kt : a → go_Go X kz ws lv st' pt) (kf : b → go_Go X kz ws lv st' pf) : go_Go X kz ws lv st pc := by
  obtain ⟨p, l, e, R, s, m, args, below, meth, c, G', nL', A, Q⟩ := X
  obtain ⟨hx, hb, hr, hml, hown, hts, hlk, hK, rfl, rfl, rfl, hA⟩ := C
  intro H locs ls hP hD hS hl
  exact row hx hb (fun h => kt h H locs ls hP hD hS hl) (fun h => kf h H locs ls hP hD hS hl)
theorem go_iconst (C : go_Cx X cc own rt nL fr lo rc rs G) {n : Int} (v : Int32) (d : decode cc pc = .ok (.iconst n, 1)) (hv : Int32.ofInt n = v) (kk : go_Go X kz ws lv (.int v :: st) (pc + 1)) : go_Go X kz ws lv st pc := go_st C (fun hx hb _ k => lv_iconst hx hb d hv k) kk
theorem go_bipush (C : go_Cx X cc own rt nL fr lo rc rs G) {n : Int} (v : Int32) (d : decode cc pc = .ok (.bipush n, 2)) (hv : (Int8.ofInt n).toInt32 = v) (kk : go_Go X kz ws lv (.int v :: st) (pc + 2)) : go_Go X kz ws lv st pc := go_st C (fun hx hb _ k => lv_bipush hx hb d hv k) kk
theorem go_sipush (C : go_Cx X cc own rt nL fr lo rc rs G) {n : Int} (v : Int32) (d : decode cc pc = .ok (.sipush n, 3)) (hv : (Int16.ofInt n).toInt32 = v) (kk : go_Go X kz ws lv (.int v :: st) (pc + 3)) : go_Go X kz ws lv st pc := go_st C (fun hx hb _ k => lv_sipush hx hb d hv k) kk
theorem go_iload_n (C : go_Cx X cc own rt nL fr lo rc rs G) {k : Fin 4} {i : Nat} {x : Int32} (d : decode cc pc = .ok (.iload_n k, 1)) (q : Nat) (hi : (k : Nat) = i) (hq : lv[q]? = some (i, .int x)) (kk : go_Go X kz ws lv (.int x :: st) (pc + 1)) : go_Go X kz ws lv st pc := go_st C (fun hx hb hl k => lv_iload_n hx hb d hi (lv_at hl q hq) k) kk
theorem go_iload (C : go_Cx X cc own rt nL fr lo rc rs G) {i : Nat} {x : Int32} (d : decode cc pc = .ok (.iload i, 2)) (q : Nat) (hq : lv[q]? = some (i, .int x)) (kk : go_Go X kz ws lv (.int x :: st) (pc + 2)) : go_Go X kz ws lv st pc := go_st C (fun hx hb hl k => lv_iload hx hb d (lv_at hl q hq) k) kk
theorem go_aload_n (C : go_Cx X cc own rt nL fr lo rc rs G) {k : Fin 4} {i : Nat} {x : Nat} (d : decode cc pc = .ok (.aload_n k, 1)) (q : Nat) (hi : (k : Nat) = i) (hq : lv[q]? = some (i, .ref x)) (kk : go_Go X kz ws lv (.ref x :: st) (pc + 1)) : go_Go X kz ws lv st pc := go_st C (fun hx hb hl k => lv_aload_n hx hb d hi (lv_at hl q hq) k) kk
theorem go_aload (C : go_Cx X cc own rt nL fr lo rc rs G) {i : Nat} {x : Nat} (d : decode cc pc = .ok (.aload i, 2)) (q : Nat) (hq : lv[q]? = some (i, .ref x)) (kk : go_Go X kz ws lv (.ref x :: st) (pc + 2)) : go_Go X kz ws lv st pc := go_st C (fun hx hb hl k => lv_aload hx hb d (lv_at hl q hq) k) kk
theorem go_dup (C : go_Cx X cc own rt nL fr lo rc rs G) {v : Value} (d : decode cc pc = .ok (.dup, 1)) (h : v.category = 1) (kk : go_Go X kz ws lv (v :: v :: st) (pc + 1)) : go_Go X kz ws lv (v :: st) pc := go_st C (fun hx hb _ k => lv_dup hx hb d h k) kk
theorem go_pop (C : go_Cx X cc own rt nL fr lo rc rs G) {v : Value} (d : decode cc pc = .ok (.pop, 1)) (h : v.category = 1) (kk : go_Go X kz ws lv st (pc + 1)) : go_Go X kz ws lv (v :: st) pc := go_st C (fun hx hb _ k => lv_pop hx hb d h k) kk
theorem go_iadd (C : go_Cx X cc own rt nL fr lo rc rs G) {x y z : Int32} (d : decode cc pc = .ok (.iadd, 1)) (h : x + y = z) (kk : go_Go X kz ws lv (.int z :: st) (pc + 1)) : go_Go X kz ws lv (.int y :: .int x :: st) pc := by subst h; exact go_st C (fun hx hb _ k => lv_iadd hx hb d k) kk
theorem go_isub (C : go_Cx X cc own rt nL fr lo rc rs G) {x y z : Int32} (d : decode cc pc = .ok (.isub, 1)) (h : x - y = z) (kk : go_Go X kz ws lv (.int z :: st) (pc + 1)) : go_Go X kz ws lv (.int y :: .int x :: st) pc := by subst h; exact go_st C (fun hx hb _ k => lv_isub hx hb d k) kk
theorem go_imul (C : go_Cx X cc own rt nL fr lo rc rs G) {x y z : Int32} (d : decode cc pc = .ok (.imul, 1)) (h : x * y = z) (kk : go_Go X kz ws lv (.int z :: st) (pc + 1)) : go_Go X kz ws lv (.int y :: .int x :: st) pc := by subst h; exact go_st C (fun hx hb _ k => lv_imul hx hb d k) kk
theorem go_iand (C : go_Cx X cc own rt nL fr lo rc rs G) {x y z : Int32} (d : decode cc pc = .ok (.iand, 1)) (h : x &&& y = z) (kk : go_Go X kz ws lv (.int z :: st) (pc + 1)) : go_Go X kz ws lv (.int y :: .int x :: st) pc := by subst h; exact go_st C (fun hx hb _ k => lv_iand hx hb d k) kk
theorem go_ior (C : go_Cx X cc own rt nL fr lo rc rs G) {x y z : Int32} (d : decode cc pc = .ok (.ior, 1)) (h : x ||| y = z) (kk : go_Go X kz ws lv (.int z :: st) (pc + 1)) : go_Go X kz ws lv (.int y :: .int x :: st) pc := by subst h; exact go_st C (fun hx hb _ k => lv_ior hx hb d k) kk
theorem go_ixor (C : go_Cx X cc own rt nL fr lo rc rs G) {x y z : Int32} (d : decode cc pc = .ok (.ixor, 1)) (h : x ^^^ y = z) (kk : go_Go X kz ws lv (.int z :: st) (pc + 1)) : go_Go X kz ws lv (.int y :: .int x :: st) pc := by subst h; exact go_st C (fun hx hb _ k => lv_ixor hx hb d k) kk
theorem go_ishl (C : go_Cx X cc own rt nL fr lo rc rs G) {x y z : Int32} (d : decode cc pc = .ok (.ishl, 1)) (h : x <<< (y &&& 31) = z) (kk : go_Go X kz ws lv (.int z :: st) (pc + 1)) : go_Go X kz ws lv (.int y :: .int x :: st) pc := by subst h; exact go_st C (fun hx hb _ k => lv_ishl hx hb d k) kk
theorem go_ishr (C : go_Cx X cc own rt nL fr lo rc rs G) {x y z : Int32} (d : decode cc pc = .ok (.ishr, 1)) (h : x >>> (y &&& 31) = z) (kk : go_Go X kz ws lv (.int z :: st) (pc + 1)) : go_Go X kz ws lv (.int y :: .int x :: st) pc := by subst h; exact go_st C (fun hx hb _ k => lv_ishr hx hb d k) kk
theorem go_iushr (C : go_Cx X cc own rt nL fr lo rc rs G) {x y z : Int32} (d : decode cc pc = .ok (.iushr, 1)) (h : (x.toUInt32 >>> (y.toUInt32 &&& Int32.toUInt32 31)).toInt32 = z) (kk : go_Go X kz ws lv (.int z :: st) (pc + 1)) : go_Go X kz ws lv (.int y :: .int x :: st) pc := go_st C (fun hx hb _ k => lv_iushr hx hb d h k) kk
theorem go_goto (C : go_Cx X cc own rt nL fr lo rc rs G) {off : Int} (tgt : Nat) (d : decode cc pc = .ok (.goto off, 3)) (ht : (pc : Int) + off = (tgt : Int)) (kk : go_Go X kz ws lv st tgt) : go_Go X kz ws lv st pc := go_st C (fun hx hb _ k => lv_goto hx hb d ht k) kk
theorem go_icmp_ge (C : go_Cx X cc own rt nL fr lo rc rs G) {x y : Int32} {off : Int} (tgt : Nat) (d : decode cc pc = .ok (.if_icmp .ge off, 3)) (ht : (pc : Int) + off = (tgt : Int)) (kt : y ≤ x → go_Go X kz ws lv st tgt) (kf : ¬ y ≤ x → go_Go X kz ws lv st (pc + 3)) : go_Go X kz ws lv (.int y :: .int x :: st) pc := go_br C (fun hx hb a b => lv_icmp_ge hx hb d ht a b) kt kf
theorem go_icmp_lt (C : go_Cx X cc own rt nL fr lo rc rs G) {x y : Int32} {off : Int} (tgt : Nat) (d : decode cc pc = .ok (.if_icmp .lt off, 3)) (ht : (pc : Int) + off = (tgt : Int)) (kt : x < y → go_Go X kz ws lv st tgt) (kf : ¬ x < y → go_Go X kz ws lv st (pc + 3)) : go_Go X kz ws lv (.int y :: .int x :: st) pc := go_br C (fun hx hb a b => lv_icmp_lt hx hb d ht a b) kt kf
theorem go_icmp_gt (C : go_Cx X cc own rt nL fr lo rc rs G) {x y : Int32} {off : Int} (tgt : Nat) (d : decode cc pc = .ok (.if_icmp .gt off, 3)) (ht : (pc : Int) + off = (tgt : Int)) (kt : y < x → go_Go X kz ws lv st tgt) (kf : ¬ y < x → go_Go X kz ws lv st (pc + 3)) : go_Go X kz ws lv (.int y :: .int x :: st) pc := go_br C (fun hx hb a b => lv_icmp_gt hx hb d ht a b) kt kf
theorem go_icmp_le (C : go_Cx X cc own rt nL fr lo rc rs G) {x y : Int32} {off : Int} (tgt : Nat) (d : decode cc pc = .ok (.if_icmp .le off, 3)) (ht : (pc : Int) + off = (tgt : Int)) (kt : x ≤ y → go_Go X kz ws lv st tgt) (kf : ¬ x ≤ y → go_Go X kz ws lv st (pc + 3)) : go_Go X kz ws lv (.int y :: .int x :: st) pc := go_br C (fun hx hb a b => lv_icmp_le hx hb d ht a b) kt kf
theorem go_icmp_eq (C : go_Cx X cc own rt nL fr lo rc rs G) {x y : Int32} {off : Int} (tgt : Nat) (d : decode cc pc = .ok (.if_icmp .eq off, 3)) (ht : (pc : Int) + off = (tgt : Int)) (kt : x = y → go_Go X kz ws lv st tgt) (kf : ¬ x = y → go_Go X kz ws lv st (pc + 3)) : go_Go X kz ws lv (.int y :: .int x :: st) pc := go_br C (fun hx hb a b => lv_icmp_eq hx hb d ht a b) kt kf
theorem go_icmp_ne (C : go_Cx X cc own rt nL fr lo rc rs G) {x y : Int32} {off : Int} (tgt : Nat) (d : decode cc pc = .ok (.if_icmp .ne off, 3)) (ht : (pc : Int) + off = (tgt : Int)) (kt : ¬ x = y → go_Go X kz ws lv st tgt) (kf : x = y → go_Go X kz ws lv st (pc + 3)) : go_Go X kz ws lv (.int y :: .int x :: st) pc := go_br C (fun hx hb a b => lv_icmp_ne hx hb d ht a b) kt kf
theorem go_if_eq (C : go_Cx X cc own rt nL fr lo rc rs G) {x : Int32} {off : Int} (tgt : Nat) (d : decode cc pc = .ok (.ifCond .eq off, 3)) (ht : (pc : Int) + off = (tgt : Int)) (kt : x = 0 → go_Go X kz ws lv st tgt) (kf : ¬ x = 0 → go_Go X kz ws lv st (pc + 3)) : go_Go X kz ws lv (.int x :: st) pc := go_br C (fun hx hb a b => lv_if_eq hx hb d ht a b) kt kf
theorem go_if_ne (C : go_Cx X cc own rt nL fr lo rc rs G) {x : Int32} {off : Int} (tgt : Nat) (d : decode cc pc = .ok (.ifCond .ne off, 3)) (ht : (pc : Int) + off = (tgt : Int)) (kt : ¬ x = 0 → go_Go X kz ws lv st tgt) (kf : x = 0 → go_Go X kz ws lv st (pc + 3)) : go_Go X kz ws lv (.int x :: st) pc := go_br C (fun hx hb a b => lv_if_ne hx hb d ht a b) kt kf
theorem go_if_lt (C : go_Cx X cc own rt nL fr lo rc rs G) {x : Int32} {off : Int} (tgt : Nat) (d : decode cc pc = .ok (.ifCond .lt off, 3)) (ht : (pc : Int) + off = (tgt : Int)) (kt : x < 0 → go_Go X kz ws lv st tgt) (kf : ¬ x < 0 → go_Go X kz ws lv st (pc + 3)) : go_Go X kz ws lv (.int x :: st) pc := go_br C (fun hx hb a b => lv_if_lt hx hb d ht a b) kt kf
theorem go_if_ge (C : go_Cx X cc own rt nL fr lo rc rs G) {x : Int32} {off : Int} (tgt : Nat) (d : decode cc pc = .ok (.ifCond .ge off, 3)) (ht : (pc : Int) + off = (tgt : Int)) (kt : 0 ≤ x → go_Go X kz ws lv st tgt) (kf : ¬ 0 ≤ x → go_Go X kz ws lv st (pc + 3)) : go_Go X kz ws lv (.int x :: st) pc := go_br C (fun hx hb a b => lv_if_ge hx hb d ht a b) kt kf
theorem go_table (C : go_Cx X cc own rt nL fr lo rc rs G) {dflt lw hi : Int} {offs : Array Int} {len : Nat} {x : Int32} {off : Int} (tgt : Nat) (d : decode cc pc = .ok (.tableswitch dflt lw hi offs, len)) (h1 : ¬ x.toInt < lw) (h2 : ¬ hi < x.toInt) (ho : offs[(x.toInt - lw).toNat]? = some off) (ht : (pc : Int) + off = (tgt : Int)) (kk : go_Go X kz ws lv st tgt) : go_Go X kz ws lv (.int x :: st) pc := go_st C (fun hx hb _ k => lv_tableIn hx hb d h1 h2 ho ht k) kk
theorem go_tableD (C : go_Cx X cc own rt nL fr lo rc rs G) {dflt lw hi : Int} {offs : Array Int} {len : Nat} {x : Int32} (tgt : Nat) (d : decode cc pc = .ok (.tableswitch dflt lw hi offs, len)) (h : x.toInt < lw ∨ hi < x.toInt) (ht : (pc : Int) + dflt = (tgt : Int)) (kk : go_Go X kz ws lv st tgt) : go_Go X kz ws lv (.int x :: st) pc := go_st C (fun hx hb _ k => lv_tableOut hx hb d h ht k) kk
theorem go_istore_n (C : go_Cx X cc own rt nL fr lo rc rs G) {k : Fin 4} {i : Nat} {x : Int32} (lv' : List (Nat × Value)) (d : decode cc pc = .ok (.istore_n k, 1)) (ks : List Nat) (hi : (k : Nat) = i) (hn : i < nL) (hl : lv_pick ((i, Value.int x) :: lv.filter (fun q => !(q.1 == i) && !(q.1 + 1 == i && q.2.category == 2))) ks = lv') (kk : go_Go X kz ws lv' st (pc + 1)) : go_Go X kz ws lv (.int x :: st) pc := by
  obtain ⟨p, l, e, R, s, m, args, below, meth, c, G', nL', A, Q⟩ := X
  obtain ⟨hx, hb, hr, hml, hown, hts, hlk, hK, rfl, rfl, rfl, hA⟩ := C
  intro H locs ls hP hD hS hl'
  exact lv_istore_n hx hb d hi hl' hn rfl (fun ls2 hl2 => kk H locs ls2 hP hD hS (lv_sub hl2 ks hl))
theorem go_istore (C : go_Cx X cc own rt nL fr lo rc rs G) {i : Nat} {x : Int32} (lv' : List (Nat × Value)) (d : decode cc pc = .ok (.istore i, 2)) (ks : List Nat) (hn : i < nL) (hl : lv_pick ((i, Value.int x) :: lv.filter (fun q => !(q.1 == i) && !(q.1 + 1 == i && q.2.category == 2))) ks = lv') (kk : go_Go X kz ws lv' st (pc + 2)) : go_Go X kz ws lv (.int x :: st) pc := by
  obtain ⟨p, l, e, R, s, m, args, below, meth, c, G', nL', A, Q⟩ := X
  obtain ⟨hx, hb, hr, hml, hown, hts, hlk, hK, rfl, rfl, rfl, hA⟩ := C
  intro H locs ls hP hD hS hl'
  exact lv_istore hx hb d hl' hn rfl (fun ls2 hl2 => kk H locs ls2 hP hD hS (lv_sub hl2 ks hl))
theorem go_astore_n (C : go_Cx X cc own rt nL fr lo rc rs G) {k : Fin 4} {i : Nat} {x : Nat} (lv' : List (Nat × Value)) (d : decode cc pc = .ok (.astore_n k, 1)) (ks : List Nat) (hi : (k : Nat) = i) (hn : i < nL) (hl : lv_pick ((i, Value.ref x) :: lv.filter (fun q => !(q.1 == i) && !(q.1 + 1 == i && q.2.category == 2))) ks = lv') (kk : go_Go X kz ws lv' st (pc + 1)) : go_Go X kz ws lv (.ref x :: st) pc := by
  obtain ⟨p, l, e, R, s, m, args, below, meth, c, G', nL', A, Q⟩ := X
  obtain ⟨hx, hb, hr, hml, hown, hts, hlk, hK, rfl, rfl, rfl, hA⟩ := C
  intro H locs ls hP hD hS hl'
  exact lv_astore_n hx hb d hi hl' hn rfl (fun ls2 hl2 => kk H locs ls2 hP hD hS (lv_sub hl2 ks hl))
theorem go_astore (C : go_Cx X cc own rt nL fr lo rc rs G) {i : Nat} {x : Nat} (lv' : List (Nat × Value)) (d : decode cc pc = .ok (.astore i, 2)) (ks : List Nat) (hn : i < nL) (hl : lv_pick ((i, Value.ref x) :: lv.filter (fun q => !(q.1 == i) && !(q.1 + 1 == i && q.2.category == 2))) ks = lv') (kk : go_Go X kz ws lv' st (pc + 2)) : go_Go X kz ws lv (.ref x :: st) pc := by
  obtain ⟨p, l, e, R, s, m, args, below, meth, c, G', nL', A, Q⟩ := X
  obtain ⟨hx, hb, hr, hml, hown, hts, hlk, hK, rfl, rfl, rfl, hA⟩ := C
  intro H locs ls hP hD hS hl'
  exact lv_astore hx hb d hl' hn rfl (fun ls2 hl2 => kk H locs ls2 hP hD hS (lv_sub hl2 ks hl))
theorem go_iinc (C : go_Cx X cc own rt nL fr lo rc rs G) {i : Nat} {n : Int} {x : Int32} (v : Int32) (lv' : List (Nat × Value)) (d : decode cc pc = .ok (.iinc i n, 3)) (q : Nat) (ks : List Nat) (hq : lv[q]? = some (i, .int x)) (hv : x + Int32.ofInt n = v) (hn : i < nL) (hl : lv_pick ((i, Value.int v) :: lv.filter (fun q => !(q.1 == i) && !(q.1 + 1 == i && q.2.category == 2))) ks = lv') (kk : go_Go X kz ws lv' st (pc + 3)) : go_Go X kz ws lv st pc := by
  obtain ⟨p, l, e, R, s, m, args, below, meth, c, G', nL', A, Q⟩ := X
  obtain ⟨hx, hb, hr, hml, hown, hts, hlk, hK, rfl, rfl, rfl, hA⟩ := C
  intro H locs ls hP hD hS hl'
  exact lv_iinc hx hb d hl' hq hv hn rfl (fun ls2 hl2 => kk H locs ls2 hP hD hS (lv_sub hl2 ks hl))
/-- fewer locals, in another order -/
theorem go_lv (lv' : List (Nat × Value)) (ks : List Nat) (hl : lv_pick lv ks = lv') (kk : go_Go X kz ws lv' st pc) : go_Go X kz ws lv st pc := by
  obtain ⟨p, l, e, R, s, m, args, below, meth, c, G', nL', A, Q⟩ := X
  intro H locs ls hP hD hS hl'
  exact kk H locs ls hP hD hS (lv_sub hl' ks hl)
/-- a field's link, of class number ci, its k-th field -/
def go_FL (own : String) (index ci k : Nat) : Prop := ∃ (Cn : String) (T : u_T) (N : Nat), vwCl[ci]? = some (Cn, T, N) ∧ (∀ w ∈ u_ws Cn T N, w ∈ go_tb) ∧ k < N ∧ Cond.fieldLink own index (T k).1 (T k).2.1 (T k).2.2.1 ∈ go_tb
def go_FP (own : String) (index ci k : Nat) (ty : FieldType) : Prop := ∃ (Cn : String) (T : u_T) (N : Nat) (ty0 : Nat → FieldType), vwCl[ci]? = some (Cn, T, N) ∧ (∀ w ∈ u_ws Cn T N, w ∈ go_tb) ∧ k < N ∧ Cond.fieldLink own index (T k).1 (T k).2.1 (T k).2.2.1 ∈ go_tb ∧ (∀ k, k < N → parseFieldDescriptor (T k).2.2.1 = some (ty0 k)) ∧ (∀ a, a < N → ∀ b, b < N → a ≠ b → (T a).2.1 ≠ (T b).2.1) ∧ (T k).2.2.2 = false ∧ parseFieldDescriptor (T k).2.2.1 = some ty
theorem go_get (C : go_Cx X cc own rt nL fr lo rc rs G) {index ci k a : Nat} {fs : List Value} {v : Value} (F : go_FL own index ci k) (d : decode cc pc = .ok (.getfield index, 3)) (q0 : Nat) (he : ws[q0]? = some (a, .inr (ci, fs))) (hv : fs[k]? = some v) (kk : go_Go X kz ws lv (v :: st) (pc + 3)) : go_Go X kz ws lv (.ref a :: st) pc := by
  obtain ⟨p, l, e, R, s, m, args, below, meth, c, G', nL', A, Q⟩ := X
  obtain ⟨hx, hb, hr, hml, hown, hts, hlk, hK, rfl, rfl, rfl, hA⟩ := C
  obtain ⟨Cn, T, N, h1, h2, h3, h4⟩ := F
  intro H locs ls hP hD hS hl
  exact va_get (D := G'.1) (ci := ci) (v := v) hx hb hts h2 hown hK.1 hP q0 he h1 k h3 (hts _ h4) (fun _ h9 => h9) hv d (kk H locs ls hP hD hS hl)
theorem go_put (C : go_Cx X cc own rt nL fr lo rc rs G) {index ci k a : Nat} {fs : List Value} {v : Value} {ty : FieldType} (F : go_FP own index ci k ty) (d : decode cc pc = .ok (.putfield index, 3)) (q0 : Nat) (he : ws[q0]? = some (a, .inr (ci, fs))) (hn : narrow ty v = v) (hfit : fits ty v = true) (hl : k < fs.length) (ws' : va_W) (hw : ws.set q0 (a, .inr (ci, fs.set k v)) = ws') (kk : go_Go X kz ws' lv st (pc + 3)) : go_Go X kz ws lv (v :: .ref a :: st) pc := by
  obtain ⟨p, l, e, R, s, m, args, below, meth, c, G', nL', A, Q⟩ := X
  obtain ⟨hx, hb, hr, hml, hown, hts, hlk, hK, rfl, rfl, rfl, hA⟩ := C
  obtain ⟨Cn, T, N, ty0, h1, h2, h3, h4, h5, h6, h7, h8⟩ := F
  intro H locs ls hP hD hS hl9
  subst hw
  exact va_put (D := G'.1) (ci := ci) (v := v) (ty := ty) hx hb hts h2 ty0 h5 h6 hown hK.1 hP hD hS q0 he h1 k h3 (hts _ h4) (fun _ h9 => h9) h7 h8 hn hfit hl d (fun H2 locs2 hP2 hD2 hS2 => kk H2 locs2 ls hP2 hD2 hS2 hl9)
theorem go_iald (C : go_Cx X cc own rt nL fr lo rc rs G) {a n : Nat} {f : Nat → Int32} {i : Int32} (d : decode cc pc = .ok (.iaload, 1)) (q0 : Nat) (he : ws[q0]? = some (a, .inl (G.2.1, n, .inl f))) (j : Nat) (hi : i = nI j) (hj : j < n) (hn : n < 2 ^ 31) (kk : go_Go X kz ws lv (.int (f j) :: st) (pc + 1)) : go_Go X kz ws lv (.int i :: .ref a :: st) pc := by
  obtain ⟨p, l, e, R, s, m, args, below, meth, c, G', nL', A, Q⟩ := X
  obtain ⟨hx, hb, hr, hml, hown, hts, hlk, hK, rfl, rfl, rfl, hA⟩ := C
  intro H locs ls hP hD hS hl
  subst hi
  have hc : (nI j).toNatClampNeg = j := nI_clamp (by omega)
  refine va_iald hx hb hK.1 hP q0 0 he rfl (vp_in_nI hj hn) d ?_
  rw [hc]
  exact kk H locs ls hP hD hS hl
theorem go_iast (C : go_Cx X cc own rt nL fr lo rc rs G) {a n : Nat} {f : Nat → Int32} {i x : Int32} (d : decode cc pc = .ok (.iastore, 1)) (q0 : Nat) (he : ws[q0]? = some (a, .inl (G.2.1, n, .inl f))) (j : Nat) (hi : i = nI j) (hj : j < n) (hn : n < 2 ^ 31) (ws' : va_W) (hw : ws.set q0 (a, .inl (G.2.1, n, .inl (upd f j x))) = ws') (kk : go_Go X kz ws' lv st (pc + 1)) : go_Go X kz ws lv (.int x :: .int i :: .ref a :: st) pc := by
  obtain ⟨p, l, e, R, s, m, args, below, meth, c, G', nL', A, Q⟩ := X
  obtain ⟨hx, hb, hr, hml, hown, hts, hlk, hK, rfl, rfl, rfl, hA⟩ := C
  intro H locs ls hP hD hS hl
  subst hi
  subst hw
  have hc : (nI j).toNatClampNeg = j := nI_clamp (by omega)
  refine va_iast hx hb hK.1 hP hD hS q0 0 he rfl (vp_in_nI hj hn) d (fun H2 locs2 hP2 hD2 hS2 => ?_)
  rw [hc] at hP2 hD2
  exact kk H2 locs2 ls hP2 hD2 hS2 hl
theorem go_alen (C : go_Cx X cc own rt nL fr lo rc rs G) {a n : Nat} {f : Nat → Int32} (d : decode cc pc = .ok (.arraylength, 1)) (q0 : Nat) (he : ws[q0]? = some (a, .inl (G.2.1, n, .inl f))) (kk : go_Go X kz ws lv (.int (nI n) :: st) (pc + 1)) : go_Go X kz ws lv (.ref a :: st) pc := by
  obtain ⟨p, l, e, R, s, m, args, below, meth, c, G', nL', A, Q⟩ := X
  obtain ⟨hx, hb, hr, hml, hown, hts, hlk, hK, rfl, rfl, rfl, hA⟩ := C
  intro H locs ls hP hD hS hl
  exact va_alen hx hb hK.1 hP q0 0 he rfl rfl d (kk H locs ls hP hD hS hl)
theorem go_aald (C : go_Cx X cc own rt nL fr lo rc rs G) {a n b : Nat} {f : Nat → Option Nat} {i : Int32} (d : decode cc pc = .ok (.aaload, 1)) (q0 : Nat) (he : ws[q0]? = some (a, .inl (G.2.2, n, .inr (.inr (.inr (.inr f)))))) (j : Nat) (hi : i = nI j) (hj : j < n) (hn : n < 2 ^ 31) (hf : f j = some b) (kk : go_Go X kz ws lv (.ref b :: st) (pc + 1)) : go_Go X kz ws lv (.int i :: .ref a :: st) pc := by
  obtain ⟨p, l, e, R, s, m, args, below, meth, c, G', nL', A, Q⟩ := X
  obtain ⟨hx, hb, hr, hml, hown, hts, hlk, hK, rfl, rfl, rfl, hA⟩ := C
  intro H locs ls hP hD hS hl
  subst hi
  have hc : (nI j).toNatClampNeg = j := nI_clamp (by omega)
  refine va_aldq hx hb hK.1 hP q0 1 he rfl (vp_in_nI hj hn) d ?_
  rw [hc, hf]
  exact kk H locs ls hP hD hS hl
/-- the ends -/
theorem go_iret (C : go_Cx X cc own (some .int) nL fr lo rc rs G) {r : Option Value} {W1 : va_W} (E : go_Ex X r W1) {v : Int32} (d : decode cc pc = .ok (.ireturn, 1)) (hr : some (.int v) = r) (hw : ws = W1) : go_Go X (0, 0) ws lv [.int v] pc := by
  obtain ⟨p, l, e, R, s, m, args, below, meth, c, G', nL', A, Q⟩ := X
  obtain ⟨hx, hb, hrt, hml, hown, hts, hlk, hK, rfl, rfl, rfl, hA⟩ := C
  intro H locs ls hP hD hS hl
  have E : Q = _ := E
  subst E; subst hr; subst hw
  exact W.iret hx hb hrt (fun t ht hW => ⟨rfl, by rw [ht]; exact hP, hS.F ht⟩) hS.2.2 d hlk
theorem go_zret (C : go_Cx X cc own (some .boolean) nL fr lo rc rs G) {r : Option Value} {W1 : va_W} (E : go_Ex X r W1) {v : Int32} (d : decode cc pc = .ok (.ireturn, 1)) (hn : narrow .boolean (.int v) = .int v) (hr : some (.int v) = r) (hw : ws = W1) : go_Go X (0, 0) ws lv [.int v] pc := by
  obtain ⟨p, l, e, R, s, m, args, below, meth, c, G', nL', A, Q⟩ := X
  obtain ⟨hx, hb, hrt, hml, hown, hts, hlk, hK, rfl, rfl, rfl, hA⟩ := C
  intro H locs ls hP hD hS hl
  have E : Q = _ := E
  subst E; subst hr; subst hw
  exact W.zret hx hb hrt hn (fun t ht hW => ⟨rfl, by rw [ht]; exact hP, hS.F ht⟩) hS.2.2 d hlk
theorem go_vret (C : go_Cx X cc own none nL fr lo rc rs G) {r : Option Value} {W1 : va_W} (E : go_Ex X r W1) (d : decode cc pc = .ok (.return_, 1)) (hr : none = r) (hw : ws = W1) : go_Go X (0, 0) ws lv [] pc := by
  obtain ⟨p, l, e, R, s, m, args, below, meth, c, G', nL', A, Q⟩ := X
  obtain ⟨hx, hb, hrt, hml, hown, hts, hlk, hK, rfl, rfl, rfl, hA⟩ := C
  intro H locs ls hP hD hS hl
  have E : Q = _ := E
  subst E; subst hr; subst hw
  exact W.vret hx hb hrt (fun t ht hW => ⟨rfl, by rw [ht]; exact hP, hS.F ht⟩) hS.2.2 d hlk
theorem go_aret {n : String} (C : go_Cx X cc own (some (.object n)) nL fr lo rc rs G) {r : Option Value} {W1 : va_W} (E : go_Ex X r W1) {v : Nat} (d : decode cc pc = .ok (.areturn, 1)) (hr : some (.ref v) = r) (hw : ws = W1) : go_Go X (0, 0) ws lv [.ref v] pc := by
  obtain ⟨p, l, e, R, s, m, args, below, meth, c, G', nL', A, Q⟩ := X
  obtain ⟨hx, hb, hrt, hml, hown, hts, hlk, hK, rfl, rfl, rfl, hA⟩ := C
  intro H locs ls hP hD hS hl
  have E : Q = _ := E
  subst E; subst hr; subst hw
  exact W.aret hx hb hrt (Or.inl ⟨n, rfl⟩) (Or.inr ⟨v, rfl⟩) (fun t ht hW => ⟨rfl, by rw [ht]; exact hP, hS.F ht⟩) hS.2.2 d hlk
end GO
