def R_law : String := "ProtoCheckLaw"
def lw_P (b : Addr) (xs : List Int32) (args : Array Value) (s : State) : Prop := args = #[.ref b] ∧ s.IntsAt b xs ∧ xs.length ≤ 1536 ∧ (Jvm.Cond.and given_1 narrow_1).before args s = true
def lw_Q (_ : Array Value) (s : State) (o : Outcome) (t : State) : Prop := o = .returned (some (.int 1)) ∧ Framed s o t [] 600000 7302250
def lw_Z (below : List Frame) (a : Array Value) (s : State) : State → Prop := fun t => ∃ o, t.status = .running ∧ Ended t below o ∧ lw_Q a s o t
/-- the law's own end, with 1 on the stack, nothing written that was there before, its room as the claim has it -/
theorem lw_ret {p : Program} {l : Launch} {e : Env} {s : State} {m : MethodId} {below : List Frame} {meth : Method} {c : Code} {b : Nat} (hx : p.tables.exec = Jvm.exec) (hb : c.code = code) (hr : meth.sig.returnType = ret) (hlocks : meth.locks = false) {pc : Nat} {H : Heap} {ls : Array Slot} (hdg : decode code pc = .ok (.ireturn, 1)) : W p l e room_1 s m #[Value.ref b] below meth c H [] 600000 7302250 (lw_Z below #[Value.ref b] s) (F0 m pc ls [.int 1]) := by
  intro T hT X
  obtain ⟨fs, hret, hrun, hended, hW, hframe⟩ := X.leave (v := some (.int 1)) (hlocks := hlocks) (fun h => by rw [hr] at h; cases h)
  have hmeth' : T.vm.method? m = some meth := X.method'
  refine ⟨T.setFrames fs, ?_, .returned (some (.int 1)), hrun, hended, rfl, ⟨_, rfl⟩, hW, hframe⟩
  jvm_step X.here [X.here.top, hx, hb, hdg, hmeth', hr, ret, narrow_b1]
  (try refine ⟨rfl, ?_⟩); (try refine ⟨rfl, ?_⟩)
  first | (intro acts; rw [hret _ acts rfl rfl rfl]) | rw [hret _ _ rfl rfl rfl]
  exact Steps.refl _
/-- what holds at the law's entry: the machine, the code, the tables' words (any of lw_tbl by 'hts w (by decide +kernel)'), the script of L ints xs at the cell b, what the Statement gives of the start (any of its parts by flat_of_before) -/
def lw_At (p : Program) (s : State) (m : MethodId) (meth : Method) (c : Code) (b L : Nat) (xs : Nat → Int32) : Prop :=
  p.tables.exec = Jvm.exec ∧ c.code = code ∧ meth.sig.returnType = ret ∧ c.maxLocals = 4 ∧ s.vm.findClass R_law = some m.cls ∧ (∀ w ∈ lw_tbl, w.before #[Value.ref b] s = true) ∧ va_X b L xs s s.heap ∧ b < s.heap.size ∧ meth.locks = false ∧ (Jvm.Cond.and given_1 narrow_1).before #[Value.ref b] s = true
/-! ===== the law's own rows ===== -/
def lw_X (X : go_X) (b L : Nat) (xs : Nat → Int32) : Prop := match X with | (_, _, _, _, s, _, args, below, _, _, _, _, A, Q) => va_X b L xs s s.heap ∧ b < s.heap.size ∧ A = (fun q : Nat => s.heap.size ≤ q) ∧ args = #[Value.ref b] ∧ Q = lw_Z below #[Value.ref b] s
section LR
variable {X : go_X} {cc : ByteArray} {own : String} {rt : Option FieldType} {nL fr lo rc rs : Nat} {G : go_G} {kz : Nat × Nat} {ws : va_W} {lv : List (Nat × Value)} {st : List Value} {pc b L : Nat} {xs : Nat → Int32}
theorem go_sld (C : go_Cx X cc own rt nL fr lo rc rs G) (S : lw_X X b L xs) {i : Int32} (d : decode cc pc = .ok (.iaload, 1)) (j : Nat) (hi : i = nI j) (hj : j < L) (hL : L < 2 ^ 31) (kk : go_Go X kz ws lv (.int (xs j) :: st) (pc + 1)) : go_Go X kz ws lv (.int i :: .ref b :: st) pc := by
  obtain ⟨p, l, e, R, s, m, args, below, meth, c, G', nL', A, Q⟩ := X
  obtain ⟨hx, hb, hr, hml, hown, hts, hlk, hK, rfl, rfl, rfl, hA⟩ := C
  obtain ⟨hX, hbl, rfl, rfl, rfl⟩ := S
  intro H locs ls hP hD hS hl
  subst hi
  refine va_sld hx hb hX hbl (Nat.not_le.mpr hbl) hS (vp_in_nI hj hL) d ?_
  rw [nI_clamp (by omega)]
  exact kk H locs ls hP hD hS hl
theorem go_slen (C : go_Cx X cc own rt nL fr lo rc rs G) (S : lw_X X b L xs) (d : decode cc pc = .ok (.arraylength, 1)) (kk : go_Go X kz ws lv (.int (nI L) :: st) (pc + 1)) : go_Go X kz ws lv (.ref b :: st) pc := by
  obtain ⟨p, l, e, R, s, m, args, below, meth, c, G', nL', A, Q⟩ := X
  obtain ⟨hx, hb, hr, hml, hown, hts, hlk, hK, rfl, rfl, rfl, hA⟩ := C
  obtain ⟨hX, hbl, rfl, rfl, rfl⟩ := S
  intro H locs ls hP hD hS hl
  exact va_slen hx hb hX hbl (Nat.not_le.mpr hbl) hS d (kk H locs ls hP hD hS hl)
theorem go_lret (C : go_Cx X code own ret nL 9 332 600000 7302250 G) (S : lw_X X b L xs) (d : decode code pc = .ok (.ireturn, 1)) (hk : kz.1 ≤ 600000 ∧ kz.2 ≤ 7302250) : go_Go X kz ws lv [.int 1] pc := by
  obtain ⟨p, l, e, R, s, m, args, below, meth, c, G', nL', A, Q⟩ := X
  obtain ⟨hx, hb, hr, hml, hown, hts, hlk, hK, rfl, rfl, rfl, hA⟩ := C
  obtain ⟨hX, hbl, rfl, rfl, rfl⟩ := S
  intro H locs ls hP hD hS hl
  refine va_forget (fun q hq => hS.2.2 q hq) ?_
  refine W.widen (k := 600000) (n := 7302250) hk.1 hk.2 ?_
  exact lw_ret hx hb hr hlk d
end LR
theorem lw_and15 (x : Int32) : ∃ j : Nat, j < 16 ∧ x &&& 15 = nI j := by
  refine ⟨(x.toBitVec.toNat) % 16, Nat.mod_lt _ (by decide), ?_⟩
  apply Int32.toBitVec_inj.mp
  apply BitVec.eq_of_toNat_eq
  have h15 : (15 : Int32).toBitVec = 15#32 := rfl
  rw [Int32.toBitVec_and, BitVec.toNat_and, h15]
  have h1 : (nI (x.toBitVec.toNat % 16)).toBitVec.toNat = x.toBitVec.toNat % 16 := by
    show (BitVec.ofNat 32 _).toNat = _
    rw [BitVec.toNat_ofNat]
    exact Nat.mod_eq_of_lt (by omega)
  rw [h1]
  exact Nat.and_two_pow_sub_one_eq_mod x.toBitVec.toNat 4
theorem lw_left {L k : Nat} (hL : L ≤ 1536) (hk : k ≤ L) (h : ¬ nI L - 3 < nI k) : k + 3 ≤ L := by
  rcases Nat.lt_or_ge L 3 with q | q
  · exfalso
    apply h
    have h0 : (0 : Int32) ≤ nI k := nI_pos' (by omega)
    refine Int32.lt_of_lt_of_le ?_ h0
    rcases (by omega : L = 0 ∨ L = 1 ∨ L = 2) with rfl | rfl | rfl <;> decide
  · have e : nI L - 3 = nI (L - 3) := pk_sub (a := L) (b := 3) (by omega)
    rw [e, nI_ltI (by omega) (by omega)] at h
    omega
