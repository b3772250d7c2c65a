theorem mc_min : Cond.code Lib.Math.min.name Lib.Math.min.code 2 (some .int) ∈ go_tb := go_tb_of (List.mem_of_getElem? (i := 518) (by decide +kernel)) rfl
theorem ml_min : go_MS RX8 154 Lib.Math.min.name 2 := ml_X8_154
theorem go_min {X : go_X} {cc : ByteArray} {own : String} {rt : Option FieldType} {nL fr lo rc rs : Nat} {G : go_G} {kz : Nat × Nat} {ws : va_W} {lv : List (Nat × Value)} {st : List Value} {pc index : Nat} (C : go_Cx X cc own rt nL fr lo rc rs G) (M : go_MS own index Lib.Math.min.name 2) (d : decode cc pc = .ok (.invokestatic index, 3)) {x y : Int32} (hR : 1 ≤ fr ∧ (st.map fun v => v.category).sum + 13 ≤ lo ∧ kz.1 ≤ rc ∧ kz.2 ≤ rs) (kk : go_Go X kz ws lv (.int (if y < x then y else x) :: st) (pc + 3)) : go_Go X kz ws lv (.int y :: .int x :: st) pc := by
  obtain ⟨p, l, e, R, s, m, args, below, meth, c, G', nL0, A, Q⟩ := X
  obtain ⟨hx, hb, hr, hml, hown, hts, hlk, hK, rfl, rfl, rfl, hA⟩ := C
  intro H locs ls hP hD hS hl
  exact va_mmin hx hb (hml.trans hl.1.symm) hown (hts _ M.1) (hts _ M.2.1) (hts _ M.2.2.1) (hts _ mc_min) hR.1 hR.2.1 hR.2.2.1 hR.2.2.2 d (kk H locs ls hP hD hS hl)
