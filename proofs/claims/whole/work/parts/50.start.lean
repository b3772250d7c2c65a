set_option maxHeartbeats 4000000 in
set_option maxRecDepth 100000 in
theorem whole_start {p : Program} {e : Env} {s : State} {m : MethodId} {below : List Frame} {meth : Method} {c : Code} (l : Launch) {b L : Nat} {xs : Nat → Int32} (hL : L ≤ 1536) (C0 : lw_At p s m meth c b L xs) : W p l e room_1 s m #[Value.ref b] below meth c s.heap [] 0 0 (lw_Z below #[Value.ref b] s) (entryFrame m ([Value.ref b] : List Value).toArray 4) := by
  obtain ⟨hx, hb, hr, hml, hown, hts, hX, hbl, hlocks, hgv⟩ := id C0
  have hts2 : ∀ w ∈ go_tb, w.before #[Value.ref b] s = true := fun w hw => hts w (List.mem_filter.mp hw).1
  obtain ⟨c0, iS0, hKn0⟩ := u_known (C := RX0) (T := TX0) (N := 1) (n := 1) hts2 ui_X0 (hts2 _ cn_X8_16.2.2.2.2.1)
  obtain ⟨c1, iS1, hKn1⟩ := u_known (C := RX1) (T := TX1) (N := 1) (n := 1) hts2 ui_X1 (hts2 _ cn_X8_30.2.2.2.2.1)
  obtain ⟨c2, iS2, hKn2⟩ := u_known (C := RX2) (T := TX2) (N := 2) (n := 2) hts2 ui_X2 (hts2 _ cn_X8_37.2.2.2.2.1)
  obtain ⟨c3, iS3, hKn3⟩ := u_known (C := RX3) (T := TX3) (N := 3) (n := 3) hts2 ui_X3 (hts2 _ cn_X8_23.2.2.2.2.1)
  obtain ⟨c4, iS4, hKn4⟩ := u_known (C := RX4) (T := TX4) (N := 5) (n := 5) hts2 ui_X4 (hts2 _ cn_X8_44.2.2.2.2.1)
  obtain ⟨c5, iS5, hKn5⟩ := u_known (C := RX5) (T := TX5) (N := 4) (n := 4) hts2 ui_X5 (hts2 _ cn_X8_51.2.2.2.2.1)
  obtain ⟨c6, iS6, hKn6⟩ := u_known (C := RX7) (T := TX7) (N := 2) (n := 2) hts2 ui_X7 (hts2 _ cn_X1_9.2.2.2.2.1)
  obtain ⟨c7, iS7, hKn7⟩ := u_known (C := RX8) (T := TX8) (N := 15) (n := 15) hts2 ui_X8 (hts2 _ cn_L_7.2.2.2.2.1)
  obtain ⟨c8, iS8, hKn8⟩ := u_known (C := RX9) (T := TX9) (N := 19) (n := 19) hts2 ui_X9 (hts2 _ cn_L_10.2.2.2.2.1)
  obtain ⟨dC, dI, hKc⟩ : ∃ (dC : Nat → ClassId) (dI : Nat → Nat → Nat), ∀ (k : Nat) (q : vw_C), vwCl[k]? = some q → u_Kn s q.1 q.2.1 q.2.2 (dC k) (dI k) := by
    refine ⟨fun k => if k = 0 then c0 else if k = 1 then c1 else if k = 2 then c2 else if k = 3 then c3 else if k = 4 then c4 else if k = 5 then c5 else if k = 6 then c6 else if k = 7 then c7 else c8, fun k => if k = 0 then iS0 else if k = 1 then iS1 else if k = 2 then iS2 else if k = 3 then iS3 else if k = 4 then iS4 else if k = 5 then iS5 else if k = 6 then iS6 else if k = 7 then iS7 else iS8, ?_⟩
    intro k q hq
    match k, hq with
    | 0, hq => cases hq; exact hKn0
    | 1, hq => cases hq; exact hKn1
    | 2, hq => cases hq; exact hKn2
    | 3, hq => cases hq; exact hKn3
    | 4, hq => cases hq; exact hKn4
    | 5, hq => cases hq; exact hKn5
    | 6, hq => cases hq; exact hKn6
    | 7, hq => cases hq; exact hKn7
    | 8, hq => cases hq; exact hKn8
    | k + 9, hq => simp [vwCl] at hq
  obtain ⟨cI, kI, coI, a1, a2, a3⟩ := Cond.arrayClass_spec (hts2 _ ml_ai)
  have hO : va_AO "ProtoCheck$WordRow" s := va_AO.of (hts (Cond.arrayOver (.object "ProtoCheck$WordRow")) (List.mem_of_getElem? (i := 77) (by decide +kernel)))
  obtain ⟨coQ, cQ, kQ, b1, b2, b3, b4, b5⟩ := Cond.arrayOver_spec hO
  have hK : go_KK ((dC, dI), cI, cQ) s := by
    refine ⟨⟨hKc, fun k q hq => ?_⟩, fun w hw hn => ?_⟩
    · match k, hq with
      | 0, hq => cases hq; exact ⟨fun N z => ⟨fun k h => (by cases h), kI, a2, coI, a3⟩, a1⟩
      | 1, hq => cases hq; exact ⟨fun N z => ⟨fun k h => (by cases h), kQ, b3, coQ, b4⟩, kQ, coQ, b3, b4, b1, b5⟩
      | k + 2, hq => simp at hq
    · cases w <;> simp only [go_isN] at hn <;> first | exact va_Nw.of rfl (hts _ hw) | cases hn
  have hg := lw_begin (X := (p, l, e, room_1, s, m, #[Value.ref b], below, meth, c, ((dC, dI), cI, cQ), 4, (fun q : Nat => s.heap.size ≤ q), lw_Z below #[Value.ref b] s)) (b := b) (L := L) (xs := xs) ⟨hx, hb, hr, hml, hown, hts2, hlocks, hK, rfl, rfl, rfl, fun _ h => h⟩ ⟨hX, hbl, rfl, rfl, rfl⟩ hO hL
  have hl := lv_entry ([.ref b]) (n := 4) (Nat.le_of_ble_eq_true rfl)
  rw [lg_entry_eq]
  exact hg s.heap [] _ (fun k q h => by simp at h) ⟨fun i j p q h => by simp at h, fun k q h => by simp at h⟩ va_S.rf hl
