/-! ===== patched worlds, place by place ===== -/
theorem go_pa_eq0 : ∀ (is : List Nat) (w1 ws ws' : va_W), va_nd is = true → ws'.length = ws.length → is.map (fun i => ws'[i]?) = w1.map some → (∀ k, k ∉ is → ws'[k]? = ws[k]?) → go_pa ws is w1 = ws'
  | [], w1, ws, ws', _, hl, _, h => by
    have e : go_pa ws [] w1 = ws := by simp [go_pa]
    rw [e]
    exact List.ext_getElem? (fun k => (h k List.not_mem_nil).symm)
  | i :: is, [], ws, ws', _, _, h, _ => by simp at h
  | i :: is, c :: cs, ws, ws', hn, hl, h, ho => by
    show go_pa (ws.set i c) is cs = ws'
    rw [List.map_cons, List.map_cons, List.cons.injEq] at h
    obtain ⟨h1, h2⟩ := h
    simp only [va_nd, Bool.and_eq_true, decide_eq_true_eq] at hn
    refine go_pa_eq0 is cs (ws.set i c) ws' hn.2 (by rw [List.length_set]; exact hl) h2 (fun k hk => ?_)
    by_cases e : k = i
    · subst e
      have hlt : k < ws.length := by rw [← hl]; exact (List.getElem?_eq_some_iff.mp h1).1
      rw [h1, List.getElem?_set_self hlt]
    · rw [List.getElem?_set_ne (Ne.symm e)]
      exact ho k (by rw [List.mem_cons, not_or]; exact ⟨e, hk⟩)
theorem go_pa_eq {is : List Nat} {w1 ws ws' : va_W} (n : Nat) (isO : List Nat) (hn : va_nd is = true) (hl : ws.length = n) (hl' : ws'.length = n) (h : is.map (fun i => ws'[i]?) = w1.map some) (ho : isO.map (fun i => ws'[i]?) = isO.map (fun i => ws[i]?)) (hc : (List.range n).all (fun k => is.contains k || isO.contains k) = true) : go_pa ws is w1 = ws' := by
  refine go_pa_eq0 is w1 ws ws' hn (hl'.trans hl.symm) h (fun k hk => ?_)
  rcases Nat.lt_or_ge k n with q | q
  · have h1 := List.all_eq_true.mp hc k (List.mem_range.mpr q)
    rw [Bool.or_eq_true] at h1
    rcases h1 with h1 | h1
    · exact absurd (List.contains_iff_mem.mp h1) hk
    · have h2 := List.contains_iff_mem.mp h1
      exact List.map_inj_left.mp ho k h2
  · rw [List.getElem?_eq_none (by omega), List.getElem?_eq_none (by omega)]
