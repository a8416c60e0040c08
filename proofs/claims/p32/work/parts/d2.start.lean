/-- YOUR PART: from the entry, for every script of at most 260 ints, the law comes to its end with true ('hflags': the launch's flags, for a law that throws: no stack traces) -/
theorem whole_start {p : Program} {e : Env} {s : State} {m : MethodId} {below : List Frame} {meth : Method} {c : Code} (l : Launch) (hflags : l.flags = flags0) {b L : Nat} {xs : Nat → Int32} (hL : L ≤ 260) (C0 : lw_At p s m meth c b L xs) : W p l e room_1 s m #[Value.ref b] below meth c s.heap [] 0 0 (lw_Z below #[Value.ref b] s) (entryFrame m ([Value.ref b] : List Value).toArray 12) := by
  obtain ⟨hx, hb, hr, hml, hown, hts, hX, hbl, hlocks, hgv⟩ := id C0
  obtain ⟨G, hG, hK, hT⟩ := lw_K C0
  have hl : l.stackTraces = false := by
    unfold Launch.stackTraces
    rw [hflags]
    decide +kernel
  have hg : ∀ w ∈ lw_good, w.before #[Value.ref b] s = true := fun w hw => hts w (List.mem_filter.mp hw).1
  have C : Cx (p, l, e, room_1, s, m, #[Value.ref b], below, meth, c) G RL cL_law 12 (some .boolean) room_1 c.exceptionTable.toList := ⟨hx, hb, hml, hown, hg, hK, ⟨by rw [wB, hG]; exact Nat.le_refl _, fun q _ => by rw [hG]⟩, hl, hlocks, hr, rfl, rfl⟩
  rw [lg_entry_eq]
  have key : V (p, l, e, room_1, s, m, #[Value.ref b], below, meth, c) G 12 (lw_Z below #[Value.ref b] s) 0 0 0 [(0, false, .ref b)] [] S00 := by
    refine law_walk (xs := xs) C hl hL hT (fun k n lo S hk hn => ?_)
    refine V_iconst C (v := 1) dL_law_250 (by decide) ?_
    refine V_goto C (tgt := 255) dL_law_251 (by decide) ?_
    intro H ls locs hW hlk hf
    refine W.widen hk hn (va_forget (fun q hq => ?_) (lw_ret hx hb hr hlocks dL_law_255))
    have h9 := hf q hq
    rw [wB, hG] at h9
    exact h9
  have hlk : lk ((lg_sl [Value.ref b] ++ List.replicate (12 - (lg_sl [Value.ref b]).length) Slot.unset).toArray) 12 (lArgs 0 [Value.ref b]) := lk_entry (vs := [Value.ref b]) (fun v hv => by rw [List.mem_singleton.mp hv]; rfl) (Nat.le_of_ble_eq_true rfl)
  have hW : wW G S00 s.heap := by
    rw [← hG]
    exact st_00
  exact key s.heap _ [] hW hlk (fun z hz => nomatch hz)
