/-- YOUR PART: from the entry, for every script of at most 2560 ints, the law comes to its end with true ('hflags': the launch's flags, for a law that throws: no stack traces) -/
theorem whole_start {p : Program} {e : Env} {s : State} {m : MethodId} {below : List Frame} {meth : Method} {c : Code} (l : Launch) (hflags : l.flags = flags0) {b L : Nat} {xs : Nat → Int32} (hL : L ≤ 2560) (C0 : lw_At p s m meth c b L xs) : W p l e room_1 s m #[Value.ref b] below meth c s.heap [] 0 0 (lw_Z below #[Value.ref b] s) (entryFrame m ([Value.ref b] : List Value).toArray 8) := by
  have hlt : l.stackTraces = false := by
    unfold Launch.stackTraces
    rw [hflags]
    decide +kernel
  obtain ⟨hx, hb, hr, hml, hown, hts, hX, hbl, hlocks, hgv⟩ := id C0
  have hs := flat_of_before _ hgv
  have hz : zU s.heap.size s := ⟨vx_Zqof (args := #[Value.ref b]) (hts _ (show Cond.laysStatic Bundle.tN "UNASSIGNED_STACK" Bundle.steD ∈ lw_tbl from tb5 139 (by decide +kernel))) (hts _ (show Cond.initialized Bundle.tN ∈ lw_tbl from tb1 15 (by decide +kernel))) (hs _ (by decide +kernel)) (fun a h => Nat.not_le.mpr h), vx_Zqof (args := #[Value.ref b]) (hts _ (show Cond.laysStatic Bundle.tN "SUPPRESSED_SENTINEL" Bundle.listD ∈ lw_tbl from tb5 141 (by decide +kernel))) (hts _ (show Cond.initialized Bundle.tN ∈ lw_tbl from tb1 15 (by decide +kernel))) (hs _ (by decide +kernel)) (fun a h => Nat.not_le.mpr h), fun w hw => va_Nw.of (atB_on w hw) (hts w (atX_in w (List.mem_filter.mp hw).1))⟩
  exact law_start l hL C0 (fun dC dI dA hKn => ⟨lf_one C0 hKn hL hz hlt, lf_place C0 hKn hL hz hlt, lf_row C0 hKn hL hz hlt⟩)
