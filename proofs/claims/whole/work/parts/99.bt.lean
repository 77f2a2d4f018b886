/-! ===== the law's cases 6, 7, 48 ===== -/
abbrev LV5 (s : State) (b i : Nat) (r : Int32) : List (Nat × Value) := [(0, .ref b), (4, .int (nI i)), (1, .ref (s.heap.size + 0)), (2, .ref (s.heap.size + 103)), (3, .ref (s.heap.size + 132)), (5, .int r)]
section LWT
variable {p : Program} {l : Launch} {e : Env} {s : State} {m : MethodId} {below : List Frame} {meth : Method} {c : Code} {b L : Nat} {xs : Nat → Int32} {dC : Nat → ClassId} {dI : Nat → Nat → Nat} {dA : FieldType → ClassId} {g2 cells slots : Nat} {hq : xHp} {i cc : Nat} {r : Int32}
theorem up0 {g : Nat → Int64} {v : Int64} : vp_updL g 0 v 0 = v := by simp [vp_updL]
theorem lb_one (C0 : lw_At p s m meth c b L xs) (hKn : xKn dC dI dA s) (hL : L ≤ 2560) (hi : i + 5 ≤ L) (hc : cells ≤ 601024) (hs : slots ≤ 7293034) (h12 : is12 hq) (hM : xMi l 100 s.heap.size 0 g2 m_Mo_one (.ref 103 :: lwV xs (i + 1) 2) hq (fun v h1 => is12 h1 ∧ xMi l 100 s.heap.size 0 g2 m_Mo_thrown [.ref 103] h1 (fun t h2 => t = r ∧ Rel (cc + 1) h2 ∧ (r = 0 → ∃ g, h2.1 132 = .inl (.long, 1, .inr (.inl g)) ∧ g 0 = v.toInt64))))
    (K : ∀ h2, Rel (cc + 1) h2 → LJ p l e s m below meth c b dC dI dA g2 cells slots 1649 (LV s b i) [] h2) : LJ p l e s m below meth c b dC dI dA g2 cells slots 367 (LV s b i) [.int r] hq := by
  obtain ⟨hx, hb, hr, hml, hown, hts, hX, hbl, hlocks, hgv⟩ := id C0
  obtain ⟨fs, o3⟩ := h12
  intro H locs ls hho hS hl
  refine lv_istore (lv' := (5, .int r) :: LV s b i) hx hb (show decode code 367 = .ok (.istore 5, 2) by decide +kernel) hl (by decide) rfl (fun ls hl => ?_)
  have hl : lv_has ls 8 (LV5 s b i r) := lv_sub hl [1, 2, 3, 4, 5, 0] rfl
  refine lv_aload_n hx hb (show decode code 369 = .ok (.aload_n 2, 1) by decide +kernel) rfl (lv_at hl 3 rfl) ?_
  refine lw_args (lv := LV5 s b i r) (st := [.ref 103]) C0 hL rfl rfl 2 1 370 ⟨⟨by decide +kernel, by decide +kernel, by decide +kernel, by decide +kernel, by decide +kernel⟩, ⟨by decide +kernel, by decide +kernel, by decide +kernel, by decide +kernel, by decide +kernel⟩, trivial⟩ (by decide) (by omega) ?_ H locs ls hho hS hl
  refine lw_callV (r := []) C0 hKn (show decode code 382 = .ok (.invokevirtual 58, 3) by decide +kernel) (wg6 207 (by decide +kernel) rfl) kd_Mo_one o3 (by simp [xcs]) (lwV_len xs 2 (i + 1)) rfl rfl hc hs hM (fun v h1 hv => ?_)
  cases v with
  | none => exact hv.elim
  | some v =>
  cases v with
  | int v => ?_
  | _ => exact hv.elim
  obtain ⟨⟨fs4, o4⟩, hv⟩ := hv
  intro H locs ls hho hS hl
  refine lv_istore (lv' := (6, .int v) :: LV5 s b i r) hx hb (show decode code 385 = .ok (.istore 6, 2) by decide +kernel) hl (by decide) rfl (fun ls hl => ?_)
  refine lv_aload_n hx hb (show decode code 387 = .ok (.aload_n 2, 1) by decide +kernel) rfl (lv_at hl 4 rfl) ?_
  refine lw_callV (lv := (6, .int v) :: LV5 s b i r) (As := []) (r := []) (a := 103) C0 hKn (show decode code 388 = .ok (.invokevirtual 59, 3) by decide +kernel) (wg6 109 (by decide +kernel) rfl) kd_Mo_thrown o4 (by simp [xcs]) rfl rfl rfl hc hs hv (fun t h2 ht => ?_) H locs ls hho hS hl
  cases t with
  | none => exact ht.elim
  | some t =>
  cases t with
  | int t => ?_
  | _ => exact ht.elim
  obtain ⟨ht, hR, hout⟩ := ht
  subst ht
  intro H locs ls hho hS hl
  refine lv_iload hx hb (show decode code 391 = .ok (.iload 5, 2) by decide +kernel) (lv_at hl 6 rfl) ?_
  refine lv_icmp_eq (tgt := 398) hx hb (show decode code 393 = .ok (.if_icmp .eq 5, 3) by decide +kernel) (by decide) (fun _ => ?_) (fun z => absurd rfl z)
  refine lv_iload hx hb (show decode code 398 = .ok (.iload 5, 2) by decide +kernel) (lv_at hl 6 rfl) ?_
  refine lv_if_ne (tgt := 415) hx hb (show decode code 400 = .ok (.ifCond .ne 15, 3) by decide +kernel) (by decide) (fun _ => (lv_goto (tgt := 1649) hx hb (show decode code 415 = .ok (.goto 1234, 3) by decide +kernel) (by decide) (K _ hR H locs ls hho hS (lv_sub hl [1, 2, 3, 4, 5] rfl)))) (fun z0 => ?_)
  obtain ⟨g, o5, e5⟩ := hout z0
  refine lv_aload_n hx hb (show decode code 403 = .ok (.aload_n 3, 1) by decide +kernel) rfl (lv_at hl 5 rfl) ?_
  refine lv_iconst (v := nI 0) hx hb (show decode code 404 = .ok (.iconst 0, 1) by decide +kernel) (by decide) ?_
  refine va_lald hx hb hKn.1 hho.2.2 (132 - 0) 3 (xW_at (b := s.heap.size) (dA := dA) (xBd_l hho.2.1 o5) o5) rfl (vp_in_nI (n := 0) (N := 1) (by decide) (by decide)) (show decode code 405 = .ok (.laload, 1) by decide +kernel) ?_
  rw [nI_clamp (by decide)]
  refine lv_iload hx hb (show decode code 406 = .ok (.iload 6, 2) by decide +kernel) (lv_at hl 0 rfl) ?_
  refine lv_i2l (v := v.toInt64) hx hb (show decode code 408 = .ok (.i2l, 1) by decide +kernel) rfl ?_
  refine W.lcmp hx hb (show decode code 409 = .ok (.lcmp, 1) by decide +kernel) ?_
  refine lv_if_eq (tgt := 415) hx hb (show decode code 410 = .ok (.ifCond .eq 5, 3) by decide +kernel) (by decide) (fun _ => (lv_goto (tgt := 1649) hx hb (show decode code 415 = .ok (.goto 1234, 3) by decide +kernel) (by decide) (K _ hR H locs ls hho hS (lv_sub hl [1, 2, 3, 4, 5] rfl)))) (fun z => absurd ?_ z)
  rw [e5]
  exact cmp_self _
theorem lb_place (C0 : lw_At p s m meth c b L xs) (hKn : xKn dC dI dA s) (hL : L ≤ 2560) (hi : i + 5 ≤ L) (hc : cells ≤ 601024) (hs : slots ≤ 7293034) (h12 : is12 hq) (hM : xMi l 100 s.heap.size 0 g2 m_Mo_place (.ref 103 :: lwV xs (i + 1) 2) hq (fun v h1 => is12 h1 ∧ xMi l 100 s.heap.size 0 g2 m_Mo_thrown [.ref 103] h1 (fun t h2 => t = r ∧ Rel (cc + 1) h2 ∧ (r = 0 → ∃ g, h2.1 132 = .inl (.long, 1, .inr (.inl g)) ∧ g 0 = v.toInt64))))
    (K : ∀ h2, Rel (cc + 1) h2 → LJ p l e s m below meth c b dC dI dA g2 cells slots 1649 (LV s b i) [] h2) : LJ p l e s m below meth c b dC dI dA g2 cells slots 435 (LV s b i) [.int r] hq := by
  obtain ⟨hx, hb, hr, hml, hown, hts, hX, hbl, hlocks, hgv⟩ := id C0
  obtain ⟨fs, o3⟩ := h12
  intro H locs ls hho hS hl
  refine lv_istore (lv' := (5, .int r) :: LV s b i) hx hb (show decode code 435 = .ok (.istore 5, 2) by decide +kernel) hl (by decide) rfl (fun ls hl => ?_)
  have hl : lv_has ls 8 (LV5 s b i r) := lv_sub hl [1, 2, 3, 4, 5, 0] rfl
  refine lv_aload_n hx hb (show decode code 437 = .ok (.aload_n 2, 1) by decide +kernel) rfl (lv_at hl 3 rfl) ?_
  refine lw_args (lv := LV5 s b i r) (st := [.ref 103]) C0 hL rfl rfl 2 1 438 ⟨⟨by decide +kernel, by decide +kernel, by decide +kernel, by decide +kernel, by decide +kernel⟩, ⟨by decide +kernel, by decide +kernel, by decide +kernel, by decide +kernel, by decide +kernel⟩, trivial⟩ (by decide) (by omega) ?_ H locs ls hho hS hl
  refine lw_callV (r := []) C0 hKn (show decode code 450 = .ok (.invokevirtual 64, 3) by decide +kernel) (wg6 237 (by decide +kernel) rfl) kd_Mo_place o3 (by simp [xcs]) (lwV_len xs 2 (i + 1)) rfl rfl hc hs hM (fun v h1 hv => ?_)
  cases v with
  | none => exact hv.elim
  | some v =>
  cases v with
  | int v => ?_
  | _ => exact hv.elim
  obtain ⟨⟨fs4, o4⟩, hv⟩ := hv
  intro H locs ls hho hS hl
  refine lv_istore (lv' := (6, .int v) :: LV5 s b i r) hx hb (show decode code 453 = .ok (.istore 6, 2) by decide +kernel) hl (by decide) rfl (fun ls hl => ?_)
  refine lv_aload_n hx hb (show decode code 455 = .ok (.aload_n 2, 1) by decide +kernel) rfl (lv_at hl 4 rfl) ?_
  refine lw_callV (lv := (6, .int v) :: LV5 s b i r) (As := []) (r := []) (a := 103) C0 hKn (show decode code 456 = .ok (.invokevirtual 59, 3) by decide +kernel) (wg6 109 (by decide +kernel) rfl) kd_Mo_thrown o4 (by simp [xcs]) rfl rfl rfl hc hs hv (fun t h2 ht => ?_) H locs ls hho hS hl
  cases t with
  | none => exact ht.elim
  | some t =>
  cases t with
  | int t => ?_
  | _ => exact ht.elim
  obtain ⟨ht, hR, hout⟩ := ht
  subst ht
  intro H locs ls hho hS hl
  refine lv_iload hx hb (show decode code 459 = .ok (.iload 5, 2) by decide +kernel) (lv_at hl 6 rfl) ?_
  refine lv_icmp_eq (tgt := 466) hx hb (show decode code 461 = .ok (.if_icmp .eq 5, 3) by decide +kernel) (by decide) (fun _ => ?_) (fun z => absurd rfl z)
  refine lv_iload hx hb (show decode code 466 = .ok (.iload 5, 2) by decide +kernel) (lv_at hl 6 rfl) ?_
  refine lv_if_ne (tgt := 483) hx hb (show decode code 468 = .ok (.ifCond .ne 15, 3) by decide +kernel) (by decide) (fun _ => (lv_goto (tgt := 1649) hx hb (show decode code 483 = .ok (.goto 1166, 3) by decide +kernel) (by decide) (K _ hR H locs ls hho hS (lv_sub hl [1, 2, 3, 4, 5] rfl)))) (fun z0 => ?_)
  obtain ⟨g, o5, e5⟩ := hout z0
  refine lv_aload_n hx hb (show decode code 471 = .ok (.aload_n 3, 1) by decide +kernel) rfl (lv_at hl 5 rfl) ?_
  refine lv_iconst (v := nI 0) hx hb (show decode code 472 = .ok (.iconst 0, 1) by decide +kernel) (by decide) ?_
  refine va_lald hx hb hKn.1 hho.2.2 (132 - 0) 3 (xW_at (b := s.heap.size) (dA := dA) (xBd_l hho.2.1 o5) o5) rfl (vp_in_nI (n := 0) (N := 1) (by decide) (by decide)) (show decode code 473 = .ok (.laload, 1) by decide +kernel) ?_
  rw [nI_clamp (by decide)]
  refine lv_iload hx hb (show decode code 474 = .ok (.iload 6, 2) by decide +kernel) (lv_at hl 0 rfl) ?_
  refine lv_i2l (v := v.toInt64) hx hb (show decode code 476 = .ok (.i2l, 1) by decide +kernel) rfl ?_
  refine W.lcmp hx hb (show decode code 477 = .ok (.lcmp, 1) by decide +kernel) ?_
  refine lv_if_eq (tgt := 483) hx hb (show decode code 478 = .ok (.ifCond .eq 5, 3) by decide +kernel) (by decide) (fun _ => (lv_goto (tgt := 1649) hx hb (show decode code 483 = .ok (.goto 1166, 3) by decide +kernel) (by decide) (K _ hR H locs ls hho hS (lv_sub hl [1, 2, 3, 4, 5] rfl)))) (fun z => absurd ?_ z)
  rw [e5]
  exact cmp_self _
theorem lb_row (C0 : lw_At p s m meth c b L xs) (hKn : xKn dC dI dA s) (hL : L ≤ 2560) (hi : i + 5 ≤ L) (hc : cells ≤ 601024) (hs : slots ≤ 7293034) (h12 : is12 hq) (hM : xMl l 100 s.heap.size 0 g2 m_Mo_row (.ref 103 :: lwV xs (i + 1) 1) hq (fun v h1 => is12 h1 ∧ xMi l 100 s.heap.size 0 g2 m_Mo_thrown [.ref 103] h1 (fun t h2 => t = r ∧ Rel (cc + 1) h2 ∧ (r = 0 → ∃ g, h2.1 132 = .inl (.long, 1, .inr (.inl g)) ∧ g 0 = v))))
    (K : ∀ h2, Rel (cc + 1) h2 → LJ p l e s m below meth c b dC dI dA g2 cells slots 1649 (LV s b i) [] h2) : LJ p l e s m below meth c b dC dI dA g2 cells slots 1605 (LV s b i) [.int r] hq := by
  obtain ⟨hx, hb, hr, hml, hown, hts, hX, hbl, hlocks, hgv⟩ := id C0
  obtain ⟨fs, o3⟩ := h12
  intro H locs ls hho hS hl
  refine lv_istore (lv' := (5, .int r) :: LV s b i) hx hb (show decode code 1605 = .ok (.istore 5, 2) by decide +kernel) hl (by decide) rfl (fun ls hl => ?_)
  have hl : lv_has ls 8 (LV5 s b i r) := lv_sub hl [1, 2, 3, 4, 5, 0] rfl
  refine lv_aload_n hx hb (show decode code 1607 = .ok (.aload_n 2, 1) by decide +kernel) rfl (lv_at hl 3 rfl) ?_
  refine lw_args (lv := LV5 s b i r) (st := [.ref 103]) C0 hL rfl rfl 1 1 1608 ⟨⟨by decide +kernel, by decide +kernel, by decide +kernel, by decide +kernel, by decide +kernel⟩, trivial⟩ (by decide) (by omega) ?_ H locs ls hho hS hl
  refine lw_callV (r := []) C0 hKn (show decode code 1614 = .ok (.invokevirtual 230, 3) by decide +kernel) (wg8 86 (by decide +kernel) rfl) kd_Mo_row o3 (by simp [xcs]) (lwV_len xs 1 (i + 1)) rfl rfl hc hs hM (fun v h1 hv => ?_)
  cases v with
  | none => exact hv.elim
  | some v =>
  cases v with
  | long v => ?_
  | _ => exact hv.elim
  obtain ⟨⟨fs4, o4⟩, hv⟩ := hv
  intro H locs ls hho hS hl
  refine lv_lstore (lv' := (6, .long v) :: LV5 s b i r) hx hb (show decode code 1617 = .ok (.lstore 6, 2) by decide +kernel) hl (by decide) rfl (fun ls hl => ?_)
  refine lv_aload_n hx hb (show decode code 1619 = .ok (.aload_n 2, 1) by decide +kernel) rfl (lv_at hl 4 rfl) ?_
  refine lw_callV (lv := (6, .long v) :: LV5 s b i r) (As := []) (r := []) (a := 103) C0 hKn (show decode code 1620 = .ok (.invokevirtual 59, 3) by decide +kernel) (wg6 109 (by decide +kernel) rfl) kd_Mo_thrown o4 (by simp [xcs]) rfl rfl rfl hc hs hv (fun t h2 ht => ?_) H locs ls hho hS hl
  cases t with
  | none => exact ht.elim
  | some t =>
  cases t with
  | int t => ?_
  | _ => exact ht.elim
  obtain ⟨ht, hR, hout⟩ := ht
  subst ht
  intro H locs ls hho hS hl
  refine lv_iload hx hb (show decode code 1623 = .ok (.iload 5, 2) by decide +kernel) (lv_at hl 6 rfl) ?_
  refine lv_icmp_eq (tgt := 1630) hx hb (show decode code 1625 = .ok (.if_icmp .eq 5, 3) by decide +kernel) (by decide) (fun _ => ?_) (fun z => absurd rfl z)
  refine lv_iload hx hb (show decode code 1630 = .ok (.iload 5, 2) by decide +kernel) (lv_at hl 6 rfl) ?_
  refine lv_if_ne (tgt := 1646) hx hb (show decode code 1632 = .ok (.ifCond .ne 14, 3) by decide +kernel) (by decide) (fun _ => (lv_goto (tgt := 1649) hx hb (show decode code 1646 = .ok (.goto 3, 3) by decide +kernel) (by decide) (K _ hR H locs ls hho hS (lv_sub hl [1, 2, 3, 4, 5] rfl)))) (fun z0 => ?_)
  obtain ⟨g, o5, e5⟩ := hout z0
  refine lv_aload_n hx hb (show decode code 1635 = .ok (.aload_n 3, 1) by decide +kernel) rfl (lv_at hl 5 rfl) ?_
  refine lv_iconst (v := nI 0) hx hb (show decode code 1636 = .ok (.iconst 0, 1) by decide +kernel) (by decide) ?_
  refine va_lald hx hb hKn.1 hho.2.2 (132 - 0) 3 (xW_at (b := s.heap.size) (dA := dA) (xBd_l hho.2.1 o5) o5) rfl (vp_in_nI (n := 0) (N := 1) (by decide) (by decide)) (show decode code 1637 = .ok (.laload, 1) by decide +kernel) ?_
  rw [nI_clamp (by decide)]
  refine lv_lload hx hb (show decode code 1638 = .ok (.lload 6, 2) by decide +kernel) (lv_at hl 0 rfl) ?_
  refine W.lcmp hx hb (show decode code 1640 = .ok (.lcmp, 1) by decide +kernel) ?_
  refine lv_if_eq (tgt := 1646) hx hb (show decode code 1641 = .ok (.ifCond .eq 5, 3) by decide +kernel) (by decide) (fun _ => (lv_goto (tgt := 1649) hx hb (show decode code 1646 = .ok (.goto 3, 3) by decide +kernel) (by decide) (K _ hR H locs ls hho hS (lv_sub hl [1, 2, 3, 4, 5] rfl)))) (fun z => absurd ?_ z)
  rw [e5]
  exact cmp_self _
end LWT
