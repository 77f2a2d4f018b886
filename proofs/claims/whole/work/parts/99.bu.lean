/-! ===== the law's cases 6, 7, 48, whole ===== -/
section LWF
variable {p : Program} {l : Launch} {e : Env} {s : State} {m : MethodId} {below : List Frame} {meth : Method} {c : Code} {b L : Nat} {xs : Nat → Int32} {dC : Nat → ClassId} {dI : Nat → Nat → Nat} {dA : FieldType → ClassId}
theorem lf_one (C0 : lw_At p s m meth c b L xs) (hKn : xKn dC dI dA s) (hL : L ≤ 2560) (hz : zU s.heap.size s) (hlt : l.stackTraces = false) : lwX p l e s m below meth c b dC dI dA L 350 := by
  intro gz i cc hp hcc hi hR K
  obtain ⟨S, x, hC, hM, hw, hO⟩ := id hR
  obtain ⟨lot, o1⟩ := hC.so
  obtain ⟨hx, hb, hr, hml, hown, hts, hX, hbl, hlocks, hgv⟩ := id C0
  have h7 := hC.nw.2
  have hl6 := hC.ev.2.2.1
  have hr16 := hC.rw.2
  have hP : wfP S.now S.nl := hw.1.1.2.1
  have hd := hw.1.2
  have hB4 : 1000 * cc + 400 < 2 ^ 31 := by omega
  intro H locs ls hho hS hl
  refine lv_aload_n hx hb (show decode code 350 = .ok (.aload_n 1, 1) by decide +kernel) rfl (lv_at hl 2 rfl) ?_
  refine lw_args (lv := LV s b i) (st := [.ref 0]) C0 hL rfl rfl 2 1 351 ⟨⟨by decide +kernel, by decide +kernel, by decide +kernel, by decide +kernel, by decide +kernel⟩, ⟨by decide +kernel, by decide +kernel, by decide +kernel, by decide +kernel, by decide +kernel⟩, trivial⟩ (by decide) (by omega) ?_ H locs ls hho hS hl
  intro H locs ls hho hS hl
  refine lv_aload_n hx hb (show decode code 363 = .ok (.aload_n 3, 1) by decide +kernel) rfl (lv_at hl 4 rfl) ?_
  have key : ∀ (Po : Int32 → xHp → Prop), xHC l 100 s.heap.size gz y_one method_3_code 5 [((0 : Nat), (10 : Nat), (13 : Nat), (13 : Nat))] [.ref 0, .int (xs (i + 1)), .int (xs (i + 1 + 1)), .ref 132] hp Po → (∀ (r : Int32) (hq : xHp) (g2 : Nat), Po r hq → LJ p l e s m below meth c b dC dI dA g2 (133 + cc + 1) (6451 + 6 * cc + 6) 367 (LV s b i) [.int r] hq) → LJ p l e s m below meth c b dC dI dA gz (133 + cc) (6451 + 6 * cc) 364 (LV s b i) ([.ref 0, .int (xs (i + 1)), .int (xs (i + 1 + 1)), .ref 132].reverse ++ []) hp := fun Po hM2 K2 =>
    lw_callH (r := []) (n := 4) C0 hKn hz (show decode code 364 = .ok (.invokestatic 53, 3) by decide +kernel) (wg5 104 (by decide +kernel) rfl) (wg5 105 (by decide +kernel) rfl) (wg1 0 (by decide +kernel) rfl) (wg5 106 (by decide +kernel) rfl) ⟨⟨by decide, by decide⟩, by decide +kernel⟩ (by decide) (by simp [xcs]) rfl (by omega) (by omega) hM2 (fun v hp' g2 h => K2 v hp' g2 h)
  by_cases hT : yhas (xs (i + 1)) (nI S.now.n) = 0 ∨ (xs (i + 1 + 1)) < 0 ∨ 3 < (xs (i + 1 + 1))
  · refine key _ (h_one_t (d := 100) (by decide) o1 (t_So_one (d := 100 - 1) hlt hC (by decide) hT)) (fun r hq g2 hr2 => ?_) H locs ls hho hS hl
    obtain ⟨rfl, rfl⟩ := hr2
    refine lb_one C0 hKn hL hi (by omega) (by omega) (o12 hM) (m_one (d := 32) hM hP hd hB4 (fun _ h1 y har hM2 hth => ⟨o12 hM2, m_thr hM2 ⟨hth, ⟨S, y, isCl_m har (by decide) hC, hM2, wf_s hw, Out_ag har (by decide) hO⟩, fun z => absurd z (by decide)⟩⟩) (fun j hj e1 hw4 => ?_)) (fun h2 hR2 => lw_wide (k := 133 + (cc + 1)) (n := 6451 + 6 * (cc + 1)) (by omega) (by omega) (K g2 h2 hR2))
    rcases hT with z | z | z
    · exact (by rw [e1] at z; exact yhas_nI (by omega) hj z : False).elim
    · exact (by rcases hw4 with h | h | h | h <;> rw [h] at z <;> exact absurd z (by decide) : False).elim
    · exact (by rcases hw4 with h | h | h | h <;> rw [h] at z <;> exact absurd z (by decide) : False).elim
  · skip
    obtain ⟨j, hj, e1⟩ := yhas_of (by omega) (fun z => hT (Or.inl z))
    obtain ⟨k, hk, e2⟩ := nI_box (x := (xs (i + 1 + 1))) (B := 3) (by decide) (fun z => hT (Or.inr (Or.inl z))) (Int32.not_lt.mp (fun z => hT (Or.inr (Or.inr z))))
    have hw4 : (xs (i + 1 + 1)) = 0 ∨ (xs (i + 1 + 1)) = 1 ∨ (xs (i + 1 + 1)) = 2 ∨ (xs (i + 1 + 1)) = 3 := by
      rw [e2]
      rcases (show k = 0 ∨ k = 1 ∨ k = 2 ∨ k = 3 by omega) with rfl | rfl | rfl | rfl <;> decide
    refine key _ (h_one_n (d := 100) (x := oneV S j (xs (i + 1 + 1))) (P := fun hq => xAg hp hq [15, 10] ∧ isCl hq S) (by decide) o1 (fun hq h => Out_ag h.1 (by decide) hO) (n_So_one (d := 100 - 1) hC (by decide) hj e1 hw4)) (fun r hq g2 hr2 => ?_) H locs ls hho hS hl
    obtain ⟨rfl, h0, g, ⟨ha, hC0⟩, rfl⟩ := hr2
    have hM0 := mmt hM ha (by decide)
    have har0 : xAg h0 (xup h0 132 (.inl (.long, 1, .inr (.inl (vp_updL g 0 (oneV S j (xs (i + 1 + 1))).toInt64))))) [132] := xAg_up (xAg_rf _ _) (by simp)
    have hM1 := isMM_ag har0 (fun k hk => by simp at hk; omega) hM0
    have hC1 := isCl_m har0 (by decide) hC0
    refine lb_one C0 hKn hL hi (by omega) (by omega) (o12 hM1) (m_one (d := 32) hM1 hP hd hB4 (fun hT2 => absurd hT2 hT) (fun j2 hj2 e12 _ h1 y har hM2 hth => ?_)) (fun h2 hR2 => lw_wide (k := 133 + (cc + 1)) (n := 6451 + 6 * (cc + 1)) (by omega) (by omega) (K g2 h2 hR2))
    obtain rfl : j = j2 := nI_c (by omega) (by omega) e1 e12
    have ho := xAg_at har (by decide) (xup_s (hp := h0) (k := 132) (e := .inl (.long, 1, .inr (.inl (vp_updL g 0 (oneV S j (xs (i + 1 + 1))).toInt64)))))
    exact ⟨o12 hM2, m_thr hM2 ⟨hth, ⟨S, y, isCl_m har (by decide) hC1, hM2, wf_s hw, ⟨_, ho⟩⟩, fun _ => ⟨_, ho, up0⟩⟩⟩
theorem lf_place (C0 : lw_At p s m meth c b L xs) (hKn : xKn dC dI dA s) (hL : L ≤ 2560) (hz : zU s.heap.size s) (hlt : l.stackTraces = false) : lwX p l e s m below meth c b dC dI dA L 418 := by
  intro gz i cc hp hcc hi hR K
  obtain ⟨S, x, hC, hM, hw, hO⟩ := id hR
  obtain ⟨lot, o1⟩ := hC.so
  obtain ⟨hx, hb, hr, hml, hown, hts, hX, hbl, hlocks, hgv⟩ := id C0
  have h7 := hC.nw.2
  have hl6 := hC.ev.2.2.1
  have hr16 := hC.rw.2
  have hP : wfP S.now S.nl := hw.1.1.2.1
  have hd := hw.1.2
  have hB4 : 1000 * cc + 400 < 2 ^ 31 := by omega
  intro H locs ls hho hS hl
  refine lv_aload_n hx hb (show decode code 418 = .ok (.aload_n 1, 1) by decide +kernel) rfl (lv_at hl 2 rfl) ?_
  refine lw_args (lv := LV s b i) (st := [.ref 0]) C0 hL rfl rfl 2 1 419 ⟨⟨by decide +kernel, by decide +kernel, by decide +kernel, by decide +kernel, by decide +kernel⟩, ⟨by decide +kernel, by decide +kernel, by decide +kernel, by decide +kernel, by decide +kernel⟩, trivial⟩ (by decide) (by omega) ?_ H locs ls hho hS hl
  intro H locs ls hho hS hl
  refine lv_aload_n hx hb (show decode code 431 = .ok (.aload_n 3, 1) by decide +kernel) rfl (lv_at hl 4 rfl) ?_
  have key : ∀ (Po : Int32 → xHp → Prop), xHC l 100 s.heap.size gz y_place method_4_code 5 [((0 : Nat), (10 : Nat), (13 : Nat), (13 : Nat))] [.ref 0, .int (xs (i + 1)), .int (xs (i + 1 + 1)), .ref 132] hp Po → (∀ (r : Int32) (hq : xHp) (g2 : Nat), Po r hq → LJ p l e s m below meth c b dC dI dA g2 (133 + cc + 1) (6451 + 6 * cc + 6) 435 (LV s b i) [.int r] hq) → LJ p l e s m below meth c b dC dI dA gz (133 + cc) (6451 + 6 * cc) 432 (LV s b i) ([.ref 0, .int (xs (i + 1)), .int (xs (i + 1 + 1)), .ref 132].reverse ++ []) hp := fun Po hM2 K2 =>
    lw_callH (r := []) (n := 4) C0 hKn hz (show decode code 432 = .ok (.invokestatic 62, 3) by decide +kernel) (wg5 173 (by decide +kernel) rfl) (wg5 174 (by decide +kernel) rfl) (wg1 0 (by decide +kernel) rfl) (wg5 175 (by decide +kernel) rfl) ⟨⟨by decide, by decide⟩, by decide +kernel⟩ (by decide) (by simp [xcs]) rfl (by omega) (by omega) hM2 (fun v hp' g2 h => K2 v hp' g2 h)
  by_cases hT : yhas (xs (i + 1)) (nI S.nl) = 0 ∨ (xs (i + 1 + 1)) < 0 ∨ 2 < (xs (i + 1 + 1))
  · refine key _ (h_place_t (d := 100) (by decide) o1 (t_So_place (d := 100 - 1) hlt hC (by decide) hT)) (fun r hq g2 hr2 => ?_) H locs ls hho hS hl
    obtain ⟨rfl, rfl⟩ := hr2
    refine lb_place C0 hKn hL hi (by omega) (by omega) (o12 hM) (m_place (d := 98) hM (fun _ h1 y har hM2 hth => ⟨o12 hM2, m_thr hM2 ⟨hth, ⟨S, y, isCl_m har (by decide) hC, hM2, wf_s hw, Out_ag har (by decide) hO⟩, fun z => absurd z (by decide)⟩⟩) (fun j hj e1 hw4 => ?_)) (fun h2 hR2 => lw_wide (k := 133 + (cc + 1)) (n := 6451 + 6 * (cc + 1)) (by omega) (by omega) (K g2 h2 hR2))
    rcases hT with z | z | z
    · exact (by rw [e1] at z; exact yhas_nI (by omega) hj z : False).elim
    · exact (by rcases hw4 with h | h | h <;> rw [h] at z <;> exact absurd z (by decide) : False).elim
    · exact (by rcases hw4 with h | h | h <;> rw [h] at z <;> exact absurd z (by decide) : False).elim
  · skip
    obtain ⟨j, hj, e1⟩ := yhas_of (by omega) (fun z => hT (Or.inl z))
    obtain ⟨k, hk, e2⟩ := nI_box (x := (xs (i + 1 + 1))) (B := 2) (by decide) (fun z => hT (Or.inr (Or.inl z))) (Int32.not_lt.mp (fun z => hT (Or.inr (Or.inr z))))
    have hw4 : (xs (i + 1 + 1)) = 0 ∨ (xs (i + 1 + 1)) = 1 ∨ (xs (i + 1 + 1)) = 2 := by
      rw [e2]
      rcases (show k = 0 ∨ k = 1 ∨ k = 2 by omega) with rfl | rfl | rfl <;> decide
    refine key _ (h_place_n (d := 100) (x := plcV S j (xs (i + 1 + 1))) (P := fun hq => xAg hp hq [15, 10] ∧ isCl hq S) (by decide) o1 (fun hq h => Out_ag h.1 (by decide) hO) (n_So_place (d := 100 - 1) hC (by decide) hj e1 hw4)) (fun r hq g2 hr2 => ?_) H locs ls hho hS hl
    obtain ⟨rfl, h0, g, ⟨ha, hC0⟩, rfl⟩ := hr2
    have hM0 := mmt hM ha (by decide)
    have har0 : xAg h0 (xup h0 132 (.inl (.long, 1, .inr (.inl (vp_updL g 0 (plcV S j (xs (i + 1 + 1))).toInt64))))) [132] := xAg_up (xAg_rf _ _) (by simp)
    have hM1 := isMM_ag har0 (fun k hk => by simp at hk; omega) hM0
    have hC1 := isCl_m har0 (by decide) hC0
    refine lb_place C0 hKn hL hi (by omega) (by omega) (o12 hM1) (m_place (d := 98) hM1 (fun hT2 => absurd hT2 hT) (fun j2 hj2 e12 _ h1 y har hM2 hth => ?_)) (fun h2 hR2 => lw_wide (k := 133 + (cc + 1)) (n := 6451 + 6 * (cc + 1)) (by omega) (by omega) (K g2 h2 hR2))
    obtain rfl : j = j2 := nI_c (by omega) (by omega) e1 e12
    have ho := xAg_at har (by decide) (xup_s (hp := h0) (k := 132) (e := .inl (.long, 1, .inr (.inl (vp_updL g 0 (plcV S j (xs (i + 1 + 1))).toInt64)))))
    exact ⟨o12 hM2, m_thr hM2 ⟨hth, ⟨S, y, isCl_m har (by decide) hC1, hM2, wf_s hw, ⟨_, ho⟩⟩, fun _ => ⟨_, ho, up0⟩⟩⟩
theorem lf_row (C0 : lw_At p s m meth c b L xs) (hKn : xKn dC dI dA s) (hL : L ≤ 2560) (hz : zU s.heap.size s) (hlt : l.stackTraces = false) : lwX p l e s m below meth c b dC dI dA L 1594 := by
  intro gz i cc hp hcc hi hR K
  obtain ⟨S, x, hC, hM, hw, hO⟩ := id hR
  obtain ⟨lot, o1⟩ := hC.so
  obtain ⟨hx, hb, hr, hml, hown, hts, hX, hbl, hlocks, hgv⟩ := id C0
  have h7 := hC.nw.2
  have hl6 := hC.ev.2.2.1
  have hr16 := hC.rw.2
  have hP : wfP S.now S.nl := hw.1.1.2.1
  have hd := hw.1.2
  have hB4 : 1000 * cc + 400 < 2 ^ 31 := by omega
  intro H locs ls hho hS hl
  refine lv_aload_n hx hb (show decode code 1594 = .ok (.aload_n 1, 1) by decide +kernel) rfl (lv_at hl 2 rfl) ?_
  refine lw_args (lv := LV s b i) (st := [.ref 0]) C0 hL rfl rfl 1 1 1595 ⟨⟨by decide +kernel, by decide +kernel, by decide +kernel, by decide +kernel, by decide +kernel⟩, trivial⟩ (by decide) (by omega) ?_ H locs ls hho hS hl
  intro H locs ls hho hS hl
  refine lv_aload_n hx hb (show decode code 1601 = .ok (.aload_n 3, 1) by decide +kernel) rfl (lv_at hl 4 rfl) ?_
  have key : ∀ (Po : Int32 → xHp → Prop), xHC l 100 s.heap.size gz y_row method_5_code 4 [((0 : Nat), (8 : Nat), (11 : Nat), (13 : Nat))] [.ref 0, .int (xs (i + 1)), .ref 132] hp Po → (∀ (r : Int32) (hq : xHp) (g2 : Nat), Po r hq → LJ p l e s m below meth c b dC dI dA g2 (133 + cc + 1) (6451 + 6 * cc + 6) 1605 (LV s b i) [.int r] hq) → LJ p l e s m below meth c b dC dI dA gz (133 + cc) (6451 + 6 * cc) 1602 (LV s b i) ([.ref 0, .int (xs (i + 1)), .ref 132].reverse ++ []) hp := fun Po hM2 K2 =>
    lw_callH (r := []) (n := 3) C0 hKn hz (show decode code 1602 = .ok (.invokestatic 227, 3) by decide +kernel) (wg5 189 (by decide +kernel) rfl) (wg5 190 (by decide +kernel) rfl) (wg1 0 (by decide +kernel) rfl) (wg5 191 (by decide +kernel) rfl) ⟨⟨by decide, by decide⟩, by decide +kernel⟩ (by decide) (by simp [xcs]) rfl (by omega) (by omega) hM2 (fun v hp' g2 h => K2 v hp' g2 h)
  by_cases hT : (xs (i + 1)) < 0 ∨ nI S.nr ≤ (xs (i + 1))
  · refine key _ (h_row_t (d := 100) (by decide) o1 (t_So_row (d := 100 - 1) hlt hC (by decide) hT)) (fun r hq g2 hr2 => ?_) H locs ls hho hS hl
    obtain ⟨rfl, rfl⟩ := hr2
    refine lb_row C0 hKn hL hi (by omega) (by omega) (o12 hM) (m_row (d := 99) hM (fun _ h1 y har hM2 hth => ⟨o12 hM2, m_thr hM2 ⟨hth, ⟨S, y, isCl_m har (by decide) hC, hM2, wf_s hw, Out_ag har (by decide) hO⟩, fun z => absurd z (by decide)⟩⟩) (fun j hj e1 => ?_)) (fun h2 hR2 => lw_wide (k := 133 + (cc + 1)) (n := 6451 + 6 * (cc + 1)) (by omega) (by omega) (K g2 h2 hR2))
    rcases hT with z | z
    · exact absurd z (by rw [e1]; exact nI_neg (by omega))
    · exact absurd z (by rw [e1]; exact nI_ge hj (by omega))
  · skip
    obtain ⟨j, hjb, e1⟩ := nI_of (fun z => hT (Or.inl z))
    have hj : j < S.nr := by
      rcases Nat.lt_or_ge j S.nr with z | z
      · exact z
      · exact absurd (Or.inr (by rw [e1]; exact nI_le z hjb)) hT
    refine key _ (h_row_n (d := 100) (x := S.R j) (P := fun hq => xAg hp hq [15, 10] ∧ isCl hq S) (by decide) o1 (fun hq h => Out_ag h.1 (by decide) hO) (n_So_row (d := 100 - 1) hC (by decide) hj e1)) (fun r hq g2 hr2 => ?_) H locs ls hho hS hl
    obtain ⟨rfl, h0, g, ⟨ha, hC0⟩, rfl⟩ := hr2
    have hM0 := mmt hM ha (by decide)
    have har0 : xAg h0 (xup h0 132 (.inl (.long, 1, .inr (.inl (vp_updL g 0 (S.R j)))))) [132] := xAg_up (xAg_rf _ _) (by simp)
    have hM1 := isMM_ag har0 (fun k hk => by simp at hk; omega) hM0
    have hC1 := isCl_m har0 (by decide) hC0
    refine lb_row C0 hKn hL hi (by omega) (by omega) (o12 hM1) (m_row (d := 99) hM1 (fun hT2 => absurd hT2 hT) (fun j2 hj2 e12 h1 y har hM2 hth => ?_)) (fun h2 hR2 => lw_wide (k := 133 + (cc + 1)) (n := 6451 + 6 * (cc + 1)) (by omega) (by omega) (K g2 h2 hR2))
    obtain rfl : j = j2 := nI_c (by omega) (by omega) e1 e12
    have ho := xAg_at har (by decide) (xup_s (hp := h0) (k := 132) (e := .inl (.long, 1, .inr (.inl (vp_updL g 0 (S.R j))))))
    exact ⟨o12 hM2, m_thr hM2 ⟨hth, ⟨S, y, isCl_m har (by decide) hC1, hM2, wf_s hw, ⟨_, ho⟩⟩, fun _ => ⟨_, ho, up0⟩⟩⟩
end LWF
