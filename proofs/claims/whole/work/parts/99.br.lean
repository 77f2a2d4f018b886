/-! ===== the law's helpers one, place, row ===== -/
def xHQ (b : Nat) (dC : Nat → ClassId) (dI : Nat → Nat → Nat) (dA : FieldType → ClassId) (Po : Int32 → xHp → Prop) : Array Value → State → Outcome → State → Prop := fun _ st o t => (∃ (r : Int32) (hp' : xHp) (g2 : Nat), o = .returned (some (.int r)) ∧ Po r hp' ∧ xHo b 0 g2 dC dI dA hp' t.heap) ∧ va_F (fun q => b ≤ q) st t
def xHC (l : Launch) (d b gz : Nat) (y : MethodName) (bytes : ByteArray) (maxL : Nat) (hh : List (Nat × Nat × Nat × Nat)) (args : List Value) (hp : xHp) (Po : Int32 → xHp → Prop) : Prop :=
  ∀ (dC : Nat → ClassId) (dI : Nat → Nat → Nat) (dA : FieldType → ClassId), Met l y (Cond.codeWith y bytes maxL (some .int) hh :: wG) (xTRm d) (xTP b gz dC dI dA hp args) (xHQ b dC dI dA Po) 1 6 (fun q => b ≤ q)
theorem xTP_blind {b gz : Nat} {dC : Nat → ClassId} {dI : Nat → Nat → Nat} {dA : FieldType → ClassId} {hp : xHp} {args : List Value} : FrameBlind (xTP b gz dC dI dA hp args) :=
  fun _ U g mk q => ⟨q.1, ⟨q.2.1.1, xKn_same (u := U) (U := U.calling g mk _) rfl q.2.1.2⟩, vx_Zq.moved (u := U) (U := U.calling g mk _) (Vm.Alike.refl U.vm) q.2.2.1, vx_Zq.moved (u := U) (U := U.calling g mk _) (Vm.Alike.refl U.vm) q.2.2.2.1, fun w hw => va_Nw.same (u := U) (U := U.calling g mk _) (atB_on w hw) rfl (q.2.2.2.2 w hw)⟩
theorem at_before {b : Nat} {s : State} {args : Array Value} (hts : ∀ w ∈ wG, w.before args s = true) (hz : zU b s) : ∀ w ∈ atX, w.before args s = true := vx_hat (B := atB) (fun w hw => hts w (List.mem_filter.mpr ⟨atX_in w (List.mem_filter.mp hw).1, (List.mem_filter.mp hw).2⟩)) (fun w hw => hw) (fun w hw => va_Nw.use (atB_on w hw) (hz.2.2 w hw))
set_option maxRecDepth 100000 in
theorem at_cast : Cond.castable nse nse ∈ atX := by decide +kernel
section HL2
variable {l : Launch} {b d gz : Nat} {hp : xHp} {fs : List Value}
def y_one : MethodName := ⟨"SunnyOnesLaw", "one", "(LSunnyOnes;II[J)I"⟩
theorem h_one_n {x1 x2 : Int32} {x : Int32} {P : xHp → Prop} (hd6 : 30 ≤ d) (hq0 : hp.1 0 = .inr (0, fs)) (hP : ∀ hq, P hq → Out hq) (hM : xNC l (d - 1) b gz m_So_one [.ref 0, .int x1, .int x2] hp (fun v hq => v = some (.int x) ∧ P hq)) : xHC l d b gz y_one method_3_code 5 [(0, 10, 13, 13)] [.ref 0, .int x1, .int x2, .ref 132] hp (fun r hq => r = 0 ∧ ∃ h0 g, P h0 ∧ hq = xup h0 132 (.inl (.long, 1, .inr (.inl (vp_updL g 0 x.toInt64))))) := by
  intro dC dI dA
  refine va_MetW (cc := method_3_code) (maxL := 5) (ret := some .int) (hh := [(0, 10, 13, 13)]) (by decide) rfl (fun p e s m args below meth c s₁ B hml hP => ?_)
  obtain ⟨rfl, ⟨hho, hkn⟩, hz⟩ := hP
  have hx := B.exec
  have hb := B.bytes
  have hr := B.returns
  have hts0 := atoms_spec (ws := Cond.codeWith y_one method_3_code 5 (some .int) [(0, 10, 13, 13)] :: wG) B.pre
  have hts : ∀ w ∈ wG, w.before _ s = true := fun w hw => hts0 w (List.mem_cons_of_mem _ hw)
  have hown : s.vm.findClass "SunnyOnesLaw" = some m.cls := findClass_of_methodNamed B.named
  have hS : va_S (fun q => b ≤ q) s.heap s.heap [] := va_S.rf
  have hl0 := lv_entry ([.ref (b + 0), .int x1, .int x2, .ref (b + 132)]) (n := 5) (Nat.le_of_ble_eq_true rfl)
  show W p l e (xTRm d) s m _ below meth c s.heap [] 0 0 _ (entryFrame m ([.ref (b + 0), .int x1, .int x2, .ref (b + 132)] : List Value).toArray 5)
  rw [lg_entry_eq]
  generalize (lg_sl ([.ref (b + 0), .int x1, .int x2, .ref (b + 132)]) ++ List.replicate (5 - (lg_sl ([.ref (b + 0), .int x1, .int x2, .ref (b + 132)])).length) Slot.unset).toArray = ls at hl0 ⊢
  have hl1 : lv_has ls 5 [(0, .ref (b + 0)), (1, .int x1), (2, .int x2), (3, .ref (b + 132))] := hl0
  refine lv_aload_n hx hb (show decode method_3_code 0 = .ok (.aload_n 3, 1) by decide +kernel) rfl (lv_at hl1 3 rfl) ?_
  refine lv_iconst (v := 0) hx hb (show decode method_3_code 1 = .ok (.iconst 0, 1) by decide +kernel) (by decide) ?_
  refine lv_aload_n hx hb (show decode method_3_code 2 = .ok (.aload_n 0, 1) by decide +kernel) rfl (lv_at hl1 0 rfl) ?_
  refine lv_iload_n hx hb (show decode method_3_code 3 = .ok (.iload_n 1, 1) by decide +kernel) rfl (lv_at hl1 1 rfl) ?_
  refine lv_iload_n hx hb (show decode method_3_code 4 = .ok (.iload_n 2, 1) by decide +kernel) rfl (lv_at hl1 2 rfl) ?_
  have h9 : xmL m_So_one ≤ 21 := by decide
  refine wl_callN (D := d - 1) (As := [.int x1, .int x2]) (r := [.int 0, .ref 132]) (a := 0) ⟨hx, hb, hml, hown, hts⟩ hkn (show decode method_3_code 5 = .ok (.invokevirtual 7, 3) by decide +kernel) (wg5 108 (by decide +kernel) rfl) kd_So_one hq0 (by simp [xcs, Value.category]) rfl rfl rfl ⟨by show d - 1 + 1 ≤ d; omega, by show 8 + (xmL m_So_one + 11) + 40 * (d - 1) ≤ 40 * d; omega⟩ ⟨Nat.zero_le _, Nat.zero_le _⟩ hM hho hS hl1.1 (fun v hq hv H1 locs1 hho1 hS1 => ?_)
  obtain ⟨rfl, hPq⟩ := hv
  obtain ⟨g, ho⟩ := hP hq hPq
  refine lv_i2l (v := x.toInt64) hx hb (show decode method_3_code 8 = .ok (.i2l, 1) by decide +kernel) rfl ?_
  refine wl_last (a := 132) (i := 0) ⟨hx, hb, hml, hown, hts⟩ hkn (show decode method_3_code 9 = .ok (.lastore, 1) by decide +kernel) ho (vp_in_nI (n := 0) (N := 1) (by decide) (by decide)) hho1 hS1 (fun H2 locs2 hho2 hS2 => ?_)
  refine lv_goto (tgt := 17) hx hb (show decode method_3_code 10 = .ok (.goto 7, 3) by decide +kernel) (by decide) ?_
  refine lv_iconst (v := 0) hx hb (show decode method_3_code 17 = .ok (.iconst 0, 1) by decide +kernel) (by decide) ?_
  refine W.widen (k := 1) (n := 6) (by decide) (by decide) ?_
  exact W.iret (v := 0) hx hb hr (fun t ht hW => ⟨⟨0, _, gz, rfl, ⟨rfl, hq, g, hPq, rfl⟩, by rw [ht]; exact hho2⟩, hS2.F ht⟩) hS2.2.2 (show decode method_3_code 18 = .ok (.ireturn, 1) by decide +kernel)
theorem h_one_t {x1 x2 : Int32} (hd6 : 30 ≤ d) (hq0 : hp.1 0 = .inr (0, fs)) (hM : xTC l (d - 1) b gz m_So_one [.ref 0, .int x1, .int x2] hp) : xHC l d b gz y_one method_3_code 5 [(0, 10, 13, 13)] [.ref 0, .int x1, .int x2, .ref 132] hp (fun r hq => r = 1 ∧ hq = hp) := by
  intro dC dI dA
  refine va_MetW (cc := method_3_code) (maxL := 5) (ret := some .int) (hh := [(0, 10, 13, 13)]) (by decide) rfl (fun p e s m args below meth c s₁ B hml hP => ?_)
  obtain ⟨rfl, ⟨hho, hkn⟩, hz⟩ := hP
  have hx := B.exec
  have hb := B.bytes
  have hr := B.returns
  have hts0 := atoms_spec (ws := Cond.codeWith y_one method_3_code 5 (some .int) [(0, 10, 13, 13)] :: wG) B.pre
  have hts : ∀ w ∈ wG, w.before _ s = true := fun w hw => hts0 w (List.mem_cons_of_mem _ hw)
  have hown : s.vm.findClass "SunnyOnesLaw" = some m.cls := findClass_of_methodNamed B.named
  have hS : va_S (fun q => b ≤ q) s.heap s.heap [] := va_S.rf
  have hl0 := lv_entry ([.ref (b + 0), .int x1, .int x2, .ref (b + 132)]) (n := 5) (Nat.le_of_ble_eq_true rfl)
  show W p l e (xTRm d) s m _ below meth c s.heap [] 0 0 _ (entryFrame m ([.ref (b + 0), .int x1, .int x2, .ref (b + 132)] : List Value).toArray 5)
  rw [lg_entry_eq]
  generalize (lg_sl ([.ref (b + 0), .int x1, .int x2, .ref (b + 132)]) ++ List.replicate (5 - (lg_sl ([.ref (b + 0), .int x1, .int x2, .ref (b + 132)])).length) Slot.unset).toArray = ls at hl0 ⊢
  have hl1 : lv_has ls 5 [(0, .ref (b + 0)), (1, .int x1), (2, .int x2), (3, .ref (b + 132))] := hl0
  refine lv_aload_n hx hb (show decode method_3_code 0 = .ok (.aload_n 3, 1) by decide +kernel) rfl (lv_at hl1 3 rfl) ?_
  refine lv_iconst (v := 0) hx hb (show decode method_3_code 1 = .ok (.iconst 0, 1) by decide +kernel) (by decide) ?_
  refine lv_aload_n hx hb (show decode method_3_code 2 = .ok (.aload_n 0, 1) by decide +kernel) rfl (lv_at hl1 0 rfl) ?_
  refine lv_iload_n hx hb (show decode method_3_code 3 = .ok (.iload_n 1, 1) by decide +kernel) rfl (lv_at hl1 1 rfl) ?_
  refine lv_iload_n hx hb (show decode method_3_code 4 = .ok (.iload_n 2, 1) by decide +kernel) rfl (lv_at hl1 2 rfl) ?_
  have h9 : xmL m_So_one ≤ 21 := by decide
  obtain ⟨⟨w1, w2, ⟨g1, g2, g3⟩, g4⟩, w3, w4, q, hcl, hqc⟩ := kd_So_one
  obtain ⟨S1, S2, S3⟩ := id hho
  have hat := xW_at (b := b) (dA := dA) (xBd_r S2 hq0 hcl) hq0
  rw [xcE_o] at hat
  have hrecv := va_recv hkn.1 S3 hcl hat
  rw [hqc] at hrecv
  have hroom' : (xTRm (d - 1)).frames + 1 ≤ (xTRm d).frames ∧ 8 + (xmL m_So_one + 11) + (xTRm (d - 1)).locals ≤ (xTRm d).locals := ⟨by show d - 1 + 1 ≤ d; omega, by show 8 + (xmL m_So_one + 11) + 40 * (d - 1) ≤ 40 * d; omega⟩
  have hpre : PreV s s.heap (xmY m_So_one).cls (b + 0) (xTP b gz dC dI dA hp [.ref 0, .int x1, .int x2]) [.int x1, .int x2] := ⟨xTP_blind, hrecv, fun U hU hW => ⟨rfl, ⟨by rw [hU]; exact hho, xKn_warm hW hkn⟩, zU_warm hz hS hU hW⟩⟩
  have cw : CallW (xTRm d) s _ "SunnyOnesLaw" (xmY m_So_one).cls 7 (xmY m_So_one) (xmB m_So_one) (xmL m_So_one) (xmR m_So_one) (xwY m_So_one) (xTRm (d - 1)) 1 6 (xmN m_So_one) :=
    ⟨callB_of (xmN m_So_one) hts (xGood w2) rfl rfl rfl (hts _ w1) (hts _ (wg5 108 (by decide +kernel) rfl)) ⟨g1, g2, g3⟩ hroom', hts _ w3, hts _ w4⟩
  refine vx_calli (S := Unit) (SX := Nat) (A0 := fun q => b ≤ q) (vx_runV (As := [.int x1, .int x2]) (rest := [.int 0, .ref (b + 132)]) ⟨hx, hb, hml, hown, hts⟩ (hM dC dI dA) cw hpre rfl rfl hl1.1 rfl (lv_room (by simp [Value.category])) (show decode method_3_code 5 = .ok (.invokevirtual 7, 3) by decide +kernel) ⟨by show 0 + 1 ≤ 1; decide, by show 0 + 6 ≤ 6; decide⟩) hS (fun q _ h => h.elim) (fun q h => h) (fun q _ h => h) (fun E ce q9 u t H1 locs1 ht ha _ hBX _ _ hS1 hce hcv hcl9 => ?_) (fun r u t H1 locs1 _ _ hf => hf.elim)
  obtain ⟨rfl, hho1⟩ := hBX
  rw [ht] at hho1
  refine vx_catch (own := "SunnyOnesLaw") (name := nse) (E := nse) hown [] ⟨0, 10, 13, 13⟩ [] ((vx_table (x := y_one) B (hts0 _ List.mem_cons_self)).trans rfl) (fun z hz => nomatch hz) (by decide) (by decide) (hts _ (wg5 107 (by decide +kernel) rfl)) (at_before hts hz _ at_cast) hce hcv hcl9 ?_
  show W p l e (xTRm d) s m _ below meth c H1 locs1 _ _ _ (F0 m 13 ls [.ref q9])
  refine lv_astore (lv' := (4, .ref q9) :: [(0, .ref (b + 0)), (1, .int x1), (2, .int x2), (3, .ref (b + 132))]) hx hb (show decode method_3_code 13 = .ok (.astore 4, 2) by decide +kernel) hl1 (by decide) rfl (fun ls hl => ?_)
  refine lv_iconst (v := 1) hx hb (show decode method_3_code 15 = .ok (.iconst 1, 1) by decide +kernel) (by decide) ?_
  refine W.widen (k := 1) (n := 6) (by decide) (by decide) ?_
  exact W.iret (v := 1) hx hb hr (fun t ht hW => ⟨⟨1, _, u, rfl, ⟨rfl, rfl⟩, by rw [ht]; exact hho1⟩, hS1.F ht⟩) hS1.2.2 (show decode method_3_code 16 = .ok (.ireturn, 1) by decide +kernel)
def y_place : MethodName := ⟨"SunnyOnesLaw", "place", "(LSunnyOnes;II[J)I"⟩
theorem h_place_n {x1 x2 : Int32} {x : Int32} {P : xHp → Prop} (hd6 : 30 ≤ d) (hq0 : hp.1 0 = .inr (0, fs)) (hP : ∀ hq, P hq → Out hq) (hM : xNC l (d - 1) b gz m_So_place [.ref 0, .int x1, .int x2] hp (fun v hq => v = some (.int x) ∧ P hq)) : xHC l d b gz y_place method_4_code 5 [(0, 10, 13, 13)] [.ref 0, .int x1, .int x2, .ref 132] hp (fun r hq => r = 0 ∧ ∃ h0 g, P h0 ∧ hq = xup h0 132 (.inl (.long, 1, .inr (.inl (vp_updL g 0 x.toInt64))))) := by
  intro dC dI dA
  refine va_MetW (cc := method_4_code) (maxL := 5) (ret := some .int) (hh := [(0, 10, 13, 13)]) (by decide) rfl (fun p e s m args below meth c s₁ B hml hP => ?_)
  obtain ⟨rfl, ⟨hho, hkn⟩, hz⟩ := hP
  have hx := B.exec
  have hb := B.bytes
  have hr := B.returns
  have hts0 := atoms_spec (ws := Cond.codeWith y_place method_4_code 5 (some .int) [(0, 10, 13, 13)] :: wG) B.pre
  have hts : ∀ w ∈ wG, w.before _ s = true := fun w hw => hts0 w (List.mem_cons_of_mem _ hw)
  have hown : s.vm.findClass "SunnyOnesLaw" = some m.cls := findClass_of_methodNamed B.named
  have hS : va_S (fun q => b ≤ q) s.heap s.heap [] := va_S.rf
  have hl0 := lv_entry ([.ref (b + 0), .int x1, .int x2, .ref (b + 132)]) (n := 5) (Nat.le_of_ble_eq_true rfl)
  show W p l e (xTRm d) s m _ below meth c s.heap [] 0 0 _ (entryFrame m ([.ref (b + 0), .int x1, .int x2, .ref (b + 132)] : List Value).toArray 5)
  rw [lg_entry_eq]
  generalize (lg_sl ([.ref (b + 0), .int x1, .int x2, .ref (b + 132)]) ++ List.replicate (5 - (lg_sl ([.ref (b + 0), .int x1, .int x2, .ref (b + 132)])).length) Slot.unset).toArray = ls at hl0 ⊢
  have hl1 : lv_has ls 5 [(0, .ref (b + 0)), (1, .int x1), (2, .int x2), (3, .ref (b + 132))] := hl0
  refine lv_aload_n hx hb (show decode method_4_code 0 = .ok (.aload_n 3, 1) by decide +kernel) rfl (lv_at hl1 3 rfl) ?_
  refine lv_iconst (v := 0) hx hb (show decode method_4_code 1 = .ok (.iconst 0, 1) by decide +kernel) (by decide) ?_
  refine lv_aload_n hx hb (show decode method_4_code 2 = .ok (.aload_n 0, 1) by decide +kernel) rfl (lv_at hl1 0 rfl) ?_
  refine lv_iload_n hx hb (show decode method_4_code 3 = .ok (.iload_n 1, 1) by decide +kernel) rfl (lv_at hl1 1 rfl) ?_
  refine lv_iload_n hx hb (show decode method_4_code 4 = .ok (.iload_n 2, 1) by decide +kernel) rfl (lv_at hl1 2 rfl) ?_
  have h9 : xmL m_So_place ≤ 21 := by decide
  refine wl_callN (D := d - 1) (As := [.int x1, .int x2]) (r := [.int 0, .ref 132]) (a := 0) ⟨hx, hb, hml, hown, hts⟩ hkn (show decode method_4_code 5 = .ok (.invokevirtual 15, 3) by decide +kernel) (wg5 176 (by decide +kernel) rfl) kd_So_place hq0 (by simp [xcs, Value.category]) rfl rfl rfl ⟨by show d - 1 + 1 ≤ d; omega, by show 8 + (xmL m_So_place + 11) + 40 * (d - 1) ≤ 40 * d; omega⟩ ⟨Nat.zero_le _, Nat.zero_le _⟩ hM hho hS hl1.1 (fun v hq hv H1 locs1 hho1 hS1 => ?_)
  obtain ⟨rfl, hPq⟩ := hv
  obtain ⟨g, ho⟩ := hP hq hPq
  refine lv_i2l (v := x.toInt64) hx hb (show decode method_4_code 8 = .ok (.i2l, 1) by decide +kernel) rfl ?_
  refine wl_last (a := 132) (i := 0) ⟨hx, hb, hml, hown, hts⟩ hkn (show decode method_4_code 9 = .ok (.lastore, 1) by decide +kernel) ho (vp_in_nI (n := 0) (N := 1) (by decide) (by decide)) hho1 hS1 (fun H2 locs2 hho2 hS2 => ?_)
  refine lv_goto (tgt := 17) hx hb (show decode method_4_code 10 = .ok (.goto 7, 3) by decide +kernel) (by decide) ?_
  refine lv_iconst (v := 0) hx hb (show decode method_4_code 17 = .ok (.iconst 0, 1) by decide +kernel) (by decide) ?_
  refine W.widen (k := 1) (n := 6) (by decide) (by decide) ?_
  exact W.iret (v := 0) hx hb hr (fun t ht hW => ⟨⟨0, _, gz, rfl, ⟨rfl, hq, g, hPq, rfl⟩, by rw [ht]; exact hho2⟩, hS2.F ht⟩) hS2.2.2 (show decode method_4_code 18 = .ok (.ireturn, 1) by decide +kernel)
theorem h_place_t {x1 x2 : Int32} (hd6 : 30 ≤ d) (hq0 : hp.1 0 = .inr (0, fs)) (hM : xTC l (d - 1) b gz m_So_place [.ref 0, .int x1, .int x2] hp) : xHC l d b gz y_place method_4_code 5 [(0, 10, 13, 13)] [.ref 0, .int x1, .int x2, .ref 132] hp (fun r hq => r = 1 ∧ hq = hp) := by
  intro dC dI dA
  refine va_MetW (cc := method_4_code) (maxL := 5) (ret := some .int) (hh := [(0, 10, 13, 13)]) (by decide) rfl (fun p e s m args below meth c s₁ B hml hP => ?_)
  obtain ⟨rfl, ⟨hho, hkn⟩, hz⟩ := hP
  have hx := B.exec
  have hb := B.bytes
  have hr := B.returns
  have hts0 := atoms_spec (ws := Cond.codeWith y_place method_4_code 5 (some .int) [(0, 10, 13, 13)] :: wG) B.pre
  have hts : ∀ w ∈ wG, w.before _ s = true := fun w hw => hts0 w (List.mem_cons_of_mem _ hw)
  have hown : s.vm.findClass "SunnyOnesLaw" = some m.cls := findClass_of_methodNamed B.named
  have hS : va_S (fun q => b ≤ q) s.heap s.heap [] := va_S.rf
  have hl0 := lv_entry ([.ref (b + 0), .int x1, .int x2, .ref (b + 132)]) (n := 5) (Nat.le_of_ble_eq_true rfl)
  show W p l e (xTRm d) s m _ below meth c s.heap [] 0 0 _ (entryFrame m ([.ref (b + 0), .int x1, .int x2, .ref (b + 132)] : List Value).toArray 5)
  rw [lg_entry_eq]
  generalize (lg_sl ([.ref (b + 0), .int x1, .int x2, .ref (b + 132)]) ++ List.replicate (5 - (lg_sl ([.ref (b + 0), .int x1, .int x2, .ref (b + 132)])).length) Slot.unset).toArray = ls at hl0 ⊢
  have hl1 : lv_has ls 5 [(0, .ref (b + 0)), (1, .int x1), (2, .int x2), (3, .ref (b + 132))] := hl0
  refine lv_aload_n hx hb (show decode method_4_code 0 = .ok (.aload_n 3, 1) by decide +kernel) rfl (lv_at hl1 3 rfl) ?_
  refine lv_iconst (v := 0) hx hb (show decode method_4_code 1 = .ok (.iconst 0, 1) by decide +kernel) (by decide) ?_
  refine lv_aload_n hx hb (show decode method_4_code 2 = .ok (.aload_n 0, 1) by decide +kernel) rfl (lv_at hl1 0 rfl) ?_
  refine lv_iload_n hx hb (show decode method_4_code 3 = .ok (.iload_n 1, 1) by decide +kernel) rfl (lv_at hl1 1 rfl) ?_
  refine lv_iload_n hx hb (show decode method_4_code 4 = .ok (.iload_n 2, 1) by decide +kernel) rfl (lv_at hl1 2 rfl) ?_
  have h9 : xmL m_So_place ≤ 21 := by decide
  obtain ⟨⟨w1, w2, ⟨g1, g2, g3⟩, g4⟩, w3, w4, q, hcl, hqc⟩ := kd_So_place
  obtain ⟨S1, S2, S3⟩ := id hho
  have hat := xW_at (b := b) (dA := dA) (xBd_r S2 hq0 hcl) hq0
  rw [xcE_o] at hat
  have hrecv := va_recv hkn.1 S3 hcl hat
  rw [hqc] at hrecv
  have hroom' : (xTRm (d - 1)).frames + 1 ≤ (xTRm d).frames ∧ 8 + (xmL m_So_place + 11) + (xTRm (d - 1)).locals ≤ (xTRm d).locals := ⟨by show d - 1 + 1 ≤ d; omega, by show 8 + (xmL m_So_place + 11) + 40 * (d - 1) ≤ 40 * d; omega⟩
  have hpre : PreV s s.heap (xmY m_So_place).cls (b + 0) (xTP b gz dC dI dA hp [.ref 0, .int x1, .int x2]) [.int x1, .int x2] := ⟨xTP_blind, hrecv, fun U hU hW => ⟨rfl, ⟨by rw [hU]; exact hho, xKn_warm hW hkn⟩, zU_warm hz hS hU hW⟩⟩
  have cw : CallW (xTRm d) s _ "SunnyOnesLaw" (xmY m_So_place).cls 15 (xmY m_So_place) (xmB m_So_place) (xmL m_So_place) (xmR m_So_place) (xwY m_So_place) (xTRm (d - 1)) 1 6 (xmN m_So_place) :=
    ⟨callB_of (xmN m_So_place) hts (xGood w2) rfl rfl rfl (hts _ w1) (hts _ (wg5 176 (by decide +kernel) rfl)) ⟨g1, g2, g3⟩ hroom', hts _ w3, hts _ w4⟩
  refine vx_calli (S := Unit) (SX := Nat) (A0 := fun q => b ≤ q) (vx_runV (As := [.int x1, .int x2]) (rest := [.int 0, .ref (b + 132)]) ⟨hx, hb, hml, hown, hts⟩ (hM dC dI dA) cw hpre rfl rfl hl1.1 rfl (lv_room (by simp [Value.category])) (show decode method_4_code 5 = .ok (.invokevirtual 15, 3) by decide +kernel) ⟨by show 0 + 1 ≤ 1; decide, by show 0 + 6 ≤ 6; decide⟩) hS (fun q _ h => h.elim) (fun q h => h) (fun q _ h => h) (fun E ce q9 u t H1 locs1 ht ha _ hBX _ _ hS1 hce hcv hcl9 => ?_) (fun r u t H1 locs1 _ _ hf => hf.elim)
  obtain ⟨rfl, hho1⟩ := hBX
  rw [ht] at hho1
  refine vx_catch (own := "SunnyOnesLaw") (name := nse) (E := nse) hown [] ⟨0, 10, 13, 13⟩ [] ((vx_table (x := y_place) B (hts0 _ List.mem_cons_self)).trans rfl) (fun z hz => nomatch hz) (by decide) (by decide) (hts _ (wg5 107 (by decide +kernel) rfl)) (at_before hts hz _ at_cast) hce hcv hcl9 ?_
  show W p l e (xTRm d) s m _ below meth c H1 locs1 _ _ _ (F0 m 13 ls [.ref q9])
  refine lv_astore (lv' := (4, .ref q9) :: [(0, .ref (b + 0)), (1, .int x1), (2, .int x2), (3, .ref (b + 132))]) hx hb (show decode method_4_code 13 = .ok (.astore 4, 2) by decide +kernel) hl1 (by decide) rfl (fun ls hl => ?_)
  refine lv_iconst (v := 1) hx hb (show decode method_4_code 15 = .ok (.iconst 1, 1) by decide +kernel) (by decide) ?_
  refine W.widen (k := 1) (n := 6) (by decide) (by decide) ?_
  exact W.iret (v := 1) hx hb hr (fun t ht hW => ⟨⟨1, _, u, rfl, ⟨rfl, rfl⟩, by rw [ht]; exact hho1⟩, hS1.F ht⟩) hS1.2.2 (show decode method_4_code 16 = .ok (.ireturn, 1) by decide +kernel)
def y_row : MethodName := ⟨"SunnyOnesLaw", "row", "(LSunnyOnes;I[J)I"⟩
theorem h_row_n {x1 : Int32} {x : Int64} {P : xHp → Prop} (hd6 : 30 ≤ d) (hq0 : hp.1 0 = .inr (0, fs)) (hP : ∀ hq, P hq → Out hq) (hM : xNC l (d - 1) b gz m_So_row [.ref 0, .int x1] hp (fun v hq => v = some (.long x) ∧ P hq)) : xHC l d b gz y_row method_5_code 4 [(0, 8, 11, 13)] [.ref 0, .int x1, .ref 132] hp (fun r hq => r = 0 ∧ ∃ h0 g, P h0 ∧ hq = xup h0 132 (.inl (.long, 1, .inr (.inl (vp_updL g 0 x))))) := by
  intro dC dI dA
  refine va_MetW (cc := method_5_code) (maxL := 4) (ret := some .int) (hh := [(0, 8, 11, 13)]) (by decide) rfl (fun p e s m args below meth c s₁ B hml hP => ?_)
  obtain ⟨rfl, ⟨hho, hkn⟩, hz⟩ := hP
  have hx := B.exec
  have hb := B.bytes
  have hr := B.returns
  have hts0 := atoms_spec (ws := Cond.codeWith y_row method_5_code 4 (some .int) [(0, 8, 11, 13)] :: wG) B.pre
  have hts : ∀ w ∈ wG, w.before _ s = true := fun w hw => hts0 w (List.mem_cons_of_mem _ hw)
  have hown : s.vm.findClass "SunnyOnesLaw" = some m.cls := findClass_of_methodNamed B.named
  have hS : va_S (fun q => b ≤ q) s.heap s.heap [] := va_S.rf
  have hl0 := lv_entry ([.ref (b + 0), .int x1, .ref (b + 132)]) (n := 4) (Nat.le_of_ble_eq_true rfl)
  show W p l e (xTRm d) s m _ below meth c s.heap [] 0 0 _ (entryFrame m ([.ref (b + 0), .int x1, .ref (b + 132)] : List Value).toArray 4)
  rw [lg_entry_eq]
  generalize (lg_sl ([.ref (b + 0), .int x1, .ref (b + 132)]) ++ List.replicate (4 - (lg_sl ([.ref (b + 0), .int x1, .ref (b + 132)])).length) Slot.unset).toArray = ls at hl0 ⊢
  have hl1 : lv_has ls 4 [(0, .ref (b + 0)), (1, .int x1), (2, .ref (b + 132))] := hl0
  refine lv_aload_n hx hb (show decode method_5_code 0 = .ok (.aload_n 2, 1) by decide +kernel) rfl (lv_at hl1 2 rfl) ?_
  refine lv_iconst (v := 0) hx hb (show decode method_5_code 1 = .ok (.iconst 0, 1) by decide +kernel) (by decide) ?_
  refine lv_aload_n hx hb (show decode method_5_code 2 = .ok (.aload_n 0, 1) by decide +kernel) rfl (lv_at hl1 0 rfl) ?_
  refine lv_iload_n hx hb (show decode method_5_code 3 = .ok (.iload_n 1, 1) by decide +kernel) rfl (lv_at hl1 1 rfl) ?_
  have h9 : xmL m_So_row ≤ 21 := by decide
  refine wl_callN (D := d - 1) (As := [.int x1]) (r := [.int 0, .ref 132]) (a := 0) ⟨hx, hb, hml, hown, hts⟩ hkn (show decode method_5_code 4 = .ok (.invokevirtual 18, 3) by decide +kernel) (wg5 192 (by decide +kernel) rfl) kd_So_row hq0 (by simp [xcs, Value.category]) rfl rfl rfl ⟨by show d - 1 + 1 ≤ d; omega, by show 8 + (xmL m_So_row + 11) + 40 * (d - 1) ≤ 40 * d; omega⟩ ⟨Nat.zero_le _, Nat.zero_le _⟩ hM hho hS hl1.1 (fun v hq hv H1 locs1 hho1 hS1 => ?_)
  obtain ⟨rfl, hPq⟩ := hv
  obtain ⟨g, ho⟩ := hP hq hPq
  refine wl_last (a := 132) (i := 0) ⟨hx, hb, hml, hown, hts⟩ hkn (show decode method_5_code 7 = .ok (.lastore, 1) by decide +kernel) ho (vp_in_nI (n := 0) (N := 1) (by decide) (by decide)) hho1 hS1 (fun H2 locs2 hho2 hS2 => ?_)
  refine lv_goto (tgt := 14) hx hb (show decode method_5_code 8 = .ok (.goto 6, 3) by decide +kernel) (by decide) ?_
  refine lv_iconst (v := 0) hx hb (show decode method_5_code 14 = .ok (.iconst 0, 1) by decide +kernel) (by decide) ?_
  refine W.widen (k := 1) (n := 6) (by decide) (by decide) ?_
  exact W.iret (v := 0) hx hb hr (fun t ht hW => ⟨⟨0, _, gz, rfl, ⟨rfl, hq, g, hPq, rfl⟩, by rw [ht]; exact hho2⟩, hS2.F ht⟩) hS2.2.2 (show decode method_5_code 15 = .ok (.ireturn, 1) by decide +kernel)
theorem h_row_t {x1 : Int32} (hd6 : 30 ≤ d) (hq0 : hp.1 0 = .inr (0, fs)) (hM : xTC l (d - 1) b gz m_So_row [.ref 0, .int x1] hp) : xHC l d b gz y_row method_5_code 4 [(0, 8, 11, 13)] [.ref 0, .int x1, .ref 132] hp (fun r hq => r = 1 ∧ hq = hp) := by
  intro dC dI dA
  refine va_MetW (cc := method_5_code) (maxL := 4) (ret := some .int) (hh := [(0, 8, 11, 13)]) (by decide) rfl (fun p e s m args below meth c s₁ B hml hP => ?_)
  obtain ⟨rfl, ⟨hho, hkn⟩, hz⟩ := hP
  have hx := B.exec
  have hb := B.bytes
  have hr := B.returns
  have hts0 := atoms_spec (ws := Cond.codeWith y_row method_5_code 4 (some .int) [(0, 8, 11, 13)] :: wG) B.pre
  have hts : ∀ w ∈ wG, w.before _ s = true := fun w hw => hts0 w (List.mem_cons_of_mem _ hw)
  have hown : s.vm.findClass "SunnyOnesLaw" = some m.cls := findClass_of_methodNamed B.named
  have hS : va_S (fun q => b ≤ q) s.heap s.heap [] := va_S.rf
  have hl0 := lv_entry ([.ref (b + 0), .int x1, .ref (b + 132)]) (n := 4) (Nat.le_of_ble_eq_true rfl)
  show W p l e (xTRm d) s m _ below meth c s.heap [] 0 0 _ (entryFrame m ([.ref (b + 0), .int x1, .ref (b + 132)] : List Value).toArray 4)
  rw [lg_entry_eq]
  generalize (lg_sl ([.ref (b + 0), .int x1, .ref (b + 132)]) ++ List.replicate (4 - (lg_sl ([.ref (b + 0), .int x1, .ref (b + 132)])).length) Slot.unset).toArray = ls at hl0 ⊢
  have hl1 : lv_has ls 4 [(0, .ref (b + 0)), (1, .int x1), (2, .ref (b + 132))] := hl0
  refine lv_aload_n hx hb (show decode method_5_code 0 = .ok (.aload_n 2, 1) by decide +kernel) rfl (lv_at hl1 2 rfl) ?_
  refine lv_iconst (v := 0) hx hb (show decode method_5_code 1 = .ok (.iconst 0, 1) by decide +kernel) (by decide) ?_
  refine lv_aload_n hx hb (show decode method_5_code 2 = .ok (.aload_n 0, 1) by decide +kernel) rfl (lv_at hl1 0 rfl) ?_
  refine lv_iload_n hx hb (show decode method_5_code 3 = .ok (.iload_n 1, 1) by decide +kernel) rfl (lv_at hl1 1 rfl) ?_
  have h9 : xmL m_So_row ≤ 21 := by decide
  obtain ⟨⟨w1, w2, ⟨g1, g2, g3⟩, g4⟩, w3, w4, q, hcl, hqc⟩ := kd_So_row
  obtain ⟨S1, S2, S3⟩ := id hho
  have hat := xW_at (b := b) (dA := dA) (xBd_r S2 hq0 hcl) hq0
  rw [xcE_o] at hat
  have hrecv := va_recv hkn.1 S3 hcl hat
  rw [hqc] at hrecv
  have hroom' : (xTRm (d - 1)).frames + 1 ≤ (xTRm d).frames ∧ 8 + (xmL m_So_row + 11) + (xTRm (d - 1)).locals ≤ (xTRm d).locals := ⟨by show d - 1 + 1 ≤ d; omega, by show 8 + (xmL m_So_row + 11) + 40 * (d - 1) ≤ 40 * d; omega⟩
  have hpre : PreV s s.heap (xmY m_So_row).cls (b + 0) (xTP b gz dC dI dA hp [.ref 0, .int x1]) [.int x1] := ⟨xTP_blind, hrecv, fun U hU hW => ⟨rfl, ⟨by rw [hU]; exact hho, xKn_warm hW hkn⟩, zU_warm hz hS hU hW⟩⟩
  have cw : CallW (xTRm d) s _ "SunnyOnesLaw" (xmY m_So_row).cls 18 (xmY m_So_row) (xmB m_So_row) (xmL m_So_row) (xmR m_So_row) (xwY m_So_row) (xTRm (d - 1)) 1 6 (xmN m_So_row) :=
    ⟨callB_of (xmN m_So_row) hts (xGood w2) rfl rfl rfl (hts _ w1) (hts _ (wg5 192 (by decide +kernel) rfl)) ⟨g1, g2, g3⟩ hroom', hts _ w3, hts _ w4⟩
  refine vx_calli (S := Unit) (SX := Nat) (A0 := fun q => b ≤ q) (vx_runV (As := [.int x1]) (rest := [.int 0, .ref (b + 132)]) ⟨hx, hb, hml, hown, hts⟩ (hM dC dI dA) cw hpre rfl rfl hl1.1 rfl (lv_room (by simp [Value.category])) (show decode method_5_code 4 = .ok (.invokevirtual 18, 3) by decide +kernel) ⟨by show 0 + 1 ≤ 1; decide, by show 0 + 6 ≤ 6; decide⟩) hS (fun q _ h => h.elim) (fun q h => h) (fun q _ h => h) (fun E ce q9 u t H1 locs1 ht ha _ hBX _ _ hS1 hce hcv hcl9 => ?_) (fun r u t H1 locs1 _ _ hf => hf.elim)
  obtain ⟨rfl, hho1⟩ := hBX
  rw [ht] at hho1
  refine vx_catch (own := "SunnyOnesLaw") (name := nse) (E := nse) hown [] ⟨0, 8, 11, 13⟩ [] ((vx_table (x := y_row) B (hts0 _ List.mem_cons_self)).trans rfl) (fun z hz => nomatch hz) (by decide) (by decide) (hts _ (wg5 107 (by decide +kernel) rfl)) (at_before hts hz _ at_cast) hce hcv hcl9 ?_
  show W p l e (xTRm d) s m _ below meth c H1 locs1 _ _ _ (F0 m 11 ls [.ref q9])
  refine lv_astore_n (lv' := (3, .ref q9) :: [(0, .ref (b + 0)), (1, .int x1), (2, .ref (b + 132))]) hx hb (show decode method_5_code 11 = .ok (.astore_n 3, 1) by decide +kernel) rfl hl1 (by decide) rfl (fun ls hl => ?_)
  refine lv_iconst (v := 1) hx hb (show decode method_5_code 12 = .ok (.iconst 1, 1) by decide +kernel) (by decide) ?_
  refine W.widen (k := 1) (n := 6) (by decide) (by decide) ?_
  exact W.iret (v := 1) hx hb hr (fun t ht hW => ⟨⟨1, _, u, rfl, ⟨rfl, rfl⟩, by rw [ht]; exact hho1⟩, hS1.F ht⟩) hS1.2.2 (show decode method_5_code 13 = .ok (.ireturn, 1) by decide +kernel)
end HL2
