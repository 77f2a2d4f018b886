/-! ===== one, place, row of the program: when they don't throw ===== -/
def xNQ (b gz : Nat) (dC : Nat → ClassId) (dI : Nat → Nat → Nat) (dA : FieldType → ClassId) (Po : Option Value → xHp → Prop) : Array Value → State → Outcome → State → Prop := fun _ st o t => (∃ (v : Option Value) (hp' : xHp), o = .returned (v.map (xcV b)) ∧ Po v hp' ∧ xHo b 0 gz dC dI dA hp' t.heap) ∧ va_F (fun q => b ≤ q) st t
/-- a call of m with these arguments on this heap ends so that Po holds -/
def xNC (l : Launch) (d b gz : Nat) (m : xMI) (args : List Value) (hp : xHp) (Po : Option Value → xHp → Prop) : Prop :=
  ∀ (dC : Nat → ClassId) (dI : Nat → Nat → Nat) (dA : FieldType → ClassId), Met l (xmY m) (xwY m) (xRm d m) (xPre b 0 gz dC dI dA hp args) (xNQ b gz dC dI dA Po) 0 0 (fun q => b ≤ q)
section NRM
variable {l : Launch} {b d gz : Nat} {hp : xHp} {S : St}
theorem n_So_row {n : Int32} {i : Nat} (hC : isCl hp S) (hd6 : 20 ≤ d) (hi : i < S.nr) (en : n = nI i) : xNC l d b gz m_So_row [.ref 0, .int n] hp (fun v hq => v = some (.long (S.R i)) ∧ xAg hp hq [15, 10] ∧ isCl hq S) := by
  intro dC dI dA
  refine Met.ofW (cc := prog_1_method_71_code) (maxL := 2) (ret := some .long) (by decide) rfl ?_
  intro p e s m args below meth c s₁ B hml hP
  obtain ⟨rfl, hho, hkn⟩ := hP
  have hx := B.exec
  have hb := B.bytes
  have hr := B.returns
  have hts0 := atoms_spec (ws := xwY m_So_row) B.pre
  have hts : ∀ w ∈ wG, w.before _ s = true := fun w hw => hts0 w (List.mem_cons_of_mem _ hw)
  have hown : s.vm.findClass "SunnyOnes" = some m.cls := findClass_of_methodNamed B.named
  have hS : va_S (fun q => b ≤ q) s.heap s.heap [] := va_S.rf
  have hl0 := lv_entry ([.ref (b + 0), .int n]) (n := 2) (Nat.le_of_ble_eq_true rfl)
  show W p l e (xRm d m_So_row) s m _ below meth c s.heap [] 0 0 _ (entryFrame m ([.ref (b + 0), .int n] : List Value).toArray 2)
  rw [lg_entry_eq]
  generalize (lg_sl ([.ref (b + 0), .int n]) ++ List.replicate (2 - (lg_sl ([.ref (b + 0), .int n])).length) Slot.unset).toArray = ls at hl0 ⊢
  have hl1 : lv_has ls 2 [(0, .ref (b + 0)), (1, .int n)] := hl0
  have hn7 := hC.nw.2
  obtain ⟨lot, o1⟩ := hC.so
  have hrf : xAg hp hp [15, 10] := xAg_rf _ _
  have hn16 := hC.rw.2
  subst en
  refine lv_iload_n hx hb (show decode prog_1_method_71_code 0 = .ok (.iload_n 1, 1) by decide +kernel) rfl (lv_at hl1 1 rfl) ?_
  refine lv_if_lt (tgt := 15) hx hb (show decode prog_1_method_71_code 1 = .ok (.ifCond .lt 14, 3) by decide +kernel) (by decide) (fun h0 => absurd h0 (nI_neg (by omega))) (fun h0 => ?_)
  refine lv_iload_n hx hb (show decode prog_1_method_71_code 4 = .ok (.iload_n 1, 1) by decide +kernel) rfl (lv_at hl1 1 rfl) ?_
  refine lv_aload_n hx hb (show decode prog_1_method_71_code 5 = .ok (.aload_n 0, 1) by decide +kernel) rfl (lv_at hl1 0 rfl) ?_
  refine wl_get ⟨hx, hb, hml, hown, hts⟩ hkn (show decode prog_1_method_71_code 6 = .ok (.getfield 19, 3) by decide +kernel) fl_So_19 o1 rfl hho ?_
  have h9 : xmL m_Row_size ≤ 21 := by decide
  refine wl_callV (D := d - 5) (As := []) (r := [.int (nI i)]) (a := 3) ⟨hx, hb, hml, hown, hts⟩ hkn (show decode prog_1_method_71_code 9 = .ok (.invokevirtual 419, 3) by decide +kernel) (Or.inl (wg5 100 (by decide +kernel) rfl)) kd_Row_size hC.rw.1.1 (by simp [xcs, Value.category]) rfl rfl rfl ⟨by show d - 5 + 1 ≤ d; omega, by show 8 + (xmL m_Row_size + 11) + 40 * (d - 5) ≤ 40 * d; omega⟩ ⟨Nat.zero_le _, Nat.zero_le _⟩ (c_Row_size (K := fun r hq => r = nI S.nr ∧ hp = hq) hC.rw.1 ⟨rfl, rfl⟩) hho hS hl1.1 (fun v hq hv H1 locs1 hho1 hS1 => ?_)
  cases v with
  | none => exact hv.elim
  | some v =>
    cases v with
    | int r =>
      obtain ⟨rfl, hv⟩ := hv
      subst hv
      refine lv_icmp_lt (tgt := 23) hx hb (show decode prog_1_method_71_code 12 = .ok (.if_icmp .lt 11, 3) by decide +kernel) (by decide) (fun _ => ?_) (fun h1 => absurd (nI_lt hi (by omega)) h1)
      have hho := hho1
      have hS := hS1
      refine lv_aload_n hx hb (show decode prog_1_method_71_code 23 = .ok (.aload_n 0, 1) by decide +kernel) rfl (lv_at hl1 0 rfl) ?_
      refine wl_get ⟨hx, hb, hml, hown, hts⟩ hkn (show decode prog_1_method_71_code 24 = .ok (.getfield 19, 3) by decide +kernel) fl_So_19 o1 rfl hho ?_
      refine lv_iload_n hx hb (show decode prog_1_method_71_code 27 = .ok (.iload_n 1, 1) by decide +kernel) rfl (lv_at hl1 1 rfl) ?_
      have h9 : xmL m_Row_number ≤ 21 := by decide
      refine wl_callV (D := d - 5) (As := [.int (nI i)]) (r := []) (a := 3) ⟨hx, hb, hml, hown, hts⟩ hkn (show decode prog_1_method_71_code 28 = .ok (.invokevirtual 420, 3) by decide +kernel) (Or.inl (wg5 196 (by decide +kernel) rfl)) kd_Row_number hC.rw.1.1 (by simp [xcs, Value.category]) rfl rfl rfl ⟨by show d - 5 + 1 ≤ d; omega, by show 8 + (xmL m_Row_number + 11) + 40 * (d - 5) ≤ 40 * d; omega⟩ ⟨Nat.zero_le _, Nat.zero_le _⟩ (c_Row_number (K := fun r hq => r = S.R i ∧ hp = hq) hC.rw.1 ⟨by unfold ylat; rw [if_neg (nI_neg (by omega)), if_neg (show ¬ Int32.ofNat 16 ≤ nI i from nI_ge (show i < 16 by omega) (by decide)), nI_clamp (by omega)], rfl⟩) hho hS hl1.1 (fun v hq hv H1 locs1 hho1 hS1 => ?_)
      cases v with
      | none => exact hv.elim
      | some v =>
        cases v with
        | long r =>
          obtain ⟨rfl, hv⟩ := hv
          subst hv
          exact W.lret (v := ((S.R i))) hx hb hr (fun t ht hW => ⟨⟨some (.long ((S.R i))), _, rfl, ⟨rfl, hrf, hC⟩, by rw [ht]; exact hho1⟩, hS1.F ht⟩) hS1.2.2 (show decode prog_1_method_71_code 31 = .ok (.lreturn, 1) by decide +kernel)
        | _ => exact hv.elim
    | _ => exact hv.elim
theorem n_So_one {one what : Int32} {i : Nat} (hC : isCl hp S) (hd6 : 20 ≤ d) (hi : i < S.now.n) (e1 : one = nI i) (hw : what = 0 ∨ what = 1 ∨ what = 2 ∨ what = 3) : xNC l d b gz m_So_one [.ref 0, .int one, .int what] hp (fun v hq => v = some (.int (oneV S i what)) ∧ xAg hp hq [15, 10] ∧ isCl hq S) := by
  intro dC dI dA
  refine Met.ofW (cc := prog_1_method_9_code) (maxL := 3) (ret := some .int) (by decide) rfl ?_
  intro p e s m args below meth c s₁ B hml hP
  obtain ⟨rfl, hho, hkn⟩ := hP
  have hx := B.exec
  have hb := B.bytes
  have hr := B.returns
  have hts0 := atoms_spec (ws := xwY m_So_one) B.pre
  have hts : ∀ w ∈ wG, w.before _ s = true := fun w hw => hts0 w (List.mem_cons_of_mem _ hw)
  have hown : s.vm.findClass "SunnyOnes" = some m.cls := findClass_of_methodNamed B.named
  have hS : va_S (fun q => b ≤ q) s.heap s.heap [] := va_S.rf
  have hl0 := lv_entry ([.ref (b + 0), .int one, .int what]) (n := 3) (Nat.le_of_ble_eq_true rfl)
  show W p l e (xRm d m_So_one) s m _ below meth c s.heap [] 0 0 _ (entryFrame m ([.ref (b + 0), .int one, .int what] : List Value).toArray 3)
  rw [lg_entry_eq]
  generalize (lg_sl ([.ref (b + 0), .int one, .int what]) ++ List.replicate (3 - (lg_sl ([.ref (b + 0), .int one, .int what])).length) Slot.unset).toArray = ls at hl0 ⊢
  have hl1 : lv_has ls 3 [(0, .ref (b + 0)), (1, .int one), (2, .int what)] := hl0
  have hn7 := hC.nw.2
  obtain ⟨lot, o1⟩ := hC.so
  have hrf : xAg hp hp [15, 10] := xAg_rf _ _
  subst e1
  refine lv_aload_n hx hb (show decode prog_1_method_9_code 0 = .ok (.aload_n 0, 1) by decide +kernel) rfl (lv_at hl1 0 rfl) ?_
  refine lv_iload_n hx hb (show decode prog_1_method_9_code 1 = .ok (.iload_n 1, 1) by decide +kernel) rfl (lv_at hl1 1 rfl) ?_
  have h9 : xmL m_So_has ≤ 21 := by decide
  refine wl_callV (D := d - 5) (As := [.int (nI i)]) (r := []) (a := 0) ⟨hx, hb, hml, hown, hts⟩ hkn (show decode prog_1_method_9_code 2 = .ok (.invokevirtual 179, 3) by decide +kernel) (Or.inl (wg3 120 (by decide +kernel) rfl)) kd_So_has o1 (by simp [xcs, Value.category]) rfl rfl rfl ⟨by show d - 5 + 1 ≤ d; omega, by show 8 + (xmL m_So_has + 11) + 40 * (d - 5) ≤ 40 * d; omega⟩ ⟨Nat.zero_le _, Nat.zero_le _⟩ (show xMC l (d - 5) b 0 gz m_So_has [.ref 0, .int (nI i)] hp _ from by rw [show d - 5 = d - 6 + 1 by omega]; exact c_So_has (K := fun r hq => r = yhas (nI i) (nI S.now.n) ∧ hp = hq) hC ⟨rfl, rfl⟩) hho hS hl1.1 (fun v hq hv H1 locs1 hho1 hS1 => ?_)
  cases v with
  | none => exact hv.elim
  | some v =>
    cases v with
    | int r =>
      obtain ⟨rfl, hv⟩ := hv
      subst hv
      have hho := hho1
      have hS := hS1
      refine lv_if_ne (tgt := 16) hx hb (show decode prog_1_method_9_code 5 = .ok (.ifCond .ne 11, 3) by decide +kernel) (by decide) (fun _ => ?_) (fun z => absurd z (yhas_nI (by omega) hi))
      refine lv_iload_n hx hb (show decode prog_1_method_9_code 16 = .ok (.iload_n 2, 1) by decide +kernel) rfl (lv_at hl1 2 rfl) ?_
      rcases hw with rfl | rfl | rfl | rfl
      · refine lv_tableIn (off := 31) (tgt := 48) hx hb (show decode prog_1_method_9_code 17 = .ok (.tableswitch 71 0 3 #[31, 40, 49, 58], 31) by decide +kernel) (by decide) (by decide) (by decide) (by decide) ?_
        refine lv_aload_n hx hb (show decode prog_1_method_9_code 48 = .ok (.aload_n 0, 1) by decide +kernel) rfl (lv_at hl1 0 rfl) ?_
        refine wl_get ⟨hx, hb, hml, hown, hts⟩ hkn (show decode prog_1_method_9_code 49 = .ok (.getfield 54, 3) by decide +kernel) fl_So_54 o1 rfl hho ?_
        refine lv_iload_n hx hb (show decode prog_1_method_9_code 52 = .ok (.iload_n 1, 1) by decide +kernel) rfl (lv_at hl1 1 rfl) ?_
        have h9 : xmL m_Folk_age ≤ 21 := by decide
        refine wl_callV (D := d - 5) (As := [.int (nI i)]) (r := []) (a := 16) ⟨hx, hb, hml, hown, hts⟩ hkn (show decode prog_1_method_9_code 53 = .ok (.invokevirtual 185, 3) by decide +kernel) (Or.inl (wg3 176 (by decide +kernel) rfl)) kd_Folk_age hC.nw.1.1 (by simp [xcs, Value.category]) rfl rfl rfl ⟨by show d - 5 + 1 ≤ d; omega, by show 8 + (xmL m_Folk_age + 11) + 40 * (d - 5) ≤ 40 * d; omega⟩ ⟨Nat.zero_le _, Nat.zero_le _⟩ (show xMC l (d - 5) b 0 gz m_Folk_age [.ref 16, .int (nI i)] hp _ from by rw [show d - 5 = d - 6 + 1 by omega]; exact c_Folk_age (K := fun r hq => r = oneV S i 0 ∧ hp = hq) hC.nw.1 ⟨by rw [yat_nI (show i < 7 by omega) y7']; rfl, rfl⟩) hho hS hl1.1 (fun v hq hv H1 locs1 hho1 hS1 => ?_)
        cases v with
        | none => exact hv.elim
        | some v =>
          cases v with
          | int r =>
            obtain ⟨rfl, hv⟩ := hv
            subst hv
            exact W.iret (v := (oneV S i 0)) hx hb hr (fun t ht hW => ⟨⟨some (.int (oneV S i 0)), _, rfl, ⟨rfl, hrf, hC⟩, by rw [ht]; exact hho1⟩, hS1.F ht⟩) hS1.2.2 (show decode prog_1_method_9_code 56 = .ok (.ireturn, 1) by decide +kernel)
          | _ => exact hv.elim
      · refine lv_tableIn (off := 40) (tgt := 57) hx hb (show decode prog_1_method_9_code 17 = .ok (.tableswitch 71 0 3 #[31, 40, 49, 58], 31) by decide +kernel) (by decide) (by decide) (by decide) (by decide) ?_
        refine lv_aload_n hx hb (show decode prog_1_method_9_code 57 = .ok (.aload_n 0, 1) by decide +kernel) rfl (lv_at hl1 0 rfl) ?_
        refine wl_get ⟨hx, hb, hml, hown, hts⟩ hkn (show decode prog_1_method_9_code 58 = .ok (.getfield 54, 3) by decide +kernel) fl_So_54 o1 rfl hho ?_
        refine lv_iload_n hx hb (show decode prog_1_method_9_code 61 = .ok (.iload_n 1, 1) by decide +kernel) rfl (lv_at hl1 1 rfl) ?_
        have h9 : xmL m_Folk_spot ≤ 21 := by decide
        refine wl_callV (D := d - 5) (As := [.int (nI i)]) (r := []) (a := 16) ⟨hx, hb, hml, hown, hts⟩ hkn (show decode prog_1_method_9_code 62 = .ok (.invokevirtual 188, 3) by decide +kernel) (Or.inl (wg3 128 (by decide +kernel) rfl)) kd_Folk_spot hC.nw.1.1 (by simp [xcs, Value.category]) rfl rfl rfl ⟨by show d - 5 + 1 ≤ d; omega, by show 8 + (xmL m_Folk_spot + 11) + 40 * (d - 5) ≤ 40 * d; omega⟩ ⟨Nat.zero_le _, Nat.zero_le _⟩ (show xMC l (d - 5) b 0 gz m_Folk_spot [.ref 16, .int (nI i)] hp _ from by rw [show d - 5 = d - 6 + 1 by omega]; exact c_Folk_spot (K := fun r hq => r = oneV S i 1 ∧ hp = hq) hC.nw.1 ⟨by rw [yat_nI (show i < 7 by omega) y7']; rfl, rfl⟩) hho hS hl1.1 (fun v hq hv H1 locs1 hho1 hS1 => ?_)
        cases v with
        | none => exact hv.elim
        | some v =>
          cases v with
          | int r =>
            obtain ⟨rfl, hv⟩ := hv
            subst hv
            exact W.iret (v := (oneV S i 1)) hx hb hr (fun t ht hW => ⟨⟨some (.int (oneV S i 1)), _, rfl, ⟨rfl, hrf, hC⟩, by rw [ht]; exact hho1⟩, hS1.F ht⟩) hS1.2.2 (show decode prog_1_method_9_code 65 = .ok (.ireturn, 1) by decide +kernel)
          | _ => exact hv.elim
      · refine lv_tableIn (off := 49) (tgt := 66) hx hb (show decode prog_1_method_9_code 17 = .ok (.tableswitch 71 0 3 #[31, 40, 49, 58], 31) by decide +kernel) (by decide) (by decide) (by decide) (by decide) ?_
        refine lv_aload_n hx hb (show decode prog_1_method_9_code 66 = .ok (.aload_n 0, 1) by decide +kernel) rfl (lv_at hl1 0 rfl) ?_
        refine wl_get ⟨hx, hb, hml, hown, hts⟩ hkn (show decode prog_1_method_9_code 67 = .ok (.getfield 54, 3) by decide +kernel) fl_So_54 o1 rfl hho ?_
        refine lv_iload_n hx hb (show decode prog_1_method_9_code 70 = .ok (.iload_n 1, 1) by decide +kernel) rfl (lv_at hl1 1 rfl) ?_
        have h9 : xmL m_Folk_sins ≤ 21 := by decide
        refine wl_callV (D := d - 5) (As := [.int (nI i)]) (r := []) (a := 16) ⟨hx, hb, hml, hown, hts⟩ hkn (show decode prog_1_method_9_code 71 = .ok (.invokevirtual 191, 3) by decide +kernel) (Or.inl (wg3 164 (by decide +kernel) rfl)) kd_Folk_sins hC.nw.1.1 (by simp [xcs, Value.category]) rfl rfl rfl ⟨by show d - 5 + 1 ≤ d; omega, by show 8 + (xmL m_Folk_sins + 11) + 40 * (d - 5) ≤ 40 * d; omega⟩ ⟨Nat.zero_le _, Nat.zero_le _⟩ (show xMC l (d - 5) b 0 gz m_Folk_sins [.ref 16, .int (nI i)] hp _ from by rw [show d - 5 = d - 6 + 1 by omega]; exact c_Folk_sins (K := fun r hq => r = oneV S i 2 ∧ hp = hq) hC.nw.1 ⟨by rw [yat_nI (show i < 7 by omega) y7']; rfl, rfl⟩) hho hS hl1.1 (fun v hq hv H1 locs1 hho1 hS1 => ?_)
        cases v with
        | none => exact hv.elim
        | some v =>
          cases v with
          | int r =>
            obtain ⟨rfl, hv⟩ := hv
            subst hv
            exact W.iret (v := (oneV S i 2)) hx hb hr (fun t ht hW => ⟨⟨some (.int (oneV S i 2)), _, rfl, ⟨rfl, hrf, hC⟩, by rw [ht]; exact hho1⟩, hS1.F ht⟩) hS1.2.2 (show decode prog_1_method_9_code 74 = .ok (.ireturn, 1) by decide +kernel)
          | _ => exact hv.elim
      · refine lv_tableIn (off := 58) (tgt := 75) hx hb (show decode prog_1_method_9_code 17 = .ok (.tableswitch 71 0 3 #[31, 40, 49, 58], 31) by decide +kernel) (by decide) (by decide) (by decide) (by decide) ?_
        refine lv_aload_n hx hb (show decode prog_1_method_9_code 75 = .ok (.aload_n 0, 1) by decide +kernel) rfl (lv_at hl1 0 rfl) ?_
        refine wl_get ⟨hx, hb, hml, hown, hts⟩ hkn (show decode prog_1_method_9_code 76 = .ok (.getfield 47, 3) by decide +kernel) fl_So_47 o1 rfl hho ?_
        refine lv_aload_n hx hb (show decode prog_1_method_9_code 79 = .ok (.aload_n 0, 1) by decide +kernel) rfl (lv_at hl1 0 rfl) ?_
        refine wl_get ⟨hx, hb, hml, hown, hts⟩ hkn (show decode prog_1_method_9_code 80 = .ok (.getfield 54, 3) by decide +kernel) fl_So_54 o1 rfl hho ?_
        refine lv_iload_n hx hb (show decode prog_1_method_9_code 83 = .ok (.iload_n 1, 1) by decide +kernel) rfl (lv_at hl1 1 rfl) ?_
        have h9 : xmL m_Sun_hoursOf ≤ 21 := by decide
        refine wl_callV (D := d - 5) (As := [.ref 16, .int (nI i)]) (r := []) (a := 14) ⟨hx, hb, hml, hown, hts⟩ hkn (show decode prog_1_method_9_code 84 = .ok (.invokevirtual 194, 3) by decide +kernel) (Or.inl (wg3 156 (by decide +kernel) rfl)) kd_Sun_hoursOf hC.ev.1.1 (by simp [xcs, Value.category]) rfl rfl rfl ⟨by show d - 5 + 1 ≤ d; omega, by show 8 + (xmL m_Sun_hoursOf + 11) + 40 * (d - 5) ≤ 40 * d; omega⟩ ⟨Nat.zero_le _, Nat.zero_le _⟩ (show xMC l (d - 5) b 0 gz m_Sun_hoursOf [.ref 14, .ref 16, .int (nI i)] hp _ from by rw [show d - 5 = d - 9 + 4 by omega]; exact e_hoursOf (K := fun r hq => r = oneV S i 3 ∧ xAg hp hq [15, 10] ∧ isEnv hq S.V S.lg S.sk S.nl S.tu) hC.ev hC.nw.1 hC.nw.2 (by decide) (fun hq ha hE => ⟨yof_hof (s := S) (q := S.now) (by omega), ha, hE⟩)) hho hS hl1.1 (fun v hq hv H1 locs1 hho1 hS1 => ?_)
        cases v with
        | none => exact hv.elim
        | some v =>
          cases v with
          | int r =>
            obtain ⟨rfl, hv⟩ := hv
            obtain ⟨ha, hE⟩ := hv
            exact W.iret (v := ((oneV S i 3))) hx hb hr (fun t ht hW => ⟨⟨some (.int ((oneV S i 3))), _, rfl, ⟨rfl, ha, isCl_mk (so_ag ha (by simp) hC.so) (tx_ag ha (by simp) hC.tx) (rw_ag ha (by simp) hC.rw) (hE) (pr_ag ha (by simp) hC.pr) (isFk_ag ha (by simp) hC.nw) (fk_ag ha (by simp) hC.th) (fk_ag ha (by simp) hC.be) (pa_ag ha (by simp) hC.pa) (rg_ag ha (by simp) hC.rg) (sh_ag ha (by simp) hC.sh) (cl_ag ha (by simp) hC.se) (cl_ag ha (by simp) hC.ru) (wk_ag ha (by simp) hC.wk) (rm_ag ha (by simp) hC.rm) (ch_ag ha (by simp) hC.ch) (ta_ag ha (by simp) hC.ta)⟩, by rw [ht]; exact hho1⟩, hS1.F ht⟩) hS1.2.2 (show decode prog_1_method_9_code 87 = .ok (.ireturn, 1) by decide +kernel)
          | _ => exact hv.elim
    | _ => exact hv.elim
theorem n_So_place {pl what : Int32} {i : Nat} (hC : isCl hp S) (hd6 : 20 ≤ d) (hi : i < S.nl) (e1 : pl = nI i) (hw : what = 0 ∨ what = 1 ∨ what = 2) : xNC l d b gz m_So_place [.ref 0, .int pl, .int what] hp (fun v hq => v = some (.int (plcV S i what)) ∧ xAg hp hq [15, 10] ∧ isCl hq S) := by
  intro dC dI dA
  refine Met.ofW (cc := prog_1_method_10_code) (maxL := 3) (ret := some .int) (by decide) rfl ?_
  intro p e s m args below meth c s₁ B hml hP
  obtain ⟨rfl, hho, hkn⟩ := hP
  have hx := B.exec
  have hb := B.bytes
  have hr := B.returns
  have hts0 := atoms_spec (ws := xwY m_So_place) B.pre
  have hts : ∀ w ∈ wG, w.before _ s = true := fun w hw => hts0 w (List.mem_cons_of_mem _ hw)
  have hown : s.vm.findClass "SunnyOnes" = some m.cls := findClass_of_methodNamed B.named
  have hS : va_S (fun q => b ≤ q) s.heap s.heap [] := va_S.rf
  have hl0 := lv_entry ([.ref (b + 0), .int pl, .int what]) (n := 3) (Nat.le_of_ble_eq_true rfl)
  show W p l e (xRm d m_So_place) s m _ below meth c s.heap [] 0 0 _ (entryFrame m ([.ref (b + 0), .int pl, .int what] : List Value).toArray 3)
  rw [lg_entry_eq]
  generalize (lg_sl ([.ref (b + 0), .int pl, .int what]) ++ List.replicate (3 - (lg_sl ([.ref (b + 0), .int pl, .int what])).length) Slot.unset).toArray = ls at hl0 ⊢
  have hl1 : lv_has ls 3 [(0, .ref (b + 0)), (1, .int pl), (2, .int what)] := hl0
  have hn7 := hC.nw.2
  obtain ⟨lot, o1⟩ := hC.so
  have hrf : xAg hp hp [15, 10] := xAg_rf _ _
  subst e1
  have hl6 := hC.ev.2.2.1
  refine lv_aload_n hx hb (show decode prog_1_method_10_code 0 = .ok (.aload_n 0, 1) by decide +kernel) rfl (lv_at hl1 0 rfl) ?_
  refine wl_get ⟨hx, hb, hml, hown, hts⟩ hkn (show decode prog_1_method_10_code 1 = .ok (.getfield 26, 3) by decide +kernel) fl_So_26 o1 rfl hho ?_
  refine lv_iload_n hx hb (show decode prog_1_method_10_code 4 = .ok (.iload_n 1, 1) by decide +kernel) rfl (lv_at hl1 1 rfl) ?_
  have h9 : xmL m_Land_has ≤ 21 := by decide
  refine wl_callV (D := d - 5) (As := [.int (nI i)]) (r := []) (a := 5) ⟨hx, hb, hml, hown, hts⟩ hkn (show decode prog_1_method_10_code 5 = .ok (.invokevirtual 198, 3) by decide +kernel) (Or.inl (wg3 124 (by decide +kernel) rfl)) kd_Land_has hC.ev.2.1.1 (by simp [xcs, Value.category]) rfl rfl rfl ⟨by show d - 5 + 1 ≤ d; omega, by show 8 + (xmL m_Land_has + 11) + 40 * (d - 5) ≤ 40 * d; omega⟩ ⟨Nat.zero_le _, Nat.zero_le _⟩ (show xMC l (d - 5) b 0 gz m_Land_has [.ref 5, .int (nI i)] hp _ from by rw [show d - 5 = d - 6 + 1 by omega]; exact c_Land_has (K := fun r hq => r = yhas (nI i) (nI S.nl) ∧ hp = hq) hC.ev.2.1 ⟨rfl, rfl⟩) hho hS hl1.1 (fun v hq hv H1 locs1 hho1 hS1 => ?_)
  cases v with
  | none => exact hv.elim
  | some v =>
    cases v with
    | int r =>
      obtain ⟨rfl, hv⟩ := hv
      subst hv
      have hho := hho1
      have hS := hS1
      refine lv_if_ne (tgt := 19) hx hb (show decode prog_1_method_10_code 8 = .ok (.ifCond .ne 11, 3) by decide +kernel) (by decide) (fun _ => ?_) (fun z => absurd z (yhas_nI (by omega) hi))
      refine lv_iload_n hx hb (show decode prog_1_method_10_code 19 = .ok (.iload_n 2, 1) by decide +kernel) rfl (lv_at hl1 2 rfl) ?_
      rcases hw with rfl | rfl | rfl
      · refine lv_tableIn (off := 28) (tgt := 48) hx hb (show decode prog_1_method_10_code 20 = .ok (.tableswitch 55 0 2 #[28, 37, 46], 28) by decide +kernel) (by decide) (by decide) (by decide) (by decide) ?_
        refine lv_aload_n hx hb (show decode prog_1_method_10_code 48 = .ok (.aload_n 0, 1) by decide +kernel) rfl (lv_at hl1 0 rfl) ?_
        refine wl_get ⟨hx, hb, hml, hown, hts⟩ hkn (show decode prog_1_method_10_code 49 = .ok (.getfield 26, 3) by decide +kernel) fl_So_26 o1 rfl hho ?_
        refine lv_iload_n hx hb (show decode prog_1_method_10_code 52 = .ok (.iload_n 1, 1) by decide +kernel) rfl (lv_at hl1 1 rfl) ?_
        have h9 : xmL m_Land_light ≤ 21 := by decide
        refine wl_callV (D := d - 5) (As := [.int (nI i)]) (r := []) (a := 5) ⟨hx, hb, hml, hown, hts⟩ hkn (show decode prog_1_method_10_code 53 = .ok (.invokevirtual 199, 3) by decide +kernel) (Or.inl (wg5 180 (by decide +kernel) rfl)) kd_Land_light hC.ev.2.1.1 (by simp [xcs, Value.category]) rfl rfl rfl ⟨by show d - 5 + 1 ≤ d; omega, by show 8 + (xmL m_Land_light + 11) + 40 * (d - 5) ≤ 40 * d; omega⟩ ⟨Nat.zero_le _, Nat.zero_le _⟩ (show xMC l (d - 5) b 0 gz m_Land_light [.ref 5, .int (nI i)] hp _ from by rw [show d - 5 = d - 6 + 1 by omega]; exact c_Land_light (K := fun r hq => r = plcV S i 0 ∧ hp = hq) hC.ev.2.1 ⟨by rw [yat_nI (show i < 6 by omega) (by decide)]; rfl, rfl⟩) hho hS hl1.1 (fun v hq hv H1 locs1 hho1 hS1 => ?_)
        cases v with
        | none => exact hv.elim
        | some v =>
          cases v with
          | int r =>
            obtain ⟨rfl, hv⟩ := hv
            subst hv
            exact W.iret (v := (plcV S i 0)) hx hb hr (fun t ht hW => ⟨⟨some (.int (plcV S i 0)), _, rfl, ⟨rfl, hrf, hC⟩, by rw [ht]; exact hho1⟩, hS1.F ht⟩) hS1.2.2 (show decode prog_1_method_10_code 56 = .ok (.ireturn, 1) by decide +kernel)
          | _ => exact hv.elim
      · refine lv_tableIn (off := 37) (tgt := 57) hx hb (show decode prog_1_method_10_code 20 = .ok (.tableswitch 55 0 2 #[28, 37, 46], 28) by decide +kernel) (by decide) (by decide) (by decide) (by decide) ?_
        refine lv_aload_n hx hb (show decode prog_1_method_10_code 57 = .ok (.aload_n 0, 1) by decide +kernel) rfl (lv_at hl1 0 rfl) ?_
        refine wl_get ⟨hx, hb, hml, hown, hts⟩ hkn (show decode prog_1_method_10_code 58 = .ok (.getfield 54, 3) by decide +kernel) fl_So_54 o1 rfl hho ?_
        refine lv_iload_n hx hb (show decode prog_1_method_10_code 61 = .ok (.iload_n 1, 1) by decide +kernel) rfl (lv_at hl1 1 rfl) ?_
        have h9 : xmL m_Folk_bitsAt ≤ 21 := by decide
        refine wl_callV (D := d - 5) (As := [.int (nI i)]) (r := []) (a := 16) ⟨hx, hb, hml, hown, hts⟩ hkn (show decode prog_1_method_10_code 62 = .ok (.invokevirtual 202, 3) by decide +kernel) (Or.inl (wg5 181 (by decide +kernel) rfl)) kd_Folk_bitsAt hC.nw.1.1 (by simp [xcs, Value.category]) rfl rfl rfl ⟨by show d - 5 + 1 ≤ d; omega, by show 8 + (xmL m_Folk_bitsAt + 11) + 40 * (d - 5) ≤ 40 * d; omega⟩ ⟨Nat.zero_le _, Nat.zero_le _⟩ (show xMC l (d - 5) b 0 gz m_Folk_bitsAt [.ref 16, .int (nI i)] hp _ from by rw [show d - 5 = d - 6 + 1 by omega]; exact c_Folk_bitsAt (K := fun r hq => r = plcV S i 1 ∧ hp = hq) hC.nw.1 rfl hC.nw.2 ⟨rfl, rfl⟩) hho hS hl1.1 (fun v hq hv H1 locs1 hho1 hS1 => ?_)
        cases v with
        | none => exact hv.elim
        | some v =>
          cases v with
          | int r =>
            obtain ⟨rfl, hv⟩ := hv
            subst hv
            exact W.iret (v := (plcV S i 1)) hx hb hr (fun t ht hW => ⟨⟨some (.int (plcV S i 1)), _, rfl, ⟨rfl, hrf, hC⟩, by rw [ht]; exact hho1⟩, hS1.F ht⟩) hS1.2.2 (show decode prog_1_method_10_code 65 = .ok (.ireturn, 1) by decide +kernel)
          | _ => exact hv.elim
      · refine lv_tableIn (off := 46) (tgt := 66) hx hb (show decode prog_1_method_10_code 20 = .ok (.tableswitch 55 0 2 #[28, 37, 46], 28) by decide +kernel) (by decide) (by decide) (by decide) (by decide) ?_
        refine lv_aload_n hx hb (show decode prog_1_method_10_code 66 = .ok (.aload_n 0, 1) by decide +kernel) rfl (lv_at hl1 0 rfl) ?_
        refine wl_get ⟨hx, hb, hml, hown, hts⟩ hkn (show decode prog_1_method_10_code 67 = .ok (.getfield 54, 3) by decide +kernel) fl_So_54 o1 rfl hho ?_
        refine lv_iload_n hx hb (show decode prog_1_method_10_code 70 = .ok (.iload_n 1, 1) by decide +kernel) rfl (lv_at hl1 1 rfl) ?_
        have h9 : xmL m_Folk_agesAt ≤ 21 := by decide
        refine wl_callV (D := d - 5) (As := [.int (nI i)]) (r := []) (a := 16) ⟨hx, hb, hml, hown, hts⟩ hkn (show decode prog_1_method_10_code 71 = .ok (.invokevirtual 205, 3) by decide +kernel) (Or.inl (wg5 185 (by decide +kernel) rfl)) kd_Folk_agesAt hC.nw.1.1 (by simp [xcs, Value.category]) rfl rfl rfl ⟨by show d - 5 + 1 ≤ d; omega, by show 8 + (xmL m_Folk_agesAt + 11) + 40 * (d - 5) ≤ 40 * d; omega⟩ ⟨Nat.zero_le _, Nat.zero_le _⟩ (show xMC l (d - 5) b 0 gz m_Folk_agesAt [.ref 16, .int (nI i)] hp _ from by rw [show d - 5 = d - 6 + 1 by omega]; exact c_Folk_agesAt (K := fun r hq => r = plcV S i 2 ∧ hp = hq) hC.nw.1 rfl hC.nw.2 ⟨rfl, rfl⟩) hho hS hl1.1 (fun v hq hv H1 locs1 hho1 hS1 => ?_)
        cases v with
        | none => exact hv.elim
        | some v =>
          cases v with
          | int r =>
            obtain ⟨rfl, hv⟩ := hv
            subst hv
            exact W.iret (v := (plcV S i 2)) hx hb hr (fun t ht hW => ⟨⟨some (.int (plcV S i 2)), _, rfl, ⟨rfl, hrf, hC⟩, by rw [ht]; exact hho1⟩, hS1.F ht⟩) hS1.2.2 (show decode prog_1_method_10_code 74 = .ok (.ireturn, 1) by decide +kernel)
          | _ => exact hv.elim
    | _ => exact hv.elim
end NRM
