/-! ===== one, place, row of the program: when they throw ===== -/
section THC
variable {p : Program} {l : Launch} {e : Env} {s : State} {m : MethodId} {args : Array Value} {below : List Frame} {meth : Method} {c : Code} {b d gz pc nL cells slots : Nat} {cc : ByteArray} {dC : Nat → ClassId} {dI : Nat → Nat → Nat} {dA : FieldType → ClassId} {H : Heap} {locs : List Loc} {ls : Array Slot} {hp : xHp} {R : Room} {Q : State → Prop} {own : String}
theorem wl_callV (SF : CallFix p m c cc nL s args wG own) (hKn : xKn dC dI dA s) {idx a ci D : Nat} {r As fs : List Value} {m' : xMI} {Po : Option Value → xHp → Prop} (hd : decode cc pc = .ok (.invokevirtual idx, 3)) (hlk : xLk own idx m') (hV : xKV m' ci) (hq : hp.1 a = .inr (ci, fs)) (hcs : xcs r 8) (hn : As.length = xmN m') (h0 : xmC m' = 0) (h1 : xmS m' = 0) (hroom : D + 1 ≤ R.frames ∧ 8 + (xmL m' + 11) + 40 * D ≤ R.locals) (hfit0 : cells ≤ R.cells ∧ slots ≤ R.slots) (hM : xMC l D b 0 gz m' (.ref a :: As) hp Po) (hho : xHo b 0 gz dC dI dA hp H) (hS : va_S (fun q => b ≤ q) s.heap H locs) (hl : ls.size = nL)
    (K : ∀ (v : Option Value) (hp' : xHp), Po v hp' → ∀ (H1 : Heap) (locs1 : List Loc), xHo b 0 gz dC dI dA hp' H1 → va_S (fun q => b ≤ q) s.heap H1 locs1 → W p l e R s m args below meth c H1 locs1 cells slots Q (F0 m (pc + 3) ls ((v.toList ++ r).map (xcV b)))) : W p l e R s m args below meth c H locs cells slots Q (F0 m pc ls ((As.reverse ++ .ref a :: r).map (xcV b))) := by
  obtain ⟨hx, hb, hml, hown, hts⟩ := id SF
  obtain ⟨⟨w1, w2, ⟨g1, g2, g3⟩, g4⟩, w3, w4, q, hcl, hqc⟩ := hV
  have hM' := hM (Nat.zero_le _) dC dI dA
  obtain ⟨S1, S2, S3⟩ := id hho
  have hat := xW_at (b := b) (dA := dA) (xBd_r S2 hq hcl) hq
  rw [xcE_o] at hat
  have hrecv := va_recv hKn.1 S3 hcl hat
  rw [hqc] at hrecv
  have hroom' : (xRm D m').frames + 1 ≤ R.frames ∧ 8 + (xmL m' + 11) + (xRm D m').locals ≤ R.locals := hroom
  have hcs' : ((r.map (xcV b)).map fun v => v.category).sum ≤ 8 := by rw [xcs_map]; exact xcs_sum r 8 hcs
  have hfit : cells + xmC m' ≤ R.cells ∧ slots + xmS m' ≤ R.slots := by rw [h0, h1]; exact hfit0
  have hst : (F0 m pc ls ((As.reverse ++ Value.ref a :: r).map (xcV b))).stack = (As.map (xcV b)).reverse ++ .ref (b + a) :: r.map (xcV b) := by
    simp [xcV]
  have hpre : PreV s H (xmY m').cls (b + a) (xPre b 0 gz dC dI dA hp (.ref a :: As)) (As.map (xcV b)) := ⟨xPre_blind, hrecv, fun U hU hW => ⟨rfl, by rw [hU]; exact ⟨S1, S2, S3⟩, xKn_warm hW hKn⟩⟩
  have fin : ∀ (v : Option Value) (hp' : xHp) (H1 : Heap) (locs1 : List Loc), Po v hp' → hp'.2.1 = hp.2.1 + xmC m' → hp'.2.2 = hp.2.2 + xmS m' → xHo b 0 gz dC dI dA hp' H1 → va_S (fun q => b ≤ q) s.heap H1 locs1 → W p l e R s m args below meth c H1 locs1 (cells + xmC m') (slots + xmS m') Q (F0 m (pc + 3) ls ((v.map (xcV b)).toList ++ r.map (xcV b))) := by
    intro v hp' H1 locs1 hpo hn2 hs2 hho2 hS2
    have K1 := K v hp' hpo H1 locs1 hho2 hS2
    rw [List.map_append] at K1
    have e9 : (v.map (xcV b)).toList = v.toList.map (xcV b) := by cases v <;> rfl
    rw [e9, h0, h1]
    exact K1
  rcases hlk with hl1 | ⟨host, hl1⟩
  · have cw : CallW R s args own (xmY m').cls idx (xmY m') (xmB m') (xmL m') (xmR m') (xwY m') (xRm D m') (xmC m') (xmS m') (xmN m') :=
      ⟨callB_of (xmN m') hts (xGood w2) rfl rfl rfl (hts _ w1) (hts _ hl1) ⟨g1, g2, g3⟩ hroom', hts _ w3, hts _ w4⟩
    exact xRun_go (va_runV ⟨hx, hb, hml, hown, hts⟩ hM' cw hpre rfl (by rw [List.length_map]; exact hn) hl hst (lv_room hcs') hd hfit) hS (fun q h => h.1) (fun q h => h.1) fin
  · have cw := va_cnB (R := R) (s := s) (args := args) (own := own) (host := host) (index := idx) (rm := xRm D m') (mc := xmC m') (ms := xmS m') (xmN m') hts (xGood w2) rfl rfl rfl (hKn.2.1 _ hl1) (hts _ w1) ⟨g1, g2, g3⟩ hroom'
    exact xRun_go (va_runVN ⟨hx, hb, hml, hown, hts⟩ hM' ⟨cw, hts _ w3, hts _ w4⟩ hpre rfl (by rw [List.length_map]; exact hn) hl hst (lv_room hcs') hd hfit) hS (fun q h => h.1) (fun q h => h.1) fin
theorem wl_get (SF : CallFix p m c cc nL s args wG own) (hKn : xKn dC dI dA s) {idx a ci k : Nat} {r fs : List Value} {v : Value} (hd : decode cc pc = .ok (.getfield idx, 3)) (hF : xFl own idx ci k) (hq : hp.1 a = .inr (ci, fs)) (hv : fs[k]? = some v) (hho : xHo b 0 gz dC dI dA hp H)
    (K : W p l e R s m args below meth c H locs cells slots Q (F0 m (pc + 3) ls (xcV b v :: r))) : W p l e R s m args below meth c H locs cells slots Q (F0 m pc ls (.ref (b + a) :: r)) := by
  obtain ⟨hx, hb, hml, hown, hts⟩ := SF
  obtain ⟨q, hc, hk, hlink⟩ := hF
  have hat := xW_at (b := b) (dA := dA) (xBd_r hho.2.1 hq hc) hq
  rw [xcE_o] at hat
  exact va_get (T := q.2.1) (N := q.2.2) (C := q.1) hx hb hts (xCl_i ci q hc) hown hKn.1 hho.2.2 (a - 0) hat hc k hk (hts _ hlink) (fun _ h => h) (by rw [List.getElem?_map, hv]; rfl) hd K
/-- So.row throws -/
theorem t_So_row {S : St} {n : Int32} (hl : l.stackTraces = false) (hC : isCl hp S) (hd6 : 10 ≤ d) (hT : n < 0 ∨ nI S.nr ≤ n) : xTC l d b gz m_So_row [.ref 0, .int n] hp := by
  intro dC dI dA
  refine vx_ofW (cc := prog_1_method_71_code) (maxL := 2) (ret := some .long) (by decide) rfl (fun p e s m args below meth c s₁ B hml ht hP => ?_)
  obtain ⟨rfl, ⟨hho, hkn⟩, hz⟩ := hP
  have hx := B.exec
  have hb := B.bytes
  have hlocks := B.notSynchronized
  have hts0 := atoms_spec (ws := xwY m_So_row) B.pre
  have hts : ∀ w ∈ wG, w.before _ s = true := fun w hw => hts0 w (List.mem_cons_of_mem _ hw)
  have hown : s.vm.findClass "SunnyOnes" = some m.cls := findClass_of_methodNamed B.named
  have hS : va_S (fun q => b ≤ q) s.heap s.heap [] := va_S.rf
  have hl0 := lv_entry ([.ref (b + 0), .int n]) (n := 2) (Nat.le_of_ble_eq_true rfl)
  show W p l e (xTRm d) s m _ below meth c s.heap [] 0 0 _ (entryFrame m ([.ref (b + 0), .int n] : List Value).toArray 2)
  rw [lg_entry_eq]
  generalize (lg_sl ([.ref (b + 0), .int n]) ++ List.replicate (2 - (lg_sl ([.ref (b + 0), .int n])).length) Slot.unset).toArray = ls at hl0 ⊢
  have hl1 : lv_has ls 2 [(0, .ref (b + 0)), (1, .int n)] := hl0
  have thr15 : ∀ (H : Heap) (locs : List Loc), xHo b 0 gz dC dI dA hp H → va_S (fun q => b ≤ q) s.heap H locs → W p l e (xTRm d) s m _ below meth c H locs 0 0 (vx_MQ below xTQ (xTX b dC dI dA hp) _ s 1 6 (fun q => b ≤ q)) (F0 m 15 ls []) := fun H locs hho hS =>
    wt_throw hx hb hl hml hown hts hz hho hS hl1.1 (by omega) (show decode prog_1_method_71_code 15 = .ok (.new 182, 3) by decide +kernel) (show decode prog_1_method_71_code 18 = .ok (.dup, 1) by decide +kernel) (show decode prog_1_method_71_code 19 = .ok (.invokespecial 184, 3) by decide +kernel) (show decode prog_1_method_71_code 22 = .ok (.athrow, 1) by decide +kernel) ht hlocks
  obtain ⟨lot, o1⟩ := hC.so
  refine lv_iload_n hx hb (show decode prog_1_method_71_code 0 = .ok (.iload_n 1, 1) by decide +kernel) rfl (lv_at hl1 1 rfl) ?_
  refine lv_if_lt (tgt := 15) hx hb (show decode prog_1_method_71_code 1 = .ok (.ifCond .lt 14, 3) by decide +kernel) (by decide) (fun _ => thr15 s.heap [] hho hS) (fun h0 => ?_)
  refine lv_iload_n hx hb (show decode prog_1_method_71_code 4 = .ok (.iload_n 1, 1) by decide +kernel) rfl (lv_at hl1 1 rfl) ?_
  refine lv_aload_n hx hb (show decode prog_1_method_71_code 5 = .ok (.aload_n 0, 1) by decide +kernel) rfl (lv_at hl1 0 rfl) ?_
  refine wl_get ⟨hx, hb, hml, hown, hts⟩ hkn (show decode prog_1_method_71_code 6 = .ok (.getfield 19, 3) by decide +kernel) fl_So_19 o1 rfl hho ?_
  have h9 : xmL m_Row_size ≤ 21 := by decide
  refine wl_callV (D := d - 1) (As := []) (r := [.int n]) (a := 3) ⟨hx, hb, hml, hown, hts⟩ hkn (show decode prog_1_method_71_code 9 = .ok (.invokevirtual 419, 3) by decide +kernel) ml_So_419 kd_Row_size hC.rw.1.1 (by simp [xcs, Value.category]) rfl rfl rfl ⟨by show d - 1 + 1 ≤ d; omega, by show 8 + (xmL m_Row_size + 11) + 40 * (d - 1) ≤ 40 * d; omega⟩ ⟨Nat.zero_le _, Nat.zero_le _⟩ (c_Row_size hC.rw.1 (K := fun r hq => r = nI S.nr ∧ hq = hp) ⟨rfl, rfl⟩) hho hS hl1.1 (fun v hq hv H1 locs1 hho1 hS1 => ?_)
  cases v with
  | none => exact hv.elim
  | some v =>
    cases v with
    | int r =>
      obtain ⟨rfl, rfl⟩ := hv
      exact lv_icmp_lt (tgt := 23) hx hb (show decode prog_1_method_71_code 12 = .ok (.if_icmp .lt 11, 3) by decide +kernel) (by decide) (fun h1 => (hT.elim h0 (fun h2 => absurd h1 (Int32.not_lt.mpr h2))).elim) (fun _ => thr15 _ _ hho1 hS1)
    | _ => exact hv.elim
/-- So.one throws -/
theorem t_So_one {S : St} {one what : Int32} (hl : l.stackTraces = false) (hC : isCl hp S) (hd6 : 10 ≤ d) (hT : yhas one (nI S.now.n) = 0 ∨ what < 0 ∨ 3 < what) : xTC l d b gz m_So_one [.ref 0, .int one, .int what] hp := by
  intro dC dI dA
  refine vx_ofW (cc := prog_1_method_9_code) (maxL := 3) (ret := some .int) (by decide) rfl (fun p e s m args below meth c s₁ B hml ht hP => ?_)
  obtain ⟨rfl, ⟨hho, hkn⟩, hz⟩ := hP
  have hx := B.exec
  have hb := B.bytes
  have hlocks := B.notSynchronized
  have hts0 := atoms_spec (ws := xwY m_So_one) B.pre
  have hts : ∀ w ∈ wG, w.before _ s = true := fun w hw => hts0 w (List.mem_cons_of_mem _ hw)
  have hown : s.vm.findClass "SunnyOnes" = some m.cls := findClass_of_methodNamed B.named
  have hS : va_S (fun q => b ≤ q) s.heap s.heap [] := va_S.rf
  have hl0 := lv_entry ([.ref (b + 0), .int one, .int what]) (n := 3) (Nat.le_of_ble_eq_true rfl)
  show W p l e (xTRm d) s m _ below meth c s.heap [] 0 0 _ (entryFrame m ([.ref (b + 0), .int one, .int what] : List Value).toArray 3)
  rw [lg_entry_eq]
  generalize (lg_sl ([.ref (b + 0), .int one, .int what]) ++ List.replicate (3 - (lg_sl ([.ref (b + 0), .int one, .int what])).length) Slot.unset).toArray = ls at hl0 ⊢
  have hl1 : lv_has ls 3 [(0, .ref (b + 0)), (1, .int one), (2, .int what)] := hl0
  have thr8 : ∀ (H : Heap) (locs : List Loc), xHo b 0 gz dC dI dA hp H → va_S (fun q => b ≤ q) s.heap H locs → W p l e (xTRm d) s m _ below meth c H locs 0 0 (vx_MQ below xTQ (xTX b dC dI dA hp) _ s 1 6 (fun q => b ≤ q)) (F0 m 8 ls []) := fun H locs hho hS =>
    wt_throw hx hb hl hml hown hts hz hho hS hl1.1 (by omega) (show decode prog_1_method_9_code 8 = .ok (.new 182, 3) by decide +kernel) (show decode prog_1_method_9_code 11 = .ok (.dup, 1) by decide +kernel) (show decode prog_1_method_9_code 12 = .ok (.invokespecial 184, 3) by decide +kernel) (show decode prog_1_method_9_code 15 = .ok (.athrow, 1) by decide +kernel) ht hlocks
  have thr88 : ∀ (H : Heap) (locs : List Loc), xHo b 0 gz dC dI dA hp H → va_S (fun q => b ≤ q) s.heap H locs → W p l e (xTRm d) s m _ below meth c H locs 0 0 (vx_MQ below xTQ (xTX b dC dI dA hp) _ s 1 6 (fun q => b ≤ q)) (F0 m 88 ls []) := fun H locs hho hS =>
    wt_throw hx hb hl hml hown hts hz hho hS hl1.1 (by omega) (show decode prog_1_method_9_code 88 = .ok (.new 182, 3) by decide +kernel) (show decode prog_1_method_9_code 91 = .ok (.dup, 1) by decide +kernel) (show decode prog_1_method_9_code 92 = .ok (.invokespecial 184, 3) by decide +kernel) (show decode prog_1_method_9_code 95 = .ok (.athrow, 1) by decide +kernel) ht hlocks
  obtain ⟨lot, o1⟩ := hC.so
  refine lv_aload_n hx hb (show decode prog_1_method_9_code 0 = .ok (.aload_n 0, 1) by decide +kernel) rfl (lv_at hl1 0 rfl) ?_
  refine lv_iload_n hx hb (show decode prog_1_method_9_code 1 = .ok (.iload_n 1, 1) by decide +kernel) rfl (lv_at hl1 1 rfl) ?_
  have h9 : xmL m_So_has ≤ 21 := by decide
  refine wl_callV (D := d - 1) (As := [.int one]) (r := []) (a := 0) ⟨hx, hb, hml, hown, hts⟩ hkn (show decode prog_1_method_9_code 2 = .ok (.invokevirtual 179, 3) by decide +kernel) ml_So_179 kd_So_has o1 (by simp [xcs, Value.category]) rfl rfl rfl ⟨by show d - 1 + 1 ≤ d; omega, by show 8 + (xmL m_So_has + 11) + 40 * (d - 1) ≤ 40 * d; omega⟩ ⟨Nat.zero_le _, Nat.zero_le _⟩ (show xMC l (d - 1) b 0 gz m_So_has [.ref 0, .int one] hp _ from by rw [show d - 1 = d - 2 + 1 by omega]; exact c_So_has hC (K := fun r hq => r = yhas one (nI S.now.n) ∧ hq = hp) ⟨rfl, rfl⟩) hho hS hl1.1 (fun v hq hv H1 locs1 hho1 hS1 => ?_)
  cases v with
  | none => exact hv.elim
  | some v =>
    cases v with
    | int r =>
      obtain ⟨rfl, rfl⟩ := hv
      refine lv_if_ne (tgt := 16) hx hb (show decode prog_1_method_9_code 5 = .ok (.ifCond .ne 11, 3) by decide +kernel) (by decide) (fun h1 => ?_) (fun _ => thr8 _ _ hho1 hS1)
      refine lv_iload_n hx hb (show decode prog_1_method_9_code 16 = .ok (.iload_n 2, 1) by decide +kernel) rfl (lv_at hl1 2 rfl) ?_
      have h2 : what.toInt < 0 ∨ (3 : Int) < what.toInt := by
        rcases hT with h3 | h3 | h3
        · exact absurd h3 h1
        · exact Or.inl (Int32.lt_iff_toInt_lt.mp h3)
        · exact Or.inr (Int32.lt_iff_toInt_lt.mp h3)
      exact lv_tableOut (tgt := 88) hx hb (show decode prog_1_method_9_code 17 = .ok (.tableswitch 71 0 3 #[31, 40, 49, 58], 31) by decide +kernel) h2 (by decide) (thr88 _ _ hho1 hS1)
    | _ => exact hv.elim
/-- So.place throws -/
theorem t_So_place {S : St} {pl what : Int32} (hl : l.stackTraces = false) (hC : isCl hp S) (hd6 : 10 ≤ d) (hT : yhas pl (nI S.nl) = 0 ∨ what < 0 ∨ 2 < what) : xTC l d b gz m_So_place [.ref 0, .int pl, .int what] hp := by
  intro dC dI dA
  refine vx_ofW (cc := prog_1_method_10_code) (maxL := 3) (ret := some .int) (by decide) rfl (fun p e s m args below meth c s₁ B hml ht hP => ?_)
  obtain ⟨rfl, ⟨hho, hkn⟩, hz⟩ := hP
  have hx := B.exec
  have hb := B.bytes
  have hlocks := B.notSynchronized
  have hts0 := atoms_spec (ws := xwY m_So_place) B.pre
  have hts : ∀ w ∈ wG, w.before _ s = true := fun w hw => hts0 w (List.mem_cons_of_mem _ hw)
  have hown : s.vm.findClass "SunnyOnes" = some m.cls := findClass_of_methodNamed B.named
  have hS : va_S (fun q => b ≤ q) s.heap s.heap [] := va_S.rf
  have hl0 := lv_entry ([.ref (b + 0), .int pl, .int what]) (n := 3) (Nat.le_of_ble_eq_true rfl)
  show W p l e (xTRm d) s m _ below meth c s.heap [] 0 0 _ (entryFrame m ([.ref (b + 0), .int pl, .int what] : List Value).toArray 3)
  rw [lg_entry_eq]
  generalize (lg_sl ([.ref (b + 0), .int pl, .int what]) ++ List.replicate (3 - (lg_sl ([.ref (b + 0), .int pl, .int what])).length) Slot.unset).toArray = ls at hl0 ⊢
  have hl1 : lv_has ls 3 [(0, .ref (b + 0)), (1, .int pl), (2, .int what)] := hl0
  have thr11 : ∀ (H : Heap) (locs : List Loc), xHo b 0 gz dC dI dA hp H → va_S (fun q => b ≤ q) s.heap H locs → W p l e (xTRm d) s m _ below meth c H locs 0 0 (vx_MQ below xTQ (xTX b dC dI dA hp) _ s 1 6 (fun q => b ≤ q)) (F0 m 11 ls []) := fun H locs hho hS =>
    wt_throw hx hb hl hml hown hts hz hho hS hl1.1 (by omega) (show decode prog_1_method_10_code 11 = .ok (.new 182, 3) by decide +kernel) (show decode prog_1_method_10_code 14 = .ok (.dup, 1) by decide +kernel) (show decode prog_1_method_10_code 15 = .ok (.invokespecial 184, 3) by decide +kernel) (show decode prog_1_method_10_code 18 = .ok (.athrow, 1) by decide +kernel) ht hlocks
  have thr75 : ∀ (H : Heap) (locs : List Loc), xHo b 0 gz dC dI dA hp H → va_S (fun q => b ≤ q) s.heap H locs → W p l e (xTRm d) s m _ below meth c H locs 0 0 (vx_MQ below xTQ (xTX b dC dI dA hp) _ s 1 6 (fun q => b ≤ q)) (F0 m 75 ls []) := fun H locs hho hS =>
    wt_throw hx hb hl hml hown hts hz hho hS hl1.1 (by omega) (show decode prog_1_method_10_code 75 = .ok (.new 182, 3) by decide +kernel) (show decode prog_1_method_10_code 78 = .ok (.dup, 1) by decide +kernel) (show decode prog_1_method_10_code 79 = .ok (.invokespecial 184, 3) by decide +kernel) (show decode prog_1_method_10_code 82 = .ok (.athrow, 1) by decide +kernel) ht hlocks
  obtain ⟨lot, o1⟩ := hC.so
  refine lv_aload_n hx hb (show decode prog_1_method_10_code 0 = .ok (.aload_n 0, 1) by decide +kernel) rfl (lv_at hl1 0 rfl) ?_
  refine wl_get ⟨hx, hb, hml, hown, hts⟩ hkn (show decode prog_1_method_10_code 1 = .ok (.getfield 26, 3) by decide +kernel) fl_So_26 o1 rfl hho ?_
  refine lv_iload_n hx hb (show decode prog_1_method_10_code 4 = .ok (.iload_n 1, 1) by decide +kernel) rfl (lv_at hl1 1 rfl) ?_
  have h9 : xmL m_Land_has ≤ 21 := by decide
  refine wl_callV (D := d - 1) (As := [.int pl]) (r := []) (a := 5) ⟨hx, hb, hml, hown, hts⟩ hkn (show decode prog_1_method_10_code 5 = .ok (.invokevirtual 198, 3) by decide +kernel) ml_So_198 kd_Land_has hC.ev.2.1.1 (by simp [xcs, Value.category]) rfl rfl rfl ⟨by show d - 1 + 1 ≤ d; omega, by show 8 + (xmL m_Land_has + 11) + 40 * (d - 1) ≤ 40 * d; omega⟩ ⟨Nat.zero_le _, Nat.zero_le _⟩ (c_Land_has hC.ev.2.1 (K := fun r hq => r = yhas pl (nI S.nl) ∧ hq = hp) ⟨rfl, rfl⟩) hho hS hl1.1 (fun v hq hv H1 locs1 hho1 hS1 => ?_)
  cases v with
  | none => exact hv.elim
  | some v =>
    cases v with
    | int r =>
      obtain ⟨rfl, rfl⟩ := hv
      refine lv_if_ne (tgt := 19) hx hb (show decode prog_1_method_10_code 8 = .ok (.ifCond .ne 11, 3) by decide +kernel) (by decide) (fun h1 => ?_) (fun _ => thr11 _ _ hho1 hS1)
      refine lv_iload_n hx hb (show decode prog_1_method_10_code 19 = .ok (.iload_n 2, 1) by decide +kernel) rfl (lv_at hl1 2 rfl) ?_
      have h2 : what.toInt < 0 ∨ (2 : Int) < what.toInt := by
        rcases hT with h3 | h3 | h3
        · exact absurd h3 h1
        · exact Or.inl (Int32.lt_iff_toInt_lt.mp h3)
        · exact Or.inr (Int32.lt_iff_toInt_lt.mp h3)
      exact lv_tableOut (tgt := 75) hx hb (show decode prog_1_method_10_code 20 = .ok (.tableswitch 55 0 2 #[28, 37, 46], 28) by decide +kernel) h2 (by decide) (thr75 _ _ hho1 hS1)
    | _ => exact hv.elim
end THC
