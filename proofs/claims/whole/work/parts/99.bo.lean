/-! ===== one, place, row of the program: when they throw ===== -/
section THC
variable {p : Program} {l : Launch} {e : Env} {s : State} {m : MethodId} {args : Array Value} {below : List Frame} {meth : Method} {c : Code} {b d gz pc nL cells slots : Nat} {cc : ByteArray} {dC : Nat → ClassId} {dI : Nat → Nat → Nat} {dA : FieldType → ClassId} {H : Heap} {locs : List Loc} {ls : Array Slot} {hp : xHp} {R : Room} {Q : State → Prop} {own : String}
theorem wl_callV (SF : CallFix p m c cc nL s args wG own) (hKn : xKn dC dI dA s) {idx a ci D : Nat} {r As fs : List Value} {m' : xMI} {Po : Option Value → xHp → Prop} (hd : decode cc pc = .ok (.invokevirtual idx, 3)) (hlk : xLk own idx m') (hV : xKV m' ci) (hq : hp.1 a = .inr (ci, fs)) (hcs : xcs r 8) (hn : As.length = xmN m') (h0 : xmC m' = 0) (h1 : xmS m' = 0) (hroom : D + 1 ≤ R.frames ∧ 8 + (xmL m' + 11) + 40 * D ≤ R.locals) (hfit0 : cells ≤ R.cells ∧ slots ≤ R.slots) (hM : xMC l D b 0 gz m' (.ref a :: As) hp Po) (hho : xHo b 0 gz dC dI dA hp H) (hS : va_S (fun q => b ≤ q) s.heap H locs) (hl : ls.size = nL)
    (K : ∀ (v : Option Value) (hp' : xHp), Po v hp' → ∀ (H1 : Heap) (locs1 : List Loc), xHo b 0 gz dC dI dA hp' H1 → va_S (fun q => b ≤ q) s.heap H1 locs1 → W p l e R s m args below meth c H1 locs1 cells slots Q (F0 m (pc + 3) ls ((v.toList ++ r).map (xcV b)))) : W p l e R s m args below meth c H locs cells slots Q (F0 m pc ls ((As.reverse ++ .ref a :: r).map (xcV b))) := by
  obtain ⟨hx, hb, hml, hown, hts⟩ := id SF
  obtain ⟨⟨w1, w2, ⟨g1, g2, g3⟩, g4⟩, w3, w4, q, hcl, hqc⟩ := hV
  have hM' := hM (Nat.zero_le _) dC dI dA
  obtain ⟨S1, S2, S3⟩ := id hho
  have hat := xW_at (b := b) (dA := dA) (xBd_r S2 hq hcl) hq
  rw [xcE_o] at hat
  have hrecv := va_recv hKn.1 S3 hcl hat
  rw [hqc] at hrecv
  have hroom' : (xRm D m').frames + 1 ≤ R.frames ∧ 8 + (xmL m' + 11) + (xRm D m').locals ≤ R.locals := hroom
  have hcs' : ((r.map (xcV b)).map fun v => v.category).sum ≤ 8 := by rw [xcs_map]; exact xcs_sum r 8 hcs
  have hfit : cells + xmC m' ≤ R.cells ∧ slots + xmS m' ≤ R.slots := by rw [h0, h1]; exact hfit0
  have hst : (F0 m pc ls ((As.reverse ++ Value.ref a :: r).map (xcV b))).stack = (As.map (xcV b)).reverse ++ .ref (b + a) :: r.map (xcV b) := by
    simp [xcV]
  have hpre : PreV s H (xmY m').cls (b + a) (xPre b 0 gz dC dI dA hp (.ref a :: As)) (As.map (xcV b)) := ⟨xPre_blind, hrecv, fun U hU hW => ⟨rfl, by rw [hU]; exact ⟨S1, S2, S3⟩, xKn_warm hW hKn⟩⟩
  have fin : ∀ (v : Option Value) (hp' : xHp) (H1 : Heap) (locs1 : List Loc), Po v hp' → hp'.2.1 = hp.2.1 + xmC m' → hp'.2.2 = hp.2.2 + xmS m' → xHo b 0 gz dC dI dA hp' H1 → va_S (fun q => b ≤ q) s.heap H1 locs1 → W p l e R s m args below meth c H1 locs1 (cells + xmC m') (slots + xmS m') Q (F0 m (pc + 3) ls ((v.map (xcV b)).toList ++ r.map (xcV b))) := by
    intro v hp' H1 locs1 hpo hn2 hs2 hho2 hS2
    have K1 := K v hp' hpo H1 locs1 hho2 hS2
    rw [List.map_append] at K1
    have e9 : (v.map (xcV b)).toList = v.toList.map (xcV b) := by cases v <;> rfl
    rw [e9, h0, h1]
    exact K1
  rcases hlk with hl1 | ⟨host, hl1⟩
  · have cw : CallW R s args own (xmY m').cls idx (xmY m') (xmB m') (xmL m') (xmR m') (xwY m') (xRm D m') (xmC m') (xmS m') (xmN m') :=
      ⟨callB_of (xmN m') hts (xGood w2) rfl rfl rfl (hts _ w1) (hts _ hl1) ⟨g1, g2, g3⟩ hroom', hts _ w3, hts _ w4⟩
    exact xRun_go (va_runV ⟨hx, hb, hml, hown, hts⟩ hM' cw hpre rfl (by rw [List.length_map]; exact hn) hl hst (lv_room hcs') hd hfit) hS (fun q h => h.1) (fun q h => h.1) fin
  · have cw := va_cnB (R := R) (s := s) (args := args) (own := own) (host := host) (index := idx) (rm := xRm D m') (mc := xmC m') (ms := xmS m') (xmN m') hts (xGood w2) rfl rfl rfl (hKn.2.1 _ hl1) (hts _ w1) ⟨g1, g2, g3⟩ hroom'
    exact xRun_go (va_runVN ⟨hx, hb, hml, hown, hts⟩ hM' ⟨cw, hts _ w3, hts _ w4⟩ hpre rfl (by rw [List.length_map]; exact hn) hl hst (lv_room hcs') hd hfit) hS (fun q h => h.1) (fun q h => h.1) fin
theorem wl_get (SF : CallFix p m c cc nL s args wG own) (hKn : xKn dC dI dA s) {idx a ci k : Nat} {r fs : List Value} {v : Value} (hd : decode cc pc = .ok (.getfield idx, 3)) (hF : xFl own idx ci k) (hq : hp.1 a = .inr (ci, fs)) (hv : fs[k]? = some v) (hho : xHo b 0 gz dC dI dA hp H)
    (K : W p l e R s m args below meth c H locs cells slots Q (F0 m (pc + 3) ls (xcV b v :: r))) : W p l e R s m args below meth c H locs cells slots Q (F0 m pc ls (.ref (b + a) :: r)) := by
  obtain ⟨hx, hb, hml, hown, hts⟩ := SF
  obtain ⟨q, hc, hk, hlink⟩ := hF
  have hat := xW_at (b := b) (dA := dA) (xBd_r hho.2.1 hq hc) hq
  rw [xcE_o] at hat
  exact va_get (T := q.2.1) (N := q.2.2) (C := q.1) hx hb hts (xCl_i ci q hc) hown hKn.1 hho.2.2 (a - 0) hat hc k hk (hts _ hlink) (fun _ h => h) (by rw [List.getElem?_map, hv]; rfl) hd K
/-- So.row throws -/
theorem t_So_row {S : St} {n : Int32} (hl : l.stackTraces = false) (hC : isCl hp S) (hd6 : 10 ≤ d) (hT : n < 0 ∨ nI S.nr ≤ n) : xTC l d b gz m_So_row [.ref 0, .int n] hp := by
  intro dC dI dA
  refine vx_ofW (cc := prog_1_method_71_code) (maxL := 2) (ret := some .long) (by decide) rfl (fun p e s m args below meth c s₁ B hml ht hP => ?_)
  obtain ⟨rfl, ⟨hho, hkn⟩, hz⟩ := hP
  have hx := B.exec
  have hb := B.bytes
  have hlocks := B.notSynchronized
  have hts0 := atoms_spec (ws := xwY m_So_row) B.pre
  have hts : ∀ w ∈ wG, w.before _ s = true := fun w hw => hts0 w (List.mem_cons_of_mem _ hw)
  have hown : s.vm.findClass "SunnyOnes" = some m.cls := findClass_of_methodNamed B.named
  have hS : va_S (fun q => b ≤ q) s.heap s.heap [] := va_S.rf
  have hl0 := lv_entry ([.ref (b + 0), .int n]) (n := 2) (Nat.le_of_ble_eq_true rfl)
  show W p l e (xTRm d) s m _ below meth c s.heap [] 0 0 _ (entryFrame m ([Value.ref (b + 0), .int n] : List Value).toArray 2)
  rw [lg_entry_eq]
  generalize (lg_sl ([.ref (b + 0), .int n]) ++ List.replicate (2 - (lg_sl ([.ref (b + 0), .int n])).length) Slot.unset).toArray = ls at hl0 ⊢
  have hl1 : lv_has ls 2 [(0, .ref (b + 0)), (1, .int n)] := hl0
  have thr : ∀ (H : Heap) (locs : List Loc), xHo b 0 gz dC dI dA hp H → va_S (fun q => b ≤ q) s.heap H locs → W p l e (xTRm d) s m _ below meth c H locs 0 0 (vx_MQ below xTQ (xTX b dC dI dA hp) _ s 1 6 (fun q => b ≤ q)) (F0 m 15 ls []) := fun H locs hho hS =>
    wt_throw hx hb hl hml hown hts hz hho hS hl1.1 (by omega) (show decode prog_1_method_71_code 15 = .ok (.new 182, 3) by decide +kernel) (show decode prog_1_method_71_code 18 = .ok (.dup, 1) by decide +kernel) (show decode prog_1_method_71_code 19 = .ok (.invokespecial 184, 3) by decide +kernel) (show decode prog_1_method_71_code 22 = .ok (.athrow, 1) by decide +kernel) ht hlocks
  refine lv_iload_n hx hb (show decode prog_1_method_71_code 0 = .ok (.iload_n 1, 1) by decide +kernel) rfl (lv_at hl1 1 rfl) ?_
  sorry
end THC
