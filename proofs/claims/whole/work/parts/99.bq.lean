/-! ===== the law's helpers: rules ===== -/
section HLP
variable {p : Program} {l : Launch} {e : Env} {s : State} {m : MethodId} {args : Array Value} {below : List Frame} {meth : Method} {c : Code} {b d gz pc nL cells slots : Nat} {cc : ByteArray} {dC : Nat → ClassId} {dI : Nat → Nat → Nat} {dA : FieldType → ClassId} {H : Heap} {locs : List Loc} {ls : Array Slot} {hp : xHp} {R : Room} {Q : State → Prop} {own : String}
theorem wl_last (SF : CallFix p m c cc nL s args wG own) (hKn : xKn dC dI dA s) {a n : Nat} {g : Nat → Int64} {i : Int32} {x : Int64} {r : List Value} (hd : decode cc pc = .ok (.lastore, 1)) (hq : hp.1 a = .inl (.long, n, .inr (.inl g))) (hin : vp_in i n) (hho : xHo b 0 gz dC dI dA hp H) (hS : va_S (fun q => b ≤ q) s.heap H locs)
    (K : ∀ (H1 : Heap) (locs1 : List Loc), xHo b 0 gz dC dI dA (xup hp a (.inl (.long, n, .inr (.inl (vp_updL g i.toNatClampNeg x))))) H1 → va_S (fun q => b ≤ q) s.heap H1 locs1 → W p l e R s m args below meth c H1 locs1 cells slots Q (F0 m (pc + 1) ls r)) : W p l e R s m args below meth c H locs cells slots Q (F0 m pc ls (.long x :: .int i :: .ref (b + a) :: r)) := by
  obtain ⟨hx, hb, hml, hown, hts⟩ := SF
  have hrng := xBd_l hho.2.1 hq
  have hat := xW_at (b := b) (dA := dA) hrng hq
  have hD : va_D (fun q => b ≤ q) (xcW b 0 hp.2.1 dA hp.1) := xcW_D (fun k _ _ => Nat.le_add_right b k)
  refine W.last hx hb (hho.2.2 _ _ hat) ((hKn.1.2 3 (dA .long, .long) rfl).1 n (fun j => .long (g j))) (fun q => by cases q) (by show ¬ (i < 0 ∨ (arrV _ _ _).slots.size ≤ _); rw [arrV_size]; exact hin) rfl rfl hd fun H1 e1 z oq =>
    K H1 _ ⟨z.trans hho.1, xBd_up hho.2.1 hrng.1 hrng.2, ?_⟩ (hS.put z oq (Nat.le_add_right b a))
  have e2 : H1[b + a]? = some ((vp_cell (dA .long) (n, .inr (.inl g))).setSlot i.toNatClampNeg (.long x)) := e1
  have h3 := hho.2.2.set (e := xcE b dA (.inl (.long, n, .inr (.inl (vp_updL g i.toNatClampNeg x))))) hD hat (by
    show H1[b + a]? = some (vp_cell (dA .long) (n, .inr (.inl (vp_updL g i.toNatClampNeg x))))
    rw [e2]
    rw [vp_cell_l, vp_cell_l, arrV_store]
    congr 2
    funext q
    by_cases hq : q = i.toNatClampNeg
    · subst hq
      simp [updV, vp_updL]
    · simp [updV, vp_updL, hq]) oq
  rw [xcW_set hrng.1 hrng.2] at h3
  exact h3
theorem nRun_go {rest st0 : List Value} {a : Array Value} {Po : Option Value → xHp → Prop} (hr : va_Run p l e R s m args below meth c H locs cells slots 0 0 (F0 m pc ls st0) rest (xNQ b gz dC dI dA Po a) (fun q => b ≤ q)) (hS : va_S (fun q => b ≤ q) s.heap H locs)
    (kk : ∀ (v : Option Value) (hp' : xHp) (H1 : Heap) (locs1 : List Loc), Po v hp' → xHo b 0 gz dC dI dA hp' H1 → va_S (fun q => b ≤ q) s.heap H1 locs1 → W p l e R s m args below meth c H1 locs1 cells slots Q (F0 m (pc + 3) ls ((v.map (xcV b)).toList ++ rest))) : W p l e R s m args below meth c H locs cells slots Q (F0 m pc ls st0) := by
  intro T hT X
  obtain ⟨v, st₀, t, T', L, h0, X', hL, e1, e2, ⟨⟨v', hp', hv, hpo, hho⟩, hz, hk⟩, st⟩ := hr T hT X
  cases hv
  rw [h0] at hz hk
  obtain ⟨t2, a1, b1⟩ := kk v' hp' T'.heap (locs ++ L) hpo (by rw [e1]; exact hho)
    ⟨Nat.le_trans hS.1 (by rw [e1]; exact hz), fun q h1 h2 => by rw [e1, hk q (Nat.lt_of_lt_of_le h1 hS.1) h2]; exact hS.2.1 q h1 h2, fun q hq => by
      rcases List.mem_append.mp hq with h | h
      · exact hS.2.2 q h
      · exact hL q h⟩ T' rfl X'
  exact ⟨t2, st t2 a1, b1⟩
theorem wl_callN (SF : CallFix p m c cc nL s args wG own) (hKn : xKn dC dI dA s) {idx a ci D : Nat} {r As fs : List Value} {m' : xMI} {Po : Option Value → xHp → Prop} (hd : decode cc pc = .ok (.invokevirtual idx, 3)) (hlk : Cond.methodLink own idx (xmY m') ∈ wG) (hV : xKV m' ci) (hq : hp.1 a = .inr (ci, fs)) (hcs : xcs r 8) (hn : As.length = xmN m') (h0 : xmC m' = 0) (h1 : xmS m' = 0) (hroom : D + 1 ≤ R.frames ∧ 8 + (xmL m' + 11) + 40 * D ≤ R.locals) (hfit0 : cells ≤ R.cells ∧ slots ≤ R.slots) (hM : xNC l D b gz m' (.ref a :: As) hp Po) (hho : xHo b 0 gz dC dI dA hp H) (hS : va_S (fun q => b ≤ q) s.heap H locs) (hl : ls.size = nL)
    (K : ∀ (v : Option Value) (hp' : xHp), Po v hp' → ∀ (H1 : Heap) (locs1 : List Loc), xHo b 0 gz dC dI dA hp' H1 → va_S (fun q => b ≤ q) s.heap H1 locs1 → W p l e R s m args below meth c H1 locs1 cells slots Q (F0 m (pc + 3) ls ((v.toList ++ r).map (xcV b)))) : W p l e R s m args below meth c H locs cells slots Q (F0 m pc ls ((As.reverse ++ .ref a :: r).map (xcV b))) := by
  obtain ⟨hx, hb, hml, hown, hts⟩ := id SF
  obtain ⟨⟨w1, w2, ⟨g1, g2, g3⟩, g4⟩, w3, w4, q, hcl, hqc⟩ := hV
  have hM' := hM dC dI dA
  obtain ⟨S1, S2, S3⟩ := id hho
  have hat := xW_at (b := b) (dA := dA) (xBd_r S2 hq hcl) hq
  rw [xcE_o] at hat
  have hrecv := va_recv hKn.1 S3 hcl hat
  rw [hqc] at hrecv
  have hroom' : (xRm D m').frames + 1 ≤ R.frames ∧ 8 + (xmL m' + 11) + (xRm D m').locals ≤ R.locals := hroom
  have hcs' : ((r.map (xcV b)).map fun v => v.category).sum ≤ 8 := by rw [xcs_map]; exact xcs_sum r 8 hcs
  have hst : (F0 m pc ls ((As.reverse ++ Value.ref a :: r).map (xcV b))).stack = (As.map (xcV b)).reverse ++ .ref (b + a) :: r.map (xcV b) := by
    simp [xcV]
  have hpre : PreV s H (xmY m').cls (b + a) (xPre b 0 gz dC dI dA hp (.ref a :: As)) (As.map (xcV b)) := ⟨xPre_blind, hrecv, fun U hU hW => ⟨rfl, by rw [hU]; exact ⟨S1, S2, S3⟩, xKn_warm hW hKn⟩⟩
  have cw : CallW R s args own (xmY m').cls idx (xmY m') (xmB m') (xmL m') (xmR m') (xwY m') (xRm D m') 0 0 (xmN m') :=
    ⟨callB_of (xmN m') hts (xGood w2) rfl h0 h1 (hts _ w1) (hts _ hlk) ⟨g1, g2, g3⟩ hroom', hts _ w3, hts _ w4⟩
  refine nRun_go (va_runV ⟨hx, hb, hml, hown, hts⟩ hM' cw hpre rfl (by rw [List.length_map]; exact hn) hl hst (lv_room hcs') hd hfit0) hS (fun v hp' H1 locs1 hpo hho2 hS2 => ?_)
  have K1 := K v hp' hpo H1 locs1 hho2 hS2
  rw [List.map_append] at K1
  have e9 : (v.map (xcV b)).toList = v.toList.map (xcV b) := by cases v <;> rfl
  rw [e9]
  exact K1
end HLP
def isDC (w : Cond) : Bool := match w with
  | .declares _ => true
  | .castable _ _ => true
  | _ => false
set_option maxRecDepth 100000 in
theorem atB_dc : ∀ w ∈ atB, isDC w = true := by decide +kernel
theorem zU_warm {b : Nat} {s U : State} {H : Heap} {locs : List Loc} (hz : zU b s) (hS : va_S (fun q => b ≤ q) s.heap H locs) (hU : U.heap = H) (hW : s.WarmedH U.vm) : zU b U := by
  obtain ⟨h1, h2, h3⟩ := hz
  refine ⟨by rw [hU]; exact vx_Zq.moved hW.alike (h1.kept hS.2.1), by rw [hU]; exact vx_Zq.moved hW.alike (h2.kept hS.2.1), fun w hw => ?_⟩
  have h4 := h3 w hw
  have h5 := atB_dc w hw
  cases w with
  | declares x => exact va_Nw.warmD hW h4
  | castable C T => exact va_Nw.warmC hW h4
  | _ => exact absurd h5 (by simp [isDC])
