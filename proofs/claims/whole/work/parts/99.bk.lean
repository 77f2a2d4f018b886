/-! ===== the law from its entry ===== -/
section LAWN
variable {p : Program} {l : Launch} {e : Env} {s : State} {m : MethodId} {below : List Frame} {meth : Method} {c : Code} {b L : Nat} {xs : Nat → Int32} {dC : Nat → ClassId} {dI : Nat → Nat → Nat} {dA : FieldType → ClassId} {gz cells slots pc : Nat} {lv : List (Nat × Value)} {st r : List Value} {hp : xHp}
theorem lw_push {H H1 : Heap} {locs : List Loc} {N : Nat} {e : xAE} (hho : xHo s.heap.size 0 0 dC dI dA hp H) (hS : va_S (fun q => s.heap.size ≤ q) s.heap H locs) (he : va_at (dC, dI) xCl (s.heap.size + hp.2.1, xcE s.heap.size dA e) H1) (z : H1.size = H.size + 1) (o1 : ∀ q : Nat, q < H.size → H1[q]? = H[q]?) :
    xHo s.heap.size 0 0 dC dI dA (va_up hp.1 hp.2.1 e, hp.2.1 + 1, hp.2.2 + N) H1 ∧ va_S (fun q => s.heap.size ≤ q) s.heap H1 locs := by
  obtain ⟨S1, S2, S3⟩ := hho
  refine ⟨⟨by show _ = _ + (hp.2.1 + 1) + _; omega, xBd_push S2 (by omega), ?_⟩, ⟨by have := hS.1; omega, fun x h1 h2 => (o1 x (Nat.lt_of_lt_of_le h1 hS.1)).trans (hS.2.1 x h1 h2), hS.2.2⟩⟩
  show va_P (dC, dI) xCl (xcW s.heap.size 0 (hp.2.1 + 1) dA (va_up hp.1 hp.2.1 e)) H1
  rw [← xcW_push (by omega)]
  refine (S3.kept fun k q hq => o1 q.1 ((S3 k q hq).lt)).app (fun k q hq => ?_)
  have hz : k < 1 := (List.getElem?_eq_some_iff.mp hq).1
  rw [show k = 0 by omega] at hq
  cases hq
  exact he
theorem lw_new (C0 : lw_At p s m meth c b L xs) (hKn : xKn dC dI dA s) {idx ci : Nat} (hd : decode code pc = .ok (.new idx, 3)) (hk : xKN R_law idx ci) (hc : cells + 1 ≤ 601024) (hs : slots + (xDf ci).length ≤ 7293034)
    (K : LJ p l e s m below meth c b dC dI dA 0 (cells + 1) (slots + (xDf ci).length) (pc + 3) lv (.ref hp.2.1 :: r) (va_up hp.1 hp.2.1 (.inr (ci, xDf ci)), hp.2.1 + 1, hp.2.2 + (xDf ci).length)) : LJ p l e s m below meth c b dC dI dA 0 cells slots pc lv r hp := by
  intro H locs ls hho hS hl
  obtain ⟨hx, hb, hr, hml, hown, hts, hX, hbl, hlocks, hgv⟩ := id C0
  have hts' : ∀ w ∈ wG, w.before #[Value.ref b] s = true := fun w hw => hts w (wG_in w hw)
  obtain ⟨q, hcl, w1, w2, w3, hlen⟩ := hk
  have hK1 := hKn.1.1 ci _ hcl
  rw [hlen] at hs K
  refine W.newcK hx hb hown (hts' _ w1) (hts' _ w2) (hts' _ w3) rfl hd hc hs hK1.2.1 rfl fun H1 kC hkC e1 z1 o1 => ?_
  have hH : H.size = s.heap.size + hp.2.1 := by rw [hho.1]; rfl
  have P := lw_push (e := .inr (ci, xDf ci)) (N := q.2.2) hho hS (by
    refine ⟨q, hcl, ?_⟩
    show t_OB (s.heap.size + hp.2.1) (dC ci) q.2.2 (dI ci) H1 (vp_V ((xDf ci).map (xcV s.heap.size)))
    rw [xDf_id, ← hH]
    exact (u_born (xTy ci) hts' (xCl_i ci q hcl) hK1 hkC e1 (xCl_t ci q hcl)).to (xCl_d ci q hcl)) z1 o1
  have K1 := K H1 locs ls P.1 P.2 hl
  rw [hH]
  exact K1
theorem lw_newl (C0 : lw_At p s m meth c b L xs) (hKn : xKn dC dI dA s) (hd : decode code pc = .ok (.newarray .long, 2)) (hw : Cond.arrayClass .long ∈ wG) (hc : cells + 1 ≤ 601024) (hs : slots + 1 ≤ 7293034)
    (K : LJ p l e s m below meth c b dC dI dA 0 (cells + 1) (slots + 1) (pc + 2) lv (.ref hp.2.1 :: r) (va_up hp.1 hp.2.1 (.inl (.long, xZero .long 1)), hp.2.1 + 1, hp.2.2 + 1)) : LJ p l e s m below meth c b dC dI dA 0 cells slots pc lv (.int 1 :: r) hp := by
  intro H locs ls hho hS hl
  obtain ⟨hx, hb, hr, hml, hown, hts, hX, hbl, hlocks, hgv⟩ := id C0
  have hts' : ∀ w ∈ wG, w.before #[Value.ref b] s = true := fun w hw => hts w (wG_in w hw)
  refine va_newaK (atype := .long) (N := 1) hx hb (hts' _ (show Cond.arrayClass (newarray.typeOf .long) ∈ wG from hw)) rfl hd rfl (by decide) (by decide) (by decide) hc hs rfl fun H1 cA e1 z1 o1 hAr hNm => ?_
  have hcA : cA = dA .long := Option.some.inj (hNm.symm.trans (xTy_cls hKn (Or.inr (Or.inr (Or.inr rfl)))))
  subst hcA
  have hH : H.size = s.heap.size + hp.2.1 := by rw [hho.1]; rfl
  have P := lw_push (e := .inl (.long, xZero .long 1)) (N := 1) hho hS (by show H1[s.heap.size + hp.2.1]? = some (vp_cell _ _); rw [← hH, e1]; exact congrArg some (xZero_cell (ty := .long) (Or.inr (Or.inr (Or.inr rfl))) s.heap.size 1 (dA .long)).symm) z1 o1
  have K1 := K H1 locs ls P.1 P.2 hl
  rw [hH]
  exact K1
theorem lw_callI (C0 : lw_At p s m meth c b L xs) (hKn : xKn dC dI dA s) {idx a : Nat} {m' : xMI} {K0 : xHp → Prop} (hd : decode code pc = .ok (.invokespecial idx, 3)) (hlk : Cond.methodLink R_law idx (xmY m') ∈ wG) (hV : xKI m') (hcs : xcs r 8) (hn : 0 = xmN m') (hc : cells + xmC m' ≤ 601024) (hs : slots + xmS m' ≤ 7293034) (hM : xMv l 100 s.heap.size 0 0 m' [.ref a] hp K0)
    (K : ∀ hp', K0 hp' → LJ p l e s m below meth c b dC dI dA 0 (cells + xmC m') (slots + xmS m') (pc + 3) lv r hp') : LJ p l e s m below meth c b dC dI dA 0 cells slots pc lv (.ref a :: r) hp := by
  intro H locs ls hho hS hl
  obtain ⟨hx, hb, hr, hml, hown, hts, hX, hbl, hlocks, hgv⟩ := id C0
  have hts' : ∀ w ∈ wG, w.before #[Value.ref b] s = true := fun w hw => hts w (wG_in w hw)
  obtain ⟨⟨w1, w2, ⟨g1, g2, g3⟩, g4⟩, w3, hy1, hrn⟩ := hV
  have hM' := hM (Nat.zero_le _) dC dI dA
  obtain ⟨S1, S2, S3⟩ := id hho
  have hroom : (xRm 100 m').frames + 1 ≤ room_1.frames ∧ 8 + (xmL m' + 11) + (xRm 100 m').locals ≤ room_1.locals := ⟨by show 100 + 1 ≤ 2048; decide, by show 8 + (xmL m' + 11) + 40 * 100 ≤ 84000; omega⟩
  have hcs' : ((r.map (xcV s.heap.size)).map fun v => v.category).sum ≤ 8 := by rw [xcs_map]; exact xcs_sum r 8 hcs
  have hpre : PreS s H (xPre s.heap.size 0 0 dC dI dA hp [.ref a]) (.ref (s.heap.size + a) :: ([] : List Value)) := ⟨xPre_blind, fun U hU hW => ⟨rfl, by rw [hU]; exact ⟨S1, S2, S3⟩, xKn_warm hW hKn⟩⟩
  have w2' : Cond.code (xmY m') (xmB m') (xmL m') none ∈ wG := by rw [← hrn]; exact w2
  have hwn : xwY m' = Cond.code (xmY m') (xmB m') (xmL m') none :: wG := by rw [← hrn]; rfl
  have cw : CallB room_1 s #[Value.ref b] R_law idx (xmY m') (xmB m') (xmL m') none (xwY m') (xRm 100 m') (xmC m') (xmS m') (xmN m') :=
    callB_of (xmN m') hts' (xGood w2) hwn rfl rfl (hts' _ w1) (hts' _ hlk) ⟨g1, g2, g3⟩ hroom
  refine xRun_go (va_runI (As := []) ⟨hx, hb, hml, hown, hts'⟩ hM' ⟨cw, hy1, hts' _ w3⟩ hpre rfl hn hl.1 rfl (lv_room hcs') hd ⟨hc, hs⟩) hS (fun q h => h.1) (fun q h => h.1) (fun v hp' H1 locs1 hpo hn2 hs2 hho2 hS2 => ?_)
  cases v with
  | some v => exact hpo.elim
  | none => exact K hp' hpo H1 locs1 ls hho2 hS2 hl
def f00 : Nat → xAE := fun _ => .inr (99, [])
set_option maxHeartbeats 4000000 in
theorem lw_enter (C0 : lw_At p s m meth c b L xs) (hKn : xKn dC dI dA s) (K : ∀ hp, Rel 0 hp → LJ p l e s m below meth c b dC dI dA 0 133 6451 23 (LV s b 0) [] hp) : LJ p l e s m below meth c b dC dI dA 0 0 0 0 [(0, .ref b)] [] (f00, 0, 0) := by
  obtain ⟨hx, hb, hr, hml, hown, hts, hX, hbl, hlocks, hgv⟩ := id C0
  refine lw_new (ci := 0) C0 hKn (show decode code 0 = .ok (.new 8, 3) by decide +kernel) ⟨_, rfl, (wg1 20 (by decide +kernel) rfl), (wg1 21 (by decide +kernel) rfl), (wg1 1 (by decide +kernel) rfl), rfl⟩ (by decide) (by decide) ?_
  intro H locs ls hho hS hl
  refine lv_dup hx hb (show decode code 3 = .ok (.dup, 1) by decide +kernel) rfl ?_
  refine lw_callI (r := [.ref 0]) (a := 0) (hp := (va_up f00 0 (.inr (0, xDf 0)), 1, 17)) (m' := m_So_new) (K0 := fun hp' => hp'.2 = (103, 1033) ∧ ∀ (G' : Nat → xAE) (w : Nat × Nat), (∀ k, k < 103 → G' k = hp'.1 k) → isCl (G', w) s0) C0 hKn (show decode code 4 = .ok (.invokespecial 22, 3) by decide +kernel) (wg1 22 (by decide +kernel) rfl) kd_So_new (by simp [xcs, Value.category]) rfl (by decide) (by decide) (c_So_new (d := 96) (va_up_self _ _ _) (fun G hG => ⟨rfl, hG⟩)) (fun hp' hC => ?_) H locs ls hho hS hl
  obtain ⟨G, w⟩ := hp'
  obtain ⟨ew, hC⟩ := hC
  obtain rfl : w = (103, 1033) := ew
  intro H locs ls hho hS hl
  refine lv_astore_n (x := s.heap.size + 0) (lv' := [(1, .ref (s.heap.size + 0)), (0, .ref b)]) hx hb (show decode code 7 = .ok (.astore_n 1, 1) by decide +kernel) rfl hl (by decide) rfl (fun ls hl => ?_)
  refine lw_new (r := []) (ci := 12) C0 hKn (show decode code 8 = .ok (.new 23, 3) by decide +kernel) ⟨_, rfl, (wg5 200 (by decide +kernel) rfl), (wg5 201 (by decide +kernel) rfl), (wg1 14 (by decide +kernel) rfl), rfl⟩ (by decide) (by decide) ?_ H locs ls hho hS hl
  intro H locs ls hho hS hl
  refine lv_dup hx hb (show decode code 11 = .ok (.dup, 1) by decide +kernel) rfl ?_
  refine lw_callI (r := [.ref 103]) (a := 103) (hp := (va_up G 103 (.inr (12, xDf 12)), 104, 1080)) (m' := m_Mo_new) (K0 := fun hp' => hp'.2 = (132, 6450) ∧ (∀ k, k < 103 → hp'.1 k = G k) ∧ isMM hp' x0 s0) C0 hKn (show decode code 12 = .ok (.invokespecial 25, 3) by decide +kernel) (wg5 202 (by decide +kernel) rfl) kd_Mo_new (by simp [xcs, Value.category]) rfl (by decide) (by decide) (c_Mo_new (d := 99) (va_up_self _ _ _) (fun G2 h1 h2 => ⟨rfl, fun k hk => (h1 k hk).trans (va_up_ne _ _ (by omega)), h2⟩)) (fun hp' hM => ?_) H locs ls hho hS hl
  obtain ⟨G2, w⟩ := hp'
  obtain ⟨ew, t2, hM⟩ := hM
  obtain rfl : w = (132, 6450) := ew
  intro H locs ls hho hS hl
  refine lv_astore_n (x := s.heap.size + 103) (lv' := [(2, .ref (s.heap.size + 103)), (1, .ref (s.heap.size + 0)), (0, .ref b)]) hx hb (show decode code 15 = .ok (.astore_n 2, 1) by decide +kernel) rfl hl (by decide) rfl (fun ls hl => ?_)
  refine lv_iconst (v := 1) hx hb (show decode code 16 = .ok (.iconst 1, 1) by decide +kernel) (by decide) ?_
  refine lw_newl (r := []) C0 hKn (show decode code 17 = .ok (.newarray .long, 2) by decide +kernel) (wg1 55 (by decide +kernel) rfl) (by decide) (by decide) ?_ H locs ls hho hS hl
  intro H locs ls hho hS hl
  refine lv_astore_n (x := s.heap.size + 132) (lv' := [(3, .ref (s.heap.size + 132)), (2, .ref (s.heap.size + 103)), (1, .ref (s.heap.size + 0)), (0, .ref b)]) hx hb (show decode code 19 = .ok (.astore_n 3, 1) by decide +kernel) rfl hl (by decide) rfl (fun ls hl => ?_)
  refine lv_iconst (v := nI 0) hx hb (show decode code 20 = .ok (.iconst 0, 1) by decide +kernel) (by decide) ?_
  refine lv_istore (lv' := [(4, .int (nI 0)), (3, .ref (s.heap.size + 132)), (2, .ref (s.heap.size + 103)), (1, .ref (s.heap.size + 0)), (0, .ref b)]) hx hb (show decode code 21 = .ok (.istore 4, 2) by decide +kernel) hl (by decide) rfl (fun ls hl => ?_)
  refine W.widen (k := 133) (n := 6451) (by decide) (by decide) ?_
  have hM' : isMM (G2, 133, 6451) x0 s0 := hM
  have ha : xAg (G2, 133, 6451) (va_up G2 132 (.inl (.long, xZero .long 1)), 133, 6451) [132] := ⟨rfl, fun k hk => by
    have hk' : k ≠ 132 := by simpa using hk
    exact va_up_ne _ _ hk'⟩
  have hR : Rel 0 (va_up G2 132 (.inl (.long, xZero .long 1)), 133, 6451) := ⟨s0, x0, hC _ _ (fun k hk => (va_up_ne _ _ (by omega)).trans (t2 k hk)), isMM_ag ha (fun k hk => by simp at hk; omega) hM', wf_s0, ⟨fun _ => 0, (show va_up G2 132 (.inl (.long, 1, .inr (.inl (fun _ => 0)))) 132 = _ from va_up_self _ _ _)⟩⟩
  exact K _ hR H locs ls hho hS (lv_sub hl [4, 0, 3, 2, 1] rfl)
end LAWN
