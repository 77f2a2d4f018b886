/-! ===== the law's own walk: rules ===== -/
def LJ (p : Program) (l : Launch) (e : Env) (s : State) (m : MethodId) (below : List Frame) (meth : Method) (c : Code) (b : Nat) (dC : Nat → ClassId) (dI : Nat → Nat → Nat) (dA : FieldType → ClassId) (gz cells slots pc : Nat) (lv : List (Nat × Value)) (st : List Value) (hp : xHp) : Prop :=
  ∀ (H : Heap) (locs : List Loc) (ls : Array Slot), xHo s.heap.size 0 gz dC dI dA hp H → va_S (fun q => s.heap.size ≤ q) s.heap H locs → lv_has ls 8 lv → W p l e room_1 s m #[Value.ref b] below meth c H locs cells slots (lw_Z below #[Value.ref b] s) (F0 m pc ls (st.map (xcV s.heap.size)))
def lwA (pc : Nat) (k : Int) : Prop := decode code pc = .ok (.aload_n 0, 1) ∧ decode code (pc + 1) = .ok (.iload 4, 2) ∧ decode code (pc + 3) = .ok (.iconst k, 1) ∧ decode code (pc + 4) = .ok (.iadd, 1) ∧ decode code (pc + 5) = .ok (.iaload, 1)
def lwArgs : Nat → Nat → Nat → Prop
  | _, 0, _ => True
  | pc, n + 1, j => lwA pc (Int.ofNat j) ∧ lwArgs (pc + 6) n (j + 1)
def lwV (xs : Nat → Int32) : Nat → Nat → List Value
  | _, 0 => []
  | k, n + 1 => .int (xs k) :: lwV xs (k + 1) n
theorem lwV_len (xs : Nat → Int32) : ∀ n k, (lwV xs k n).length = n := by
  intro n
  induction n with
  | zero => intro k; rfl
  | succ n ih => intro k; show (lwV xs (k + 1) n).length + 1 = n + 1; rw [ih]
def lwCase (pc n ix im : Nat) (off : Int) : Prop := decode code pc = .ok (.aload_n 1, 1) ∧ lwArgs (pc + 1) n 1 ∧ decode code (pc + 1 + 6 * n) = .ok (.invokevirtual ix, 3) ∧ decode code (pc + 1 + 6 * n + 3) = .ok (.aload_n 2, 1) ∧ lwArgs (pc + 1 + 6 * n + 3 + 1) n 1 ∧ decode code (pc + 1 + 6 * n + 3 + 1 + 6 * n) = .ok (.invokevirtual im, 3) ∧ decode code (pc + 1 + 6 * n + 3 + 1 + 6 * n + 3) = .ok (.if_icmp .eq off, 3) ∧ ((pc + 1 + 6 * n + 3 + 1 + 6 * n + 3 : Nat) : Int) + off = 1649
section LAW
variable {p : Program} {l : Launch} {e : Env} {s : State} {m : MethodId} {below : List Frame} {meth : Method} {c : Code} {b L : Nat} {xs : Nat → Int32} {dC : Nat → ClassId} {dI : Nat → Nat → Nat} {dA : FieldType → ClassId} {gz cells slots pc : Nat} {lv : List (Nat × Value)} {hp : xHp}
theorem lw_callV (C0 : lw_At p s m meth c b L xs) (hKn : xKn dC dI dA s) {idx a ci : Nat} {r As fs : List Value} {m' : xMI} {Po : Option Value → xHp → Prop} (hd : decode code pc = .ok (.invokevirtual idx, 3)) (hlk : Cond.methodLink R_law idx (xmY m') ∈ wG) (hV : xKV m' ci) (hq : hp.1 a = .inr (ci, fs)) (hcs : xcs r 8) (hn : As.length = xmN m') (h0 : xmC m' = 0) (h1 : xmS m' = 0) (hc : cells ≤ 601024) (hs : slots ≤ 7293034) (hM : xMC l 100 s.heap.size 0 gz m' (.ref a :: As) hp Po)
    (K : ∀ (v : Option Value) (hp' : xHp), Po v hp' → LJ p l e s m below meth c b dC dI dA gz cells slots (pc + 3) lv (v.toList ++ r) hp') : LJ p l e s m below meth c b dC dI dA gz cells slots pc lv (As.reverse ++ .ref a :: r) hp := by
  intro H locs ls hho hS hl
  obtain ⟨hx, hb, hr, hml, hown, hts, hX, hbl, hlocks, hgv⟩ := id C0
  have hts' : ∀ w ∈ wG, w.before #[Value.ref b] s = true := fun w hw => hts w (wG_in w hw)
  obtain ⟨⟨w1, w2, ⟨g1, g2, g3⟩, g4⟩, w3, w4, q, hcl, hqc⟩ := hV
  have hM' := hM (Nat.zero_le _) dC dI dA
  obtain ⟨S1, S2, S3⟩ := id hho
  have hat := xW_at (b := s.heap.size) (dA := dA) (xBd_r S2 hq hcl) hq
  rw [xcE_o] at hat
  have hrecv := va_recv hKn.1 S3 hcl hat
  rw [hqc] at hrecv
  have hroom : (xRm 100 m').frames + 1 ≤ room_1.frames ∧ 8 + (xmL m' + 11) + (xRm 100 m').locals ≤ room_1.locals := ⟨by show 100 + 1 ≤ 2048; decide, by show 8 + (xmL m' + 11) + 40 * 100 ≤ 84000; omega⟩
  have hcs' : ((r.map (xcV s.heap.size)).map fun v => v.category).sum ≤ 8 := by rw [xcs_map]; exact xcs_sum r 8 hcs
  have hfit : cells + xmC m' ≤ room_1.cells ∧ slots + xmS m' ≤ room_1.slots := by rw [h0, h1]; exact ⟨hc, hs⟩
  have hst : (F0 m pc ls ((As.reverse ++ Value.ref a :: r).map (xcV s.heap.size))).stack = (As.map (xcV s.heap.size)).reverse ++ .ref (s.heap.size + a) :: r.map (xcV s.heap.size) := by
    simp [xcV]
  have hpre : PreV s H (xmY m').cls (s.heap.size + a) (xPre s.heap.size 0 gz dC dI dA hp (.ref a :: As)) (As.map (xcV s.heap.size)) := ⟨xPre_blind, hrecv, fun U hU hW => ⟨rfl, by rw [hU]; exact ⟨S1, S2, S3⟩, xKn_warm hW hKn⟩⟩
  have cw : CallW room_1 s #[Value.ref b] R_law (xmY m').cls idx (xmY m') (xmB m') (xmL m') (xmR m') (xwY m') (xRm 100 m') (xmC m') (xmS m') (xmN m') :=
    ⟨callB_of (xmN m') hts' (xGood w2) rfl rfl rfl (hts' _ w1) (hts' _ hlk) ⟨g1, g2, g3⟩ hroom, hts' _ w3, hts' _ w4⟩
  refine xRun_go (va_runV ⟨hx, hb, hml, hown, hts'⟩ hM' cw hpre rfl (by rw [List.length_map]; exact hn) hl.1 hst (lv_room hcs') hd hfit) hS (fun q h => h.1) (fun q h => h.1) (fun v hp' H1 locs1 hpo hn2 hs2 hho2 hS2 => ?_)
  have K1 := K v hp' hpo H1 locs1 ls hho2 hS2 hl
  rw [List.map_append] at K1
  have e9 : (v.map (xcV s.heap.size)).toList = v.toList.map (xcV s.heap.size) := by cases v <;> rfl
  rw [e9, h0, h1]
  exact K1
theorem lw_arg (C0 : lw_At p s m meth c b L xs) (hL : L ≤ 2560) {i j : Nat} {st : List Value} (hd : lwA pc (Int.ofNat j)) (hj : Int32.ofInt (Int.ofNat j) = nI j) (hi : i + j < L) (h0 : lv[0]? = some (0, .ref b)) (h4 : lv[1]? = some (4, .int (nI i))) (K : LJ p l e s m below meth c b dC dI dA gz cells slots (pc + 6) lv (.int (xs (i + j)) :: st) hp) : LJ p l e s m below meth c b dC dI dA gz cells slots pc lv st hp := by
  intro H locs ls hho hS hl
  obtain ⟨hx, hb, hr, hml, hown, hts, hX, hbl, hlocks, hgv⟩ := id C0
  have hbA : ¬ (fun q : Nat => s.heap.size ≤ q) b := Nat.not_le.mpr hbl
  obtain ⟨d0, d1, d3, d4, d5⟩ := hd
  refine lv_aload_n hx hb d0 rfl (lv_at hl 0 h0) ?_
  refine lv_iload hx hb d1 (lv_at hl 1 h4) ?_
  refine lv_iconst (v := nI j) hx hb d3 hj ?_
  refine lv_iadd hx hb d4 ?_
  rw [nI_ad]
  refine va_sld hx hb hX hbl hbA hS (vp_in_nI hi (by omega)) d5 ?_
  rw [nI_clamp (by omega)]
  exact K H locs ls hho hS hl
theorem ofI_nI (j : Nat) (h : j ≤ 4) : Int32.ofInt (Int.ofNat j) = nI j := by
  rcases (show j = 0 ∨ j = 1 ∨ j = 2 ∨ j = 3 ∨ j = 4 by omega) with rfl | rfl | rfl | rfl | rfl <;> decide
theorem lw_args (C0 : lw_At p s m meth c b L xs) (hL : L ≤ 2560) {i : Nat} (h0 : lv[0]? = some (0, .ref b)) (h4 : lv[1]? = some (4, .int (nI i))) : ∀ (n j pc : Nat) (st : List Value), lwArgs pc n j → j + n ≤ 5 → i + j + n ≤ L → LJ p l e s m below meth c b dC dI dA gz cells slots (pc + 6 * n) lv ((lwV xs (i + j) n).reverse ++ st) hp → LJ p l e s m below meth c b dC dI dA gz cells slots pc lv st hp := by
  intro n
  induction n with
  | zero => intro j pc st _ _ _ K; exact K
  | succ n ih =>
    intro j pc st hd hj hi K
    refine lw_arg C0 hL hd.1 (ofI_nI j (by omega)) (by omega) h0 h4 ?_
    refine ih (j + 1) (pc + 6) _ hd.2 (by omega) (by omega) ?_
    rw [show pc + 6 + 6 * n = pc + 6 * (n + 1) by omega]
    have e : (lwV xs (i + j) (n + 1)).reverse ++ st = (lwV xs (i + (j + 1)) n).reverse ++ (.int (xs (i + j)) :: st) := by
      show (.int (xs (i + j)) :: lwV xs (i + j + 1) n).reverse ++ st = _
      rw [List.reverse_cons, List.append_assoc]
      rfl
    rw [← e]
    exact K
theorem lw_case (C0 : lw_At p s m meth c b L xs) (hKn : xKn dC dI dA s) (hL : L ≤ 2560) {i n ix im cc : Nat} {off : Int} {mS mM : xMI} (hd : lwCase pc n ix im off) (l1 : Cond.methodLink R_law ix (xmY mS) ∈ wG) (k1 : xKV mS 0) (l2 : Cond.methodLink R_law im (xmY mM) ∈ wG) (k2 : xKV mM 12) (z1 : xmN mS = n ∧ xmC mS = 0 ∧ xmS mS = 0) (z2 : xmN mM = n ∧ xmC mM = 0 ∧ xmS mM = 0) (hc : cells ≤ 601024) (hs : slots ≤ 7293034) (hn : n ≤ 4) (hi : i + 5 ≤ L)
    (h0 : lv[0]? = some (0, .ref b)) (h4 : lv[1]? = some (4, .int (nI i))) (h1 : lv[2]? = some (1, .ref (s.heap.size + 0))) (h2 : lv[3]? = some (2, .ref (s.heap.size + 103))) (hR : Rel cc hp)
    (hM : xMi l 100 s.heap.size 0 gz mS (.ref 0 :: lwV xs (i + 1) n) hp (fun r hq => is12 hq ∧ xMi l 100 s.heap.size 0 gz mM (.ref 103 :: lwV xs (i + 1) n) hq (fun r2 hr => r2 = r ∧ Rel (cc + 1) hr)))
    (K : ∀ hr, Rel (cc + 1) hr → LJ p l e s m below meth c b dC dI dA gz cells slots 1649 lv [] hr) : LJ p l e s m below meth c b dC dI dA gz cells slots pc lv [] hp := by
  obtain ⟨hx, hb, hr, hml, hown, hts, hX, hbl, hlocks, hgv⟩ := id C0
  obtain ⟨d0, dA1, d1, d2, dA2, d3, d4, d5⟩ := hd
  obtain ⟨S, x, hC, -⟩ := hR
  obtain ⟨lot, o1⟩ := hC.so
  intro H locs ls hho hS hl
  refine lv_aload_n hx hb d0 rfl (lv_at hl 2 h1) ?_
  refine lw_args (st := [.ref 0]) C0 hL h0 h4 n 1 (pc + 1) dA1 (by omega) (by omega) ?_ H locs ls hho hS hl
  refine lw_callV (r := []) C0 hKn d1 l1 k1 o1 (by simp [xcs]) ((lwV_len xs n (i + 1)).trans z1.1.symm) z1.2.1 z1.2.2 hc hs hM (fun v hq hv => ?_)
  cases v with
  | none => exact hv.elim
  | some v =>
    cases v with
    | int r =>
      obtain ⟨⟨fs, o3⟩, hv⟩ := hv
      intro H locs ls hho hS hl
      refine lv_aload_n hx hb d2 rfl (lv_at hl 3 h2) ?_
      refine lw_args (st := [.ref 103, .int r]) C0 hL h0 h4 n 1 _ dA2 (by omega) (by omega) ?_ H locs ls hho hS hl
      refine lw_callV (r := [.int r]) C0 hKn d3 l2 k2 o3 (by simp [xcs, Value.category]) ((lwV_len xs n (i + 1)).trans z2.1.symm) z2.2.1 z2.2.2 hc hs hv (fun v hq hv2 => ?_)
      cases v with
      | none => exact hv2.elim
      | some v =>
        cases v with
        | int r2 =>
          obtain ⟨rfl, hw⟩ := hv2
          intro H locs ls hho hS hl
          exact lv_icmp_eq (tgt := 1649) hx hb d4 d5 (fun _ => K _ hw H locs ls hho hS hl) (fun z => absurd rfl z)
        | _ => exact hv2.elim
    | _ => exact hv.elim
end LAW
