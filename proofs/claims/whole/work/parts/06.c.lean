/-! ===== making cells, calls, ends ===== -/
theorem xHst_push {C : xCx} {s : State} {dC : Nat → ClassId} {dI : Nat → Nat → Nat} {dA : FieldType → ClassId} {H H1 : Heap} {locs : List Loc} {cells slots N : Nat} {hp : xHp} (S : xHst C s dC dI dA H locs cells slots hp) (hlo : xcxO C ≤ xcxN C) (hsz : s.heap.size = xcxB C + xcxN C + xcxG C) (hg : xcxG C = 0) {e : xAE} (hc : hp.2.1 + 1 ≤ xcxN C + xmC (xcxM C)) (hs : hp.2.2 + N ≤ xcxS C + xmS (xcxM C))
    (he : va_at (dC, dI) xCl (xcxB C + hp.2.1, xcE (xcxB C) dA e) H1) (z : H1.size = H.size + 1) (o1 : ∀ q : Nat, q < H.size → H1[q]? = H[q]?) :
    xHst C s dC dI dA H1 locs (cells + 1) (slots + N) (va_up hp.1 hp.2.1 e, hp.2.1 + 1, hp.2.2 + N) := by
  obtain ⟨⟨S1, S2, S3⟩, S4, S5, S6, S7, S8, S9⟩ := S
  refine ⟨⟨by show _ = _ + (hp.2.1 + 1) + _; omega, xBd_push S2 (by omega), ?_⟩, ⟨by have := S4.1; omega, fun x h1 h2 => (o1 x (Nat.lt_of_lt_of_le h1 S4.1)).trans (S4.2.1 x h1 h2), S4.2.2⟩, by show hp.2.1 + 1 = _; omega, by show hp.2.2 + N = _; omega, by omega, by omega, Or.inl hg⟩
  show va_P (dC, dI) xCl (xcW (xcxB C) (xcxO C) (hp.2.1 + 1) dA (va_up hp.1 hp.2.1 e)) H1
  rw [← xcW_push (by omega)]
  refine (S3.kept fun k q hq => o1 q.1 ((S3 k q hq).lt)).app (fun k q hq => ?_)
  have hz : k < 1 := (List.getElem?_eq_some_iff.mp hq).1
  rw [show k = 0 by omega] at hq
  cases hq
  exact he
def xZero (ty : FieldType) (N : Nat) : vp_A := match ty with
  | .long => (N, .inr (.inl (fun _ => 0)))
  | .object _ => (N, .inr (.inr (.inr (.inr (fun _ => none)))))
  | _ => (N, .inl (fun _ => 0))
def xAty (ty : FieldType) : Prop := ty = .int ∨ ty = .byte ∨ ty = .boolean ∨ ty = .long
theorem xZero_cell {ty : FieldType} (h : xAty ty) (b N : Nat) (cA : ClassId) : vp_cell cA (xcA b (xZero ty N)) = arrV cA N (fun _ => defaultValue ty) := by
  rcases h with rfl | rfl | rfl | rfl <;> rfl
theorem xTy_cls {s : State} {dC : Nat → ClassId} {dI : Nat → Nat → Nat} {dA : FieldType → ClassId} (hKn : xKn dC dI dA s) {ty : FieldType} (h : xAty ty) : s.vm.findClass ("[" ++ ty.toString) = some (dA ty) := by
  rcases h with rfl | rfl | rfl | rfl
  · exact (hKn.1.2 0 (dA .int, .int) rfl).2
  · exact (hKn.1.2 1 (dA .byte, .byte) rfl).2
  · exact (hKn.1.2 2 (dA .boolean, .boolean) rfl).2
  · exact (hKn.1.2 3 (dA .long, .long) rfl).2
theorem xr_newa {C : xCx} {pc : Nat} {L r : List Value} {hp : xHp} {t : ArrayType} {ty : FieldType} {n : Int32} (hd : decode (xmB (xcxM C)) pc = .ok (.newarray t, 2)) (ht : newarray.typeOf t = ty) (hty : xAty ty) (hw : Cond.arrayClass ty ∈ wG) (hg : xcxG C = 0) (hn : ¬ n < 0) (hN : n.toNatClampNeg ≤ 10000) (hc : hp.2.1 + 1 ≤ xcxN C + xmC (xcxM C)) (hs : hp.2.2 + n.toNatClampNeg ≤ xcxS C + xmS (xcxM C))
    (K : xJ C (pc + 2) L (.ref hp.2.1 :: r) (va_up hp.1 hp.2.1 (.inl (ty, xZero ty n.toNatClampNeg)), hp.2.1 + 1, hp.2.2 + n.toNatClampNeg)) : xJ C pc L (.int n :: r) hp := by
  intro p e s m args below meth c dC dI dA E H locs cells slots ls S hl hL
  obtain ⟨hx, hb, hml, hr, hlk, hnm, hown, hts, hKn, hsz, hlo⟩ := id E
  obtain ⟨⟨S1, S2, S3⟩, S4, S5, S6, S7, S8, S9⟩ := id S
  subst ht
  have hbytes : n.toNatClampNeg * componentBytes (newarray.typeOf t) ≤ 536870912 := by
    have h8 : componentBytes (newarray.typeOf t) ≤ 8 := by rcases hty with h | h | h | h <;> rw [h] <;> decide
    have := Nat.mul_le_mul hN h8
    omega
  refine va_newaK hx hb (hts _ hw) rfl hd rfl hn rfl hbytes (by show cells + 1 ≤ xmC (xcxM C); omega) (by show slots + _ ≤ xmS (xcxM C); omega) rfl fun H1 cA e1 z1 o1 hAr hNm => ?_
  have hcA : cA = dA (newarray.typeOf t) := Option.some.inj (hNm.symm.trans (xTy_cls hKn hty))
  subst hcA
  have hH : H.size = xcxB C + hp.2.1 := by rw [S1, hg]; rfl
  have K1 := K p e s m args below meth c dC dI dA E H1 locs (cells + 1) (slots + n.toNatClampNeg) ls (xHst_push S hlo hsz hg hc hs (by show H1[xcxB C + hp.2.1]? = some (vp_cell _ _); rw [← hH, e1]; exact congrArg some (xZero_cell hty _ _ _).symm) z1 o1) hl hL
  rw [hH]
  exact K1
theorem xr_newq {C : xCx} {pc : Nat} {L r : List Value} {hp : xHp} {idx : Nat} {n : Int32} (hd : decode (xmB (xcxM C)) pc = .ok (.anewarray idx, 3)) (hw : Cond.classLink (xmY (xcxM C)).cls idx "SunnyOnes$Folk" ∈ wG) (hg : xcxG C = 0) (hn : ¬ n < 0) (hN : n.toNatClampNeg ≤ 10000) (hc : hp.2.1 + 1 ≤ xcxN C + xmC (xcxM C)) (hs : hp.2.2 + n.toNatClampNeg ≤ xcxS C + xmS (xcxM C))
    (K : xJ C (pc + 3) L (.ref hp.2.1 :: r) (va_up hp.1 hp.2.1 (.inl (.object "SunnyOnes$Folk", n.toNatClampNeg, .inr (.inr (.inr (.inr (fun _ => none)))))), hp.2.1 + 1, hp.2.2 + n.toNatClampNeg)) : xJ C pc L (.int n :: r) hp := by
  intro p e s m args below meth c dC dI dA E H locs cells slots ls S hl hL
  obtain ⟨hx, hb, hml, hr, hlk, hnm, hown, hts, hKn, hsz, hlo⟩ := id E
  obtain ⟨⟨S1, S2, S3⟩, S4, S5, S6, S7, S8, S9⟩ := id S
  refine W.anew hx hb hown (hts _ hw) (va_AO.use hKn.2.2) rfl hd rfl hn (by omega) (by show cells + 1 ≤ xmC (xcxM C); omega) (by show slots + _ ≤ xmS (xcxM C); omega) fun cA kA comp f1 f2 f3 f4 => ?_
  have hcA : cA = dA (.object "SunnyOnes$Folk") := by
    obtain ⟨_, _, _, _, _, k4⟩ := (hKn.1.2 4 (dA (.object "SunnyOnes$Folk"), .object "SunnyOnes$Folk") rfl).2
    exact Option.some.inj (f1.symm.trans k4)
  subst hcA
  generalize hH1 : H.push ({ cls := dA (.object "SunnyOnes$Folk"), slots := Array.replicate n.toNatClampNeg .null, vm := .none } : Cell) = H1
  have z1 : H1.size = H.size + 1 := by rw [← hH1, Array.size_push]
  have e1 : H1[H.size]? = some (arrV (dA (.object "SunnyOnes$Folk")) n.toNatClampNeg (fun _ => .null)) := by rw [← hH1, Array.getElem?_push_size, ← arrV_new]
  have o1 : ∀ q : Nat, q < H.size → H1[q]? = H[q]? := fun q hq => by rw [← hH1, Array.getElem?_push, if_neg (Nat.ne_of_lt hq)]
  have hH : H.size = xcxB C + hp.2.1 := by rw [S1, hg]; rfl
  have K1 := K p e s m args below meth c dC dI dA E H1 locs (cells + 1) (slots + n.toNatClampNeg) ls (xHst_push S hlo hsz hg hc hs (by show H1[xcxB C + hp.2.1]? = some (vp_cell _ _); rw [← hH, e1]; rfl) z1 o1) hl hL
  rw [hH]
  exact K1
def xKN (own : String) (idx ci : Nat) : Prop := ∃ q : vw_C, xCl[ci]? = some q ∧ Cond.classLink own idx q.1 ∈ wG ∧ Cond.instantiable q.1 q.2.2 ∈ wG ∧ Cond.initialized q.1 ∈ wG ∧ (xDf ci).length = q.2.2
theorem xDf_id (b ci : Nat) : (xDf ci).map (xcV b) = xDf ci := by
  unfold xDf
  split <;> rfl
theorem xr_new {C : xCx} {pc : Nat} {L r : List Value} {hp : xHp} {idx ci : Nat} (hd : decode (xmB (xcxM C)) pc = .ok (.new idx, 3)) (hk : xKN (xmY (xcxM C)).cls idx ci) (hg : xcxG C = 0) (hc : hp.2.1 + 1 ≤ xcxN C + xmC (xcxM C)) (hs : hp.2.2 + (xDf ci).length ≤ xcxS C + xmS (xcxM C))
    (K : xJ C (pc + 3) L (.ref hp.2.1 :: r) (va_up hp.1 hp.2.1 (.inr (ci, xDf ci)), hp.2.1 + 1, hp.2.2 + (xDf ci).length)) : xJ C pc L r hp := by
  intro p e s m args below meth c dC dI dA E H locs cells slots ls S hl hL
  obtain ⟨hx, hb, hml, hr, hlk, hnm, hown, hts, hKn, hsz, hlo⟩ := id E
  obtain ⟨⟨S1, S2, S3⟩, S4, S5, S6, S7, S8, S9⟩ := id S
  obtain ⟨q, hcl, w1, w2, w3, hlen⟩ := hk
  have hK1 := hKn.1.1 ci _ hcl
  rw [hlen] at hs K
  refine W.newcK hx hb hown (hts _ w1) (hts _ w2) (hts _ w3) rfl hd (by show cells + 1 ≤ xmC (xcxM C); omega) (by show slots + _ ≤ xmS (xcxM C); omega) hK1.2.1 rfl fun H1 kC hkC e1 z1 o1 => ?_
  have hH : H.size = xcxB C + hp.2.1 := by rw [S1, hg]; rfl
  have K1 := K p e s m args below meth c dC dI dA E H1 locs (cells + 1) (slots + q.2.2) ls (xHst_push S hlo hsz hg hc hs (by
    refine ⟨q, hcl, ?_⟩
    show t_OB (xcxB C + hp.2.1) (dC ci) q.2.2 (dI ci) H1 (vp_V ((xDf ci).map (xcV (xcxB C))))
    rw [xDf_id, ← hH]
    exact (u_born (xTy ci) hts (xCl_i ci q hcl) hK1 hkC e1 (xCl_t ci q hcl)).to (xCl_d ci q hcl)) z1 o1) hl hL
  rw [hH]
  exact K1
/-! calls -/
theorem nest_shape : ∀ w ∈ nestW, ∃ a i x h, w = Cond.methodLinkNest a i x h := by
  unfold nestW
  repeat (refine List.forall_mem_cons.mpr ⟨⟨_, _, _, _, rfl⟩, ?_⟩)
  exact fun _ h => absurd h List.not_mem_nil
theorem xKn_same {dC : Nat → ClassId} {dI : Nat → Nat → Nat} {dA : FieldType → ClassId} {u U : State} (h : u.vm = U.vm) (hK : xKn dC dI dA u) : xKn dC dI dA U := by
  refine ⟨va_K.moved (by rw [h]; exact Vm.Alike.refl _) hK.1, fun w hw => ?_, va_AO.moved (by rw [h]; exact Vm.Alike.refl _) hK.2.2⟩
  obtain ⟨a, i, x, z, rfl⟩ := nest_shape w hw
  exact va_Nw.same rfl h (hK.2.1 _ hw)
theorem xKn_warm {dC : Nat → ClassId} {dI : Nat → Nat → Nat} {dA : FieldType → ClassId} {s U : State} (hW : s.WarmedH U.vm) (hK : xKn dC dI dA s) : xKn dC dI dA U := by
  refine ⟨va_K.moved hW.alike hK.1, fun w hw => ?_, va_AO.moved hW.alike hK.2.2⟩
  obtain ⟨a, i, x, z, rfl⟩ := nest_shape w hw
  exact va_Nw.warmM hW (hK.2.1 _ hw)
theorem xPre_blind {b lo gz : Nat} {dC : Nat → ClassId} {dI : Nat → Nat → Nat} {dA : FieldType → ClassId} {hp : xHp} {args : List Value} : FrameBlind (xPre b lo gz dC dI dA hp args) :=
  fun _ U g mk q => ⟨q.1, q.2.1, xKn_same (u := U) (U := U.calling g mk _) rfl q.2.2⟩
theorem xGood {m : xMI} (hc : Cond.code (xmY m) (xmB m) (xmL m) (xmR m) ∈ wG) : GoodIn wG (xwY m) := by
  intro w h
  have hw : w ∈ wG := by
    rcases List.mem_cons.mp h with h | h
    · rw [h]; exact hc
    · exact h
  exact ⟨hw, good_of_word (wG_good w hw)⟩
def xHd (m : xMI) : Prop := (xmY m).cls ≠ "java/lang/invoke/MethodHandle" ∧ (xmY m).cls ≠ "java/lang/invoke/VarHandle" ∧ (parseMethodDescriptor (xmY m).desc).map (fun d => d.parameters.length) = some (xmN m)
def xBase (m : xMI) : Prop := Cond.initialized (xmY m).cls ∈ wG ∧ Cond.code (xmY m) (xmB m) (xmL m) (xmR m) ∈ wG ∧ xHd m ∧ xmL m ≤ 21
def xKV (m : xMI) (ci : Nat) : Prop := xBase m ∧ Cond.instanceMethod (xmY m) ∈ wG ∧ Cond.selects (xmY m).cls (xmY m) (xmY m) ∈ wG ∧ ∃ q : vw_C, xCl[ci]? = some q ∧ q.1 = (xmY m).cls
def xKS (m : xMI) : Prop := xBase m ∧ Cond.static (xmY m) ∈ wG
def xKI (m : xMI) : Prop := xBase m ∧ Cond.instanceMethod (xmY m) ∈ wG ∧ (xmY m).name = "<init>" ∧ xmR m = none
def xLk (own : String) (idx : Nat) (m : xMI) : Prop := Cond.methodLink own idx (xmY m) ∈ wG ∨ ∃ host, Cond.methodLinkNest own idx (xmY m) host ∈ nestW
theorem xcs_sum : ∀ (r : List Value) (n : Nat), xcs r n → (r.map fun v => v.category).sum ≤ n
  | [], n, _ => by simp
  | v :: r, n, h => by
    have h1 := xcs_sum r _ h.2
    have h2 := h.1
    simp only [List.map_cons, List.sum_cons]
    omega
theorem xcs_map (b : Nat) (r : List Value) : ((r.map (xcV b)).map fun v => v.category).sum = (r.map fun v => v.category).sum := by
  rw [List.map_map]
  congr 1
  apply List.map_congr_left
  intro v _
  exact xcV_cat b v
theorem xRun_go {p : Program} {l : Launch} {e : Env} {R : Room} {s : State} {m : MethodId} {args : Array Value} {below : List Frame} {meth : Method} {c : Code} {H : Heap} {locs : List Loc} {cells slots mc ms : Nat} {Q : State → Prop} {pc : Nat} {ls : Array Slot} {rest st0 : List Value} {a : Array Value} {b lo gz n1 s1 : Nat} {dC : Nat → ClassId} {dI : Nat → Nat → Nat} {dA : FieldType → ClassId} {m' : xMI} {Po : Option Value → xHp → Prop} {A0 : Nat → Prop} {H0 : Heap} {free : Addr → Prop}
    (hr : va_Run p l e R s m args below meth c H locs cells slots mc ms (F0 m pc ls st0) rest (xQm b lo gz dC dI dA m' n1 s1 Po a) free) (hS : va_S A0 H0 H locs) (hA : ∀ q, xAa b lo n1 (b + n1 + gz) q → A0 q) (hf : ∀ q, free q → A0 q)
    (kk : ∀ (v : Option Value) (hp' : xHp) (H1 : Heap) (locs1 : List Loc), Po v hp' → hp'.2.1 = n1 + xmC m' → hp'.2.2 = s1 + xmS m' → xHo b lo gz dC dI dA hp' H1 → va_S A0 H0 H1 locs1 → W p l e R s m args below meth c H1 locs1 (cells + mc) (slots + ms) Q (F0 m (pc + 3) ls ((v.map (xcV b)).toList ++ rest))) : W p l e R s m args below meth c H locs cells slots Q (F0 m pc ls st0) := by
  intro T hT X
  obtain ⟨v, st₀, t, T', L, h0, X', hL, e1, e2, ⟨⟨v', hp', hv, hpo, hn, hs, hho⟩, hz, hk⟩, st⟩ := hr T hT X
  cases hv
  rw [h0] at hz hk
  obtain ⟨t2, a1, b1⟩ := kk v' hp' T'.heap (locs ++ L) hpo hn hs (by rw [e1]; exact hho)
    ⟨Nat.le_trans hS.1 (by rw [e1]; exact hz), fun q h1 h2 => by rw [e1, hk q (Nat.lt_of_lt_of_le h1 hS.1) (fun z => h2 (hA q z))]; exact hS.2.1 q h1 h2, fun q hq => by
      rcases List.mem_append.mp hq with h | h
      · exact hS.2.2 q h
      · exact hf _ (hL q h)⟩ T' rfl X'
  exact ⟨t2, st t2 a1, b1⟩
def xBud (C : xCx) (m : xMI) (hp : xHp) : Prop := (xmC m = 0 ∧ xmS m = 0) ∨ (xcxG C = 0 ∧ hp.2.1 + xmC m ≤ xcxN C + xmC (xcxM C) ∧ hp.2.2 + xmS m ≤ xcxS C + xmS (xcxM C))
/-- behind any call -/
theorem xr_back {C : xCx} {pc : Nat} {L r : List Value} {hp : xHp} {m' : xMI} {Po : Option Value → xHp → Prop} {p : Program} {e : Env} {s : State} {m : MethodId} {args a : Array Value} {below : List Frame} {meth : Method} {c : Code} {dC : Nat → ClassId} {dI : Nat → Nat → Nat} {dA : FieldType → ClassId} {H : Heap} {locs : List Loc} {cells slots : Nat} {ls : Array Slot} {st0 : List Value} {R : Room}
    (E : xEnv C p s m args meth c dC dI dA) (S : xHst C s dC dI dA H locs cells slots hp) (hl : lv_has ls (xmL (xcxM C)) (xLv (xcxB C) L)) (hL : L.length = xmL (xcxM C)) (hR : R = xRm (xcxD C) (xcxM C)) (hbud : xBud C m' hp)
    (hr : va_Run p (xcxL C) e R s m args below meth c H locs cells slots (xmC m') (xmS m') (F0 m pc ls st0) (r.map (xcV (xcxB C))) (xQm (xcxB C) (xcxO C) (xcxG C) dC dI dA m' hp.2.1 hp.2.2 Po a) (xAa (xcxB C) (xcxO C) hp.2.1 (xcxB C + hp.2.1 + xcxG C)))
    (K : ∀ (v : Option Value) (hp' : xHp), Po v hp' → xJ C (pc + 3) L (v.toList ++ r) hp') :
    W p (xcxL C) e R s m args below meth c H locs cells slots (MQ below (xQm (xcxB C) (xcxO C) (xcxG C) dC dI dA (xcxM C) (xcxN C) (xcxS C) (xcxP C)) args s (xmC (xcxM C)) (xmS (xcxM C)) (xAa (xcxB C) (xcxO C) (xcxN C) (xcxB C + xcxN C + xcxG C))) (F0 m pc ls st0) := by
  obtain ⟨⟨S1, S2, S3⟩, S4, S5, S6, S7, S8, S9⟩ := id S
  obtain ⟨hx, hb, hml, hr', hlk, hnm, hown, hts, hKn, hsz, hlo⟩ := id E
  have hA : ∀ q, xAa (xcxB C) (xcxO C) hp.2.1 (xcxB C + hp.2.1 + xcxG C) q → xAa (xcxB C) (xcxO C) (xcxN C) (xcxB C + xcxN C + xcxG C) q := by
    intro q h
    refine ⟨h.1, ?_⟩
    rcases S9 with g | g
    · by_cases hq : q < xcxB C + xcxN C
      · exact Or.inl hq
      · exact Or.inr (by omega)
    · rcases h.2 with h | h
      · exact Or.inl (by omega)
      · exact Or.inr (by omega)
  refine xRun_go hr S4 hA hA fun v hp' H1 locs1 hpo hn hs hho hS1 => ?_
  have S' : xHst C s dC dI dA H1 locs1 (cells + xmC m') (slots + xmS m') hp' := by
    refine ⟨hho, hS1, by omega, by omega, ?_, ?_, ?_⟩ <;> rcases hbud with ⟨g1, g2⟩ | ⟨g1, g2, g3⟩
    · omega
    · omega
    · omega
    · omega
    · rw [g1]; exact S9
    · exact Or.inl g1
  have K1 := K v hp' hpo p e s m args below meth c dC dI dA E H1 locs1 _ _ ls S' hl hL
  rw [List.map_append] at K1
  have e9 : (v.map (xcV (xcxB C))).toList = v.toList.map (xcV (xcxB C)) := by cases v <;> rfl
  rw [e9, hR]
  exact K1
theorem xr_callV {C : xCx} {d pc : Nat} {L r As fs : List Value} {hp : xHp} {a ci idx : Nat} {m' : xMI} {Po : Option Value → xHp → Prop} (hdC : xcxD C = d + 1) (hd : decode (xmB (xcxM C)) pc = .ok (.invokevirtual idx, 3)) (hlk : xLk (xmY (xcxM C)).cls idx m') (hV : xKV m' ci) (hq : hp.1 a = .inr (ci, fs)) (hcs : xcs r 8) (hn : As.length = xmN m') (hbud : xBud C m' hp) (hM : xMC (xcxL C) d (xcxB C) (xcxO C) (xcxG C) m' (.ref a :: As) hp Po)
    (K : ∀ (v : Option Value) (hp' : xHp), Po v hp' → xJ C (pc + 3) L (v.toList ++ r) hp') : xJ C pc L (As.reverse ++ .ref a :: r) hp := by
  intro p e s m args below meth c dC dI dA E H locs cells slots ls S hl hL
  obtain ⟨hx, hb, hml, hr, hlocks, hnm, hown, hts, hKn, hsz, hlo⟩ := id E
  obtain ⟨⟨S1, S2, S3⟩, S4, S5, S6, S7, S8, S9⟩ := id S
  obtain ⟨⟨w1, w2, ⟨h1, h2, h3⟩, h4⟩, w3, w4, q, hcl, hqc⟩ := hV
  have hM' := hM (by omega) dC dI dA
  have hrc : (xmC m' = 0 ∧ xmS m' = 0) ∨ (cells + xmC m' ≤ xmC (xcxM C) ∧ slots + xmS m' ≤ xmS (xcxM C)) := by
    rcases hbud with h | ⟨-, h5, h6⟩
    · exact Or.inl h
    · exact Or.inr ⟨by omega, by omega⟩
  have hat := xW_at (b := xcxB C) (dA := dA) (xBd_r S2 hq hcl) hq
  rw [xcE_o] at hat
  have hrecv := va_recv hKn.1 S3 hcl hat
  rw [hqc] at hrecv
  have hroom : (xRm d m').frames + 1 ≤ (xRm (xcxD C) (xcxM C)).frames ∧ 8 + (xmL m' + 11) + (xRm d m').locals ≤ (xRm (xcxD C) (xcxM C)).locals := by
    refine ⟨by show d + 1 ≤ xcxD C; omega, by show 8 + (xmL m' + 11) + 40 * d ≤ 40 * xcxD C; omega⟩
  have hcs' : ((r.map (xcV (xcxB C))).map fun v => v.category).sum ≤ 8 := by rw [xcs_map]; exact xcs_sum r 8 hcs
  have hfit : cells + xmC m' ≤ (xRm (xcxD C) (xcxM C)).cells ∧ slots + xmS m' ≤ (xRm (xcxD C) (xcxM C)).slots := by
    show cells + xmC m' ≤ xmC (xcxM C) ∧ slots + xmS m' ≤ xmS (xcxM C)
    rcases hrc with ⟨g1, g2⟩ | g
    · rw [g1, g2]; exact ⟨S7, S8⟩
    · exact g
  have hst : (F0 m pc ls ((As.reverse ++ Value.ref a :: r).map (xcV (xcxB C)))).stack = (As.map (xcV (xcxB C))).reverse ++ .ref (xcxB C + a) :: r.map (xcV (xcxB C)) := by
    simp [xcV]
  have hpre : PreV s H (xmY m').cls (xcxB C + a) (xPre (xcxB C) (xcxO C) (xcxG C) dC dI dA hp (.ref a :: As)) (As.map (xcV (xcxB C))) := ⟨xPre_blind, hrecv, fun U hU hW => ⟨rfl, by rw [hU]; exact ⟨S1, S2, S3⟩, xKn_warm hW hKn⟩⟩
  rcases hlk with hl1 | ⟨host, hl1⟩
  · have cw : CallW (xRm (xcxD C) (xcxM C)) s args (xmY (xcxM C)).cls (xmY m').cls idx (xmY m') (xmB m') (xmL m') (xmR m') (xwY m') (xRm d m') (xmC m') (xmS m') (xmN m') :=
      ⟨callB_of (xmN m') hts (xGood w2) rfl rfl rfl (hts _ w1) (hts _ hl1) ⟨h1, h2, h3⟩ hroom, hts _ w3, hts _ w4⟩
    exact xr_back (a := (Value.ref (xcxB C + a) :: As.map (xcV (xcxB C))).toArray) E S hl hL rfl hbud (va_runV ⟨hx, hb, hml, hown, hts⟩ hM' cw hpre rfl (by rw [List.length_map]; exact hn) hl.1 hst (lv_room hcs') hd hfit) K
  · have cw := va_cnB (R := xRm (xcxD C) (xcxM C)) (s := s) (args := args) (own := (xmY (xcxM C)).cls) (host := host) (index := idx) (rm := xRm d m') (mc := xmC m') (ms := xmS m') (xmN m') hts (xGood w2) rfl rfl rfl (hKn.2.1 _ hl1) (hts _ w1) ⟨h1, h2, h3⟩ hroom
    exact xr_back (a := (Value.ref (xcxB C + a) :: As.map (xcV (xcxB C))).toArray) E S hl hL rfl hbud (va_runVN ⟨hx, hb, hml, hown, hts⟩ hM' ⟨cw, hts _ w3, hts _ w4⟩ hpre rfl (by rw [List.length_map]; exact hn) hl.1 hst (lv_room hcs') hd hfit) K
theorem xr_callS {C : xCx} {d pc : Nat} {L r As : List Value} {hp : xHp} {idx : Nat} {m' : xMI} {Po : Option Value → xHp → Prop} (hdC : xcxD C = d + 1) (hd : decode (xmB (xcxM C)) pc = .ok (.invokestatic idx, 3)) (hlk : xLk (xmY (xcxM C)).cls idx m') (hV : xKS m') (hcs : xcs r 8) (hn : As.length = xmN m') (hbud : xBud C m' hp) (hM : xMC (xcxL C) d (xcxB C) (xcxO C) (xcxG C) m' As hp Po)
    (K : ∀ (v : Option Value) (hp' : xHp), Po v hp' → xJ C (pc + 3) L (v.toList ++ r) hp') : xJ C pc L (As.reverse ++ r) hp := by
  intro p e s m args below meth c dC dI dA E H locs cells slots ls S hl hL
  obtain ⟨hx, hb, hml, hr, hlocks, hnm, hown, hts, hKn, hsz, hlo⟩ := id E
  obtain ⟨⟨S1, S2, S3⟩, S4, S5, S6, S7, S8, S9⟩ := id S
  obtain ⟨⟨w1, w2, ⟨h1, h2, h3⟩, h4⟩, w3⟩ := hV
  have hM' := hM (by omega) dC dI dA
  have hroom : (xRm d m').frames + 1 ≤ (xRm (xcxD C) (xcxM C)).frames ∧ 8 + (xmL m' + 11) + (xRm d m').locals ≤ (xRm (xcxD C) (xcxM C)).locals := by
    refine ⟨by show d + 1 ≤ xcxD C; omega, by show 8 + (xmL m' + 11) + 40 * d ≤ 40 * xcxD C; omega⟩
  have hcs' : ((r.map (xcV (xcxB C))).map fun v => v.category).sum ≤ 8 := by rw [xcs_map]; exact xcs_sum r 8 hcs
  have hfit : cells + xmC m' ≤ (xRm (xcxD C) (xcxM C)).cells ∧ slots + xmS m' ≤ (xRm (xcxD C) (xcxM C)).slots := by
    show cells + xmC m' ≤ xmC (xcxM C) ∧ slots + xmS m' ≤ xmS (xcxM C)
    rcases hbud with ⟨g1, g2⟩ | ⟨-, h5, h6⟩
    · rw [g1, g2]; exact ⟨S7, S8⟩
    · exact ⟨by omega, by omega⟩
  have hst : (F0 m pc ls ((As.reverse ++ r).map (xcV (xcxB C)))).stack = (As.map (xcV (xcxB C))).reverse ++ r.map (xcV (xcxB C)) := by
    simp
  have hpre : PreS s H (xPre (xcxB C) (xcxO C) (xcxG C) dC dI dA hp As) (As.map (xcV (xcxB C))) := ⟨xPre_blind, fun U hU hW => ⟨rfl, by rw [hU]; exact ⟨S1, S2, S3⟩, xKn_warm hW hKn⟩⟩
  rcases hlk with hl1 | ⟨host, hl1⟩
  · have cw : CallB (xRm (xcxD C) (xcxM C)) s args (xmY (xcxM C)).cls idx (xmY m') (xmB m') (xmL m') (xmR m') (xwY m') (xRm d m') (xmC m') (xmS m') (xmN m') :=
      callB_of (xmN m') hts (xGood w2) rfl rfl rfl (hts _ w1) (hts _ hl1) ⟨h1, h2, h3⟩ hroom
    exact xr_back (a := (As.map (xcV (xcxB C))).toArray) E S hl hL rfl hbud (va_runS ⟨hx, hb, hml, hown, hts⟩ hM' ⟨cw, hts _ w3⟩ hpre rfl (by rw [List.length_map]; exact hn) hl.1 hst (lv_room hcs') hd hfit) K
  · have cw := va_cnB (R := xRm (xcxD C) (xcxM C)) (s := s) (args := args) (own := (xmY (xcxM C)).cls) (host := host) (index := idx) (rm := xRm d m') (mc := xmC m') (ms := xmS m') (xmN m') hts (xGood w2) rfl rfl rfl (hKn.2.1 _ hl1) (hts _ w1) ⟨h1, h2, h3⟩ hroom
    exact xr_back (a := (As.map (xcV (xcxB C))).toArray) E S hl hL rfl hbud (va_runSN ⟨hx, hb, hml, hown, hts⟩ hM' ⟨cw, hts _ w3, trivial⟩ hpre rfl (by rw [List.length_map]; exact hn) hl.1 hst (lv_room hcs') hd hfit) K
theorem xr_callI {C : xCx} {d pc : Nat} {L r As : List Value} {hp : xHp} {a idx : Nat} {m' : xMI} {Po : Option Value → xHp → Prop} (hdC : xcxD C = d + 1) (hd : decode (xmB (xcxM C)) pc = .ok (.invokespecial idx, 3)) (hlk : xLk (xmY (xcxM C)).cls idx m') (hV : xKI m') (hcs : xcs r 8) (hn : As.length = xmN m') (hbud : xBud C m' hp) (hM : xMC (xcxL C) d (xcxB C) (xcxO C) (xcxG C) m' (.ref a :: As) hp Po)
    (K : ∀ (v : Option Value) (hp' : xHp), Po v hp' → xJ C (pc + 3) L (v.toList ++ r) hp') : xJ C pc L (As.reverse ++ .ref a :: r) hp := by
  intro p e s m args below meth c dC dI dA E H locs cells slots ls S hl hL
  obtain ⟨hx, hb, hml, hr, hlocks, hnm, hown, hts, hKn, hsz, hlo⟩ := id E
  obtain ⟨⟨S1, S2, S3⟩, S4, S5, S6, S7, S8, S9⟩ := id S
  obtain ⟨⟨w1, w2, ⟨h1, h2, h3⟩, h4⟩, w3, hy1, hrn⟩ := hV
  have hM' := hM (by omega) dC dI dA
  have hroom : (xRm d m').frames + 1 ≤ (xRm (xcxD C) (xcxM C)).frames ∧ 8 + (xmL m' + 11) + (xRm d m').locals ≤ (xRm (xcxD C) (xcxM C)).locals := by
    refine ⟨by show d + 1 ≤ xcxD C; omega, by show 8 + (xmL m' + 11) + 40 * d ≤ 40 * xcxD C; omega⟩
  have hcs' : ((r.map (xcV (xcxB C))).map fun v => v.category).sum ≤ 8 := by rw [xcs_map]; exact xcs_sum r 8 hcs
  have hfit : cells + xmC m' ≤ (xRm (xcxD C) (xcxM C)).cells ∧ slots + xmS m' ≤ (xRm (xcxD C) (xcxM C)).slots := by
    show cells + xmC m' ≤ xmC (xcxM C) ∧ slots + xmS m' ≤ xmS (xcxM C)
    rcases hbud with ⟨g1, g2⟩ | ⟨-, h5, h6⟩
    · rw [g1, g2]; exact ⟨S7, S8⟩
    · exact ⟨by omega, by omega⟩
  have hst : (F0 m pc ls ((As.reverse ++ Value.ref a :: r).map (xcV (xcxB C)))).stack = (As.map (xcV (xcxB C))).reverse ++ .ref (xcxB C + a) :: r.map (xcV (xcxB C)) := by
    simp [xcV]
  have hpre : PreS s H (xPre (xcxB C) (xcxO C) (xcxG C) dC dI dA hp (.ref a :: As)) (.ref (xcxB C + a) :: As.map (xcV (xcxB C))) := ⟨xPre_blind, fun U hU hW => ⟨rfl, by rw [hU]; exact ⟨S1, S2, S3⟩, xKn_warm hW hKn⟩⟩
  have w2' : Cond.code (xmY m') (xmB m') (xmL m') none ∈ wG := by rw [← hrn]; exact w2
  have hwn : xwY m' = Cond.code (xmY m') (xmB m') (xmL m') none :: wG := by rw [← hrn]; rfl
  rcases hlk with hl1 | ⟨host, hl1⟩
  · have cw : CallB (xRm (xcxD C) (xcxM C)) s args (xmY (xcxM C)).cls idx (xmY m') (xmB m') (xmL m') none (xwY m') (xRm d m') (xmC m') (xmS m') (xmN m') :=
      callB_of (xmN m') hts (xGood w2) hwn rfl rfl (hts _ w1) (hts _ hl1) ⟨h1, h2, h3⟩ hroom
    exact xr_back (a := (Value.ref (xcxB C + a) :: As.map (xcV (xcxB C))).toArray) E S hl hL rfl hbud (va_runI ⟨hx, hb, hml, hown, hts⟩ hM' ⟨cw, hy1, hts _ w3⟩ hpre rfl (by rw [List.length_map]; exact hn) hl.1 hst (lv_room hcs') hd hfit) K
  · have cw := va_cnB (R := xRm (xcxD C) (xcxM C)) (s := s) (args := args) (own := (xmY (xcxM C)).cls) (host := host) (index := idx) (rm := xRm d m') (mc := xmC m') (ms := xmS m') (xmN m') hts (xGood w2) hwn rfl rfl (hKn.2.1 _ hl1) (hts _ w1) ⟨h1, h2, h3⟩ hroom
    exact xr_back (a := (Value.ref (xcxB C + a) :: As.map (xcV (xcxB C))).toArray) E S hl hL rfl hbud (va_runIN ⟨hx, hb, hml, hown, hts⟩ hM' ⟨cw, hy1, hts _ w3⟩ hpre rfl (by rw [List.length_map]; exact hn) hl.1 hst (lv_room hcs') hd hfit) K
