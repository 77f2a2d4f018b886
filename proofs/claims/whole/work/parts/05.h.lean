/-! ===== rules of the heap ===== -/
theorem xBd_l {lo n a : Nat} {f : Nat → xAE} {x : FieldType × vp_A} (h : xBd lo n f) (hq : f a = .inl x) : lo ≤ a ∧ a < n := by
  refine ⟨Nat.not_lt.mp fun h1 => ?_, Nat.not_le.mp fun h1 => ?_⟩
  · rw [h a (Or.inl h1)] at hq; cases hq
  · rw [h a (Or.inr h1)] at hq; cases hq
theorem xBd_r {lo n a ci : Nat} {f : Nat → xAE} {fs : List Value} {q : vw_C} (h : xBd lo n f) (hq : f a = .inr (ci, fs)) (hc : xCl[ci]? = some q) : lo ≤ a ∧ a < n := by
  have h9 : ¬ ci = 99 := fun e => by subst e; simp at hc
  refine ⟨Nat.not_lt.mp fun h1 => ?_, Nat.not_le.mp fun h1 => ?_⟩
  · rw [h a (Or.inl h1)] at hq; cases hq; exact h9 rfl
  · rw [h a (Or.inr h1)] at hq; cases hq; exact h9 rfl
theorem xBd_up {lo n a : Nat} {f : Nat → xAE} {e : xAE} (h : xBd lo n f) (h1 : lo ≤ a) (h2 : a < n) : xBd lo n (va_up f a e) := by
  intro k hk
  have hne : ¬ k = a := by omega
  simp [va_up, hne, h k hk]
theorem xBd_push {lo n : Nat} {f : Nat → xAE} {e : xAE} (h : xBd lo n f) (h1 : lo ≤ n) : xBd lo (n + 1) (va_up f n e) := by
  intro k hk
  have hne : ¬ k = n := by omega
  simp [va_up, hne, h k (by omega)]
theorem xcE_i (b : Nat) (dA : FieldType → ClassId) (ty : FieldType) (n : Nat) (g : Nat → Int32) : xcE b dA (.inl (ty, n, .inl g)) = .inl (dA ty, n, .inl g) := rfl
theorem xcE_l (b : Nat) (dA : FieldType → ClassId) (ty : FieldType) (n : Nat) (g : Nat → Int64) : xcE b dA (.inl (ty, n, .inr (.inl g))) = .inl (dA ty, n, .inr (.inl g)) := rfl
theorem xcE_q (b : Nat) (dA : FieldType → ClassId) (ty : FieldType) (n : Nat) (g : Nat → Option Nat) : xcE b dA (.inl (ty, n, .inr (.inr (.inr (.inr g))))) = .inl (dA ty, n, .inr (.inr (.inr (.inr (fun j => (g j).map (fun a => b + a)))))) := rfl
theorem xcE_o (b : Nat) (dA : FieldType → ClassId) (ci : Nat) (fs : List Value) : xcE b dA (.inr (ci, fs)) = .inr (ci, fs.map (xcV b)) := rfl
theorem xW_at {b lo n a : Nat} {dA : FieldType → ClassId} {f : Nat → xAE} {e : xAE} (h : lo ≤ a ∧ a < n) (hq : f a = e) : (xcW b lo n dA f)[a - lo]? = some (b + a, xcE b dA e) := by
  rw [xcW_at h.1 h.2, hq]
theorem xHst_upd {C : xCx} {s : State} {dC : Nat → ClassId} {dI : Nat → Nat → Nat} {dA : FieldType → ClassId} {H H1 : Heap} {locs : List Loc} {cells slots : Nat} {hp : xHp} (S : xHst C s dC dI dA H locs cells slots hp) {a : Nat} (h : xcxO C ≤ a ∧ a < hp.2.1) {e : xAE} (he : va_at (dC, dI) xCl (xcxB C + a, xcE (xcxB C) dA e) H1) (z : H1.size = H.size) (oq : ∀ q : Nat, q ≠ xcxB C + a → H1[q]? = H[q]?) (i : Nat) :
    xHst C s dC dI dA H1 (locs ++ [⟨xcxB C + a, i⟩]) cells slots (xup hp a e) := by
  obtain ⟨⟨S1, S2, S3⟩, S4, S5, S6, S7, S8, S9⟩ := S
  have hAin : ∀ k, xcxO C ≤ k → k < hp.2.1 → xAa (xcxB C) (xcxO C) (xcxN C) (xcxB C + xcxN C + xcxG C) (xcxB C + k) := by
    intro k h1 h2
    refine ⟨by omega, ?_⟩
    rcases S9 with g | g
    · by_cases hk : k < xcxN C
      · exact Or.inl (by omega)
      · exact Or.inr (by omega)
    · exact Or.inl (by omega)
  have hD := xcW_D (b := xcxB C) (lo := xcxO C) (n := hp.2.1) (dA := dA) (f := hp.1) hAin
  have hat := xcW_at (b := xcxB C) (dA := dA) (f := hp.1) h.1 h.2
  refine ⟨⟨z.trans S1, xBd_up S2 h.1 h.2, ?_⟩, S4.put z oq (hAin a h.1 h.2), S5, S6, S7, S8, S9⟩
  have h5 := S3.set hD hat he oq
  rw [xcW_set h.1 h.2] at h5
  exact h5
def xFl (own : String) (idx ci k : Nat) : Prop := ∃ q : vw_C, xCl[ci]? = some q ∧ k < q.2.2 ∧ Cond.fieldLink own idx (q.2.1 k).1 (q.2.1 k).2.1 (q.2.1 k).2.2.1 ∈ wG
def xFn (y : MethodName) (ci k : Nat) : Prop := ∀ q : vw_C, xCl[ci]? = some q → (q.2.1 k).2.2.2 = true → y.name = "<init>" ∧ (q.2.1 k).1 = y.cls
def xVok (ty : FieldType) (v : Value) : Prop := match ty, v with
  | .int, .int _ => True
  | .boolean, .int x => x = 0 ∨ x = 1
  | .object _, .null => True
  | .object _, .ref _ => True
  | .array _, .null => True
  | .array _, .ref _ => True
  | _, _ => False
theorem xVok_fit {ty : FieldType} {v : Value} (b : Nat) (h : xVok ty v) : narrow ty (xcV b v) = xcV b v ∧ fits ty (xcV b v) = true := by
  cases ty <;> cases v <;> (first | (exfalso; simp [xVok] at h; done) | (exact ⟨rfl, rfl⟩) | (rcases h with h | h <;> subst h <;> exact ⟨rfl, rfl⟩))
theorem xr_get {C : xCx} {pc : Nat} {L r : List Value} {hp : xHp} {a ci k idx : Nat} {fs : List Value} {v : Value} (hd : decode (xmB (xcxM C)) pc = .ok (.getfield idx, 3)) (hF : xFl (xmY (xcxM C)).cls idx ci k) (hq : hp.1 a = .inr (ci, fs)) (hv : fs[k]? = some v) (K : xJ C (pc + 3) L (v :: r) hp) : xJ C pc L (.ref a :: r) hp := by
  intro p e s m args below meth c dC dI dA E H locs cells slots ls S hl hL
  obtain ⟨hx, hb, hml, hr, hlk, hnm, hown, hts, hKn, hsz, hlo⟩ := id E
  obtain ⟨q, hc, hk, hlink⟩ := hF
  have hat := xW_at (b := xcxB C) (dA := dA) (xBd_r S.1.2.1 hq hc) hq
  rw [xcE_o] at hat
  exact va_get (T := q.2.1) (N := q.2.2) (C := q.1) hx hb hts (xCl_i ci q hc) hown hKn.1 S.1.2.2 (a - xcxO C) hat hc k hk (hts _ hlink) (fun _ h => h) (by rw [List.getElem?_map, hv]; rfl) hd (K p e s m args below meth c dC dI dA E H locs cells slots ls S hl hL)
theorem xr_put {C : xCx} {pc : Nat} {L r : List Value} {hp : xHp} {a ci k idx : Nat} {fs : List Value} {v : Value} (hd : decode (xmB (xcxM C)) pc = .ok (.putfield idx, 3)) (hF : xFl (xmY (xcxM C)).cls idx ci k) (hN : xFn (xmY (xcxM C)) ci k) (hv : xVok (xTy ci k) v) (hq : hp.1 a = .inr (ci, fs)) (hkl : k < fs.length) (K : xJ C (pc + 3) L r (xup hp a (.inr (ci, fs.set k v)))) : xJ C pc L (v :: .ref a :: r) hp := by
  intro p e s m args below meth c dC dI dA E H locs cells slots ls S hl hL
  obtain ⟨hx, hb, hml, hr, hlk, hnm, hown, hts, hKn, hsz, hlo⟩ := id E
  obtain ⟨q, hc, hk, hlink⟩ := hF
  have hrng := xBd_r S.1.2.1 hq hc
  have hat := xW_at (b := xcxB C) (dA := dA) hrng hq
  rw [xcE_o] at hat
  have hfit := xVok_fit (xcxB C) hv
  have hpd := xCl_t ci q hc k hk
  have hl' : k < (fs.map (xcV (xcxB C))).length := by rw [List.length_map]; exact hkl
  have hap := va_apart (own := (xmY (xcxM C)).cls) hts (xCl_i ci q hc) (xTy ci) (xCl_t ci q hc) (xCl_n ci q hc) hKn.1 hc
  obtain ⟨r0, g1, cell, q1, q2, q3, q4⟩ := S.1.2.2 _ _ hat
  have hr0 : r0 = q := Option.some.inj (g1.symm.trans hc)
  subst hr0
  obtain ⟨hS, hfc, kC, hkC, hkind⟩ := hKn.1.1 ci _ hc
  obtain ⟨cf, kf, fi, f, hi, hsl⟩ := hS k hk
  have hlay := hts _ (xCl_i ci _ hc _ (u_in_lay hk))
  unfold u_lay at hlay
  have hst := (u_facts hfc hkC (u_lays hts (xCl_i ci _ hc) hk) hi).1
  have fin : ∀ H' : Heap, H'[xcxB C + a]? = some (cell.setSlot f.slot (xcV (xcxB C) v)) → H'.size = H.size → (∀ q, q ≠ xcxB C + a → H'[q]? = H[q]?) → W p (xcxL C) e (xRm (xcxD C) (xcxM C)) s m args below meth c H' (locs ++ [⟨xcxB C + a, f.slot⟩]) cells slots (MQ below (xQm (xcxB C) (xcxO C) (xcxG C) dC dI dA (xcxM C) (xcxN C) (xcxS C) (xcxP C)) args s (xmC (xcxM C)) (xmS (xcxM C)) (xAa (xcxB C) (xcxO C) (xcxN C) (xcxB C + xcxN C + xcxG C))) (F0 m (pc + 3) ls (r.map (xcV (xcxB C)))) := by
    intro H' e1 e2 e3
    rw [hsl] at e1
    refine K p e s m args below meth c dC dI dA E H' _ cells slots ls (xHst_upd S hrng ?_ e2 e3 f.slot) hl hL
    rw [xcE_o, List.map_set]
    exact ⟨_, hc, t_OB.to (V := updV (vp_V (fs.map (xcV (xcxB C)))) k (xcV (xcxB C) v)) ⟨_, e1, q2, q3, t_set q4 hap hk _⟩ (fun j _ => vp_updV_set hl' _ j)⟩
  by_cases hfin : (r0.2.1 k).2.2.2 = true
  · rw [if_pos hfin] at hlay
    obtain ⟨hin, hdecl⟩ := hN _ hc hfin
    have hcf : m.cls = cf := by
      obtain ⟨_, _, c', _, _, _, -, -, hf', -, -, -, hown2, -⟩ := Cond.laysFinal_spec hlay
      have e1 : c' = cf := by have := hi.symm.trans hf'; simp at this; exact this.1.symm
      rw [hdecl] at hown2
      rw [← e1]; exact Option.some.inj (hown.symm.trans hown2)
    have h6 := u_fits hfc hkC hkind (Or.inr hlay) hi hpd hfit.1 hfit.2
    exact W.putFinK hx hb hown (hts _ hlink) hi hst hcf (hnm.trans hin) (by rw [q2]; exact h6) q1 q3 (by rw [hsl]; exact k2_hasslot (q4 k hk)) rfl rfl hd fin
  · rw [if_neg hfin] at hlay
    have h6 := u_store hfc hkC hkind hlay hi hpd hfit.1 hfit.2
    exact W.putK hx hb (f := f) ⟨hown, hts _ hlink, ⟨_, _, _, hi⟩, hst⟩ (by rw [q2]; exact h6) q1 q3 (by rw [hsl]; exact k2_hasslot (q4 k hk)) rfl rfl hd fin
theorem xr_iald {C : xCx} {pc : Nat} {L r : List Value} {hp : xHp} {a n : Nat} {g : Nat → Int32} {i : Int32} (hd : decode (xmB (xcxM C)) pc = .ok (.iaload, 1)) (hq : hp.1 a = .inl (.int, n, .inl g)) (hin : vp_in i n) (K : xJ C (pc + 1) L (.int (g i.toNatClampNeg) :: r) hp) : xJ C pc L (.int i :: .ref a :: r) hp := by
  intro p e s m args below meth c dC dI dA E H locs cells slots ls S hl hL
  obtain ⟨hx, hb, hml, hr, hlk, hnm, hown, hts, hKn, hsz, hlo⟩ := id E
  have hat := xW_at (b := xcxB C) (dA := dA) (xBd_l S.1.2.1 hq) hq
  exact va_iald hx hb hKn.1 S.1.2.2 (a - xcxO C) 0 hat rfl hin hd (K p e s m args below meth c dC dI dA E H locs cells slots ls S hl hL)
theorem xr_bald {C : xCx} {pc : Nat} {L r : List Value} {hp : xHp} {a n : Nat} {g : Nat → Int32} {i : Int32} {ty : FieldType} (hd : decode (xmB (xcxM C)) pc = .ok (.baload, 1)) (hq : hp.1 a = .inl (ty, n, .inl g)) (hty : ty = .byte ∨ ty = .boolean) (hin : vp_in i n) (K : xJ C (pc + 1) L (.int (g i.toNatClampNeg) :: r) hp) : xJ C pc L (.int i :: .ref a :: r) hp := by
  intro p e s m args below meth c dC dI dA E H locs cells slots ls S hl hL
  obtain ⟨hx, hb, hml, hr, hlk, hnm, hown, hts, hKn, hsz, hlo⟩ := id E
  rcases hty with rfl | rfl
  · have hat := xW_at (b := xcxB C) (dA := dA) (xBd_l S.1.2.1 hq) hq
    exact va_bald hx hb hKn.1 S.1.2.2 (a - xcxO C) 1 hat rfl hin hd (K p e s m args below meth c dC dI dA E H locs cells slots ls S hl hL)
  · have hat := xW_at (b := xcxB C) (dA := dA) (xBd_l S.1.2.1 hq) hq
    exact va_zald hx hb hKn.1 S.1.2.2 (a - xcxO C) 2 hat rfl hin hd (K p e s m args below meth c dC dI dA E H locs cells slots ls S hl hL)
theorem xr_lald {C : xCx} {pc : Nat} {L r : List Value} {hp : xHp} {a n : Nat} {g : Nat → Int64} {i : Int32} (hd : decode (xmB (xcxM C)) pc = .ok (.laload, 1)) (hq : hp.1 a = .inl (.long, n, .inr (.inl g))) (hin : vp_in i n) (K : xJ C (pc + 1) L (.long (g i.toNatClampNeg) :: r) hp) : xJ C pc L (.int i :: .ref a :: r) hp := by
  intro p e s m args below meth c dC dI dA E H locs cells slots ls S hl hL
  obtain ⟨hx, hb, hml, hr, hlk, hnm, hown, hts, hKn, hsz, hlo⟩ := id E
  have hat := xW_at (b := xcxB C) (dA := dA) (xBd_l S.1.2.1 hq) hq
  exact va_lald hx hb hKn.1 S.1.2.2 (a - xcxO C) 3 hat rfl hin hd (K p e s m args below meth c dC dI dA E H locs cells slots ls S hl hL)
theorem xr_aald {C : xCx} {pc : Nat} {L r : List Value} {hp : xHp} {a n : Nat} {g : Nat → Option Nat} {i : Int32} (hd : decode (xmB (xcxM C)) pc = .ok (.aaload, 1)) (hq : hp.1 a = .inl (.object "SunnyOnes$Folk", n, .inr (.inr (.inr (.inr g))))) (hin : vp_in i n) (K : xJ C (pc + 1) L (va_rf (g i.toNatClampNeg) :: r) hp) : xJ C pc L (.int i :: .ref a :: r) hp := by
  intro p e s m args below meth c dC dI dA E H locs cells slots ls S hl hL
  obtain ⟨hx, hb, hml, hr, hlk, hnm, hown, hts, hKn, hsz, hlo⟩ := id E
  have hat := xW_at (b := xcxB C) (dA := dA) (xBd_l S.1.2.1 hq) hq
  rw [xcE_q] at hat
  refine va_aldq (C := "SunnyOnes$Folk") hx hb hKn.1 S.1.2.2 (a - xcxO C) 4 hat rfl hin hd ?_
  have e9 : va_rf ((g i.toNatClampNeg).map (fun a => xcxB C + a)) = xcV (xcxB C) (va_rf (g i.toNatClampNeg)) := by cases g i.toNatClampNeg <;> rfl
  rw [e9]
  exact K p e s m args below meth c dC dI dA E H locs cells slots ls S hl hL
theorem xArr_upd {D : va_G} {dA : FieldType → ClassId} {b a n : Nat} {ty : FieldType} {g : Nat → Int32} {i x : Int32} {H1 : Heap} (e : H1[b + a]? = some ((vp_cell (dA ty) (n, .inl g)).setSlot i.toNatClampNeg (.int x))) : va_at D xCl (b + a, xcE b dA (.inl (ty, n, .inl (upd g i.toNatClampNeg x)))) H1 := by
  show H1[b + a]? = some (vp_cell (dA ty) (n, .inl (upd g i.toNatClampNeg x)))
  rw [e]
  rw [vp_cell_i, vp_cell_i, arrV_store]
  congr 2
  funext q
  by_cases hq : q = i.toNatClampNeg
  · subst hq
    simp [updV, upd]
  · simp [updV, upd, hq]
theorem xr_iast {C : xCx} {pc : Nat} {L r : List Value} {hp : xHp} {a n : Nat} {g : Nat → Int32} {i x : Int32} (hd : decode (xmB (xcxM C)) pc = .ok (.iastore, 1)) (hq : hp.1 a = .inl (.int, n, .inl g)) (hin : vp_in i n) (K : xJ C (pc + 1) L r (xup hp a (.inl (.int, n, .inl (upd g i.toNatClampNeg x))))) : xJ C pc L (.int x :: .int i :: .ref a :: r) hp := by
  intro p e s m args below meth c dC dI dA E H locs cells slots ls S hl hL
  obtain ⟨hx, hb, hml, hr, hlk, hnm, hown, hts, hKn, hsz, hlo⟩ := id E
  have hrng := xBd_l S.1.2.1 hq
  have hat := xW_at (b := xcxB C) (dA := dA) hrng hq
  exact W.iast hx hb (S.1.2.2 _ _ hat) ((hKn.1.2 0 (dA .int, .int) rfl).1 n (fun j => .int (g j))) (fun q => by cases q) (by show ¬ (i < 0 ∨ (arrV _ _ _).slots.size ≤ _); rw [arrV_size]; exact hin) rfl rfl hd fun H1 e1 z oq =>
    K p e s m args below meth c dC dI dA E H1 _ cells slots ls (xHst_upd S hrng (xArr_upd e1) z oq _) hl hL
theorem xr_bast {C : xCx} {pc : Nat} {L r : List Value} {hp : xHp} {a n : Nat} {g : Nat → Int32} {i x : Int32} {ty : FieldType} (hd : decode (xmB (xcxM C)) pc = .ok (.bastore, 1)) (hq : hp.1 a = .inl (ty, n, .inl g)) (hty : ty = .byte ∨ ty = .boolean) (hin : vp_in i n) (K : xJ C (pc + 1) L r (xup hp a (.inl (ty, n, .inl (upd g i.toNatClampNeg (vp_nar ty x)))))) : xJ C pc L (.int x :: .int i :: .ref a :: r) hp := by
  intro p e s m args below meth c dC dI dA E H locs cells slots ls S hl hL
  obtain ⟨hx, hb, hml, hr, hlk, hnm, hown, hts, hKn, hsz, hlo⟩ := id E
  have hrng := xBd_l S.1.2.1 hq
  have hat := xW_at (b := xcxB C) (dA := dA) hrng hq
  rcases hty with rfl | rfl
  · exact W.bast hx hb (S.1.2.2 _ _ hat) ((hKn.1.2 1 (dA .byte, .byte) rfl).1 n (fun j => .int (g j))) (fun q => by cases q) (by show ¬ (i < 0 ∨ (arrV _ _ _).slots.size ≤ _); rw [arrV_size]; exact hin) rfl rfl hd fun H1 e1 z oq =>
      K p e s m args below meth c dC dI dA E H1 _ cells slots ls (xHst_upd S hrng (xArr_upd (x := vp_nar .byte x) e1) z oq _) hl hL
  · exact W.zast hx hb (S.1.2.2 _ _ hat) ((hKn.1.2 2 (dA .boolean, .boolean) rfl).1 n (fun j => .int (g j))) (fun q => by cases q) (by show ¬ (i < 0 ∨ (arrV _ _ _).slots.size ≤ _); rw [arrV_size]; exact hin) rfl rfl hd fun H1 e1 z oq =>
      K p e s m args below meth c dC dI dA E H1 _ cells slots ls (xHst_upd S hrng (xArr_upd (x := vp_nar .boolean x) e1) z oq _) hl hL
theorem xr_last {C : xCx} {pc : Nat} {L r : List Value} {hp : xHp} {a n : Nat} {g : Nat → Int64} {i : Int32} {x : Int64} (hd : decode (xmB (xcxM C)) pc = .ok (.lastore, 1)) (hq : hp.1 a = .inl (.long, n, .inr (.inl g))) (hin : vp_in i n) (K : xJ C (pc + 1) L r (xup hp a (.inl (.long, n, .inr (.inl (vp_updL g i.toNatClampNeg x)))))) : xJ C pc L (.long x :: .int i :: .ref a :: r) hp := by
  intro p e s m args below meth c dC dI dA E H locs cells slots ls S hl hL
  obtain ⟨hx, hb, hml, hr, hlk, hnm, hown, hts, hKn, hsz, hlo⟩ := id E
  have hrng := xBd_l S.1.2.1 hq
  have hat := xW_at (b := xcxB C) (dA := dA) hrng hq
  refine W.last hx hb (S.1.2.2 _ _ hat) ((hKn.1.2 3 (dA .long, .long) rfl).1 n (fun j => .long (g j))) (fun q => by cases q) (by show ¬ (i < 0 ∨ (arrV _ _ _).slots.size ≤ _); rw [arrV_size]; exact hin) rfl rfl hd fun H1 e1 z oq =>
    K p e s m args below meth c dC dI dA E H1 _ cells slots ls (xHst_upd S hrng ?_ z oq _) hl hL
  have e2 : H1[xcxB C + a]? = some ((vp_cell (dA .long) (n, .inr (.inl g))).setSlot i.toNatClampNeg (.long x)) := e1
  show H1[xcxB C + a]? = some (vp_cell (dA .long) (n, .inr (.inl (vp_updL g i.toNatClampNeg x))))
  rw [e2]
  rw [vp_cell_l, vp_cell_l, arrV_store]
  congr 2
  funext q
  by_cases hq : q = i.toNatClampNeg
  · subst hq
    simp [updV, vp_updL]
  · simp [updV, vp_updL, hq]
theorem xr_aast {C : xCx} {pc : Nat} {L r : List Value} {hp : xHp} {a n v : Nat} {vs : List Value} {g : Nat → Option Nat} {i : Int32} (hd : decode (xmB (xcxM C)) pc = .ok (.aastore, 1)) (hq : hp.1 a = .inl (.object "SunnyOnes$Folk", n, .inr (.inr (.inr (.inr g))))) (hv : hp.1 v = .inr (3, vs)) (hin : vp_in i n) (K : xJ C (pc + 1) L r (xup hp a (.inl (.object "SunnyOnes$Folk", n, .inr (.inr (.inr (.inr (va_up g i.toNatClampNeg (some v))))))))) : xJ C pc L (.ref v :: .int i :: .ref a :: r) hp := by
  intro p e s m args below meth c dC dI dA E H locs cells slots ls S hl hL
  obtain ⟨hx, hb, hml, hr, hlk, hnm, hown, hts, hKn, hsz, hlo⟩ := id E
  have hrng := xBd_l S.1.2.1 hq
  have hat := xW_at (b := xcxB C) (dA := dA) hrng hq
  rw [xcE_q] at hat
  have hc3 : xCl[3]? = some ("SunnyOnes$Folk", F_Folk, 5) := rfl
  have hav := xW_at (b := xcxB C) (dA := dA) (xBd_r S.1.2.1 hv hc3) hv
  rw [xcE_o] at hav
  have hlt : i.toNatClampNeg < n := Nat.not_le.mp fun q => hin (Or.inr q)
  have h0 : ¬ i < 0 := fun q => hin (Or.inl q)
  obtain ⟨r', hr', cellV, g1, g2, g3, -⟩ := S.1.2.2 _ _ hav
  have hcls := (hKn.1.1 3 _ hc3).2
  obtain ⟨kA, comp, k1, k2, k3, -⟩ := (hKn.1.2 4 (dA (.object "SunnyOnes$Folk"), .object "SunnyOnes$Folk") rfl).2
  have hcomp : comp = dC 3 := Option.some.inj (k3.symm.trans hcls.1)
  subst hcomp
  obtain ⟨kC, hkC, -⟩ := hcls.2
  refine W.aast hx hb (S.1.2.2 _ _ hat) (fun q h => by cases h) (fun h => by cases h) k1 k2 rfl hkC ⟨h0, by show _ < (arrV _ _ _).slots.size; rw [arrV_size]; exact hlt⟩ g1 (fun q h => by rw [g3] at h; cases h) (by rw [g2]; exact hkC) (by rw [g2]; exact va_assign hcls) rfl rfl hd fun H1 e1 z oq =>
    K p e s m args below meth c dC dI dA E H1 _ cells slots ls (xHst_upd S hrng ?_ z oq _) hl hL
  have e2 : H1[xcxB C + a]? = some ((vp_cell (dA (.object "SunnyOnes$Folk")) (n, .inr (.inr (.inr (.inr (fun j => (g j).map (fun a => xcxB C + a))))))).setSlot i.toNatClampNeg (.ref (xcxB C + v))) := e1
  show H1[xcxB C + a]? = some (vp_cell (dA (.object "SunnyOnes$Folk")) (n, .inr (.inr (.inr (.inr (fun j => (va_up g i.toNatClampNeg (some v) j).map (fun a => xcxB C + a)))))))
  rw [e2]
  rw [vp_cell_q, vp_cell_q, arrV_store]
  congr 2
  funext q
  by_cases hq : q = i.toNatClampNeg
  · subst hq
    simp [updV, va_up, va_rf]
  · simp [updV, va_up, hq]
theorem xr_alen {C : xCx} {pc : Nat} {L r : List Value} {hp : xHp} {a : Nat} {x : FieldType × vp_A} (hd : decode (xmB (xcxM C)) pc = .ok (.arraylength, 1)) (hq : hp.1 a = .inl x) (ht : x.1 ∈ xTys) (K : xJ C (pc + 1) L (.int (Int32.ofNat x.2.1) :: r) hp) : xJ C pc L (.ref a :: r) hp := by
  intro p e s m args below meth c dC dI dA E H locs cells slots ls S hl hL
  obtain ⟨hx, hb, hml, hr, hlk, hnm, hown, hts, hKn, hsz, hlo⟩ := id E
  have hrng := xBd_l S.1.2.1 hq
  have hat := xW_at (b := xcxB C) (dA := dA) hrng hq
  obtain ⟨t0, ht0⟩ := List.getElem?_of_mem (List.mem_map_of_mem (f := fun t => (dA t, t)) ht)
  exact va_alen (x := xcA (xcxB C) x.2) (v := Int32.ofNat x.2.1) hx hb hKn.1 S.1.2.2 (a - xcxO C) t0 hat ht0 rfl hd (K p e s m args below meth c dC dI dA E H locs cells slots ls S hl hL)
