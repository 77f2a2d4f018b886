/-! ===== heaps by number: cells lo .. n at the addresses b + k ===== -/
def xcV (b : Nat) (v : Value) : Value := match v with
  | .ref a => .ref (b + a)
  | w => w
def xcA (b : Nat) (x : vp_A) : vp_A := (x.1, match x.2 with
  | .inr (.inr (.inr (.inr f))) => .inr (.inr (.inr (.inr (fun j => (f j).map (fun a => b + a)))))
  | y => y)
def xcE (b : Nat) (dA : FieldType → ClassId) (e : xAE) : va_E := match e with
  | .inl q => .inl (dA q.1, xcA b q.2)
  | .inr q => .inr (q.1, q.2.map (xcV b))
def xcW (b lo n : Nat) (dA : FieldType → ClassId) (f : Nat → xAE) : va_W := (List.range (n - lo)).map (fun i => (b + (lo + i), xcE b dA (f (lo + i))))
theorem xcW_len (b lo n : Nat) (dA : FieldType → ClassId) (f : Nat → xAE) : (xcW b lo n dA f).length = n - lo := by simp [xcW]
theorem xcW_at {b lo n k : Nat} {dA : FieldType → ClassId} {f : Nat → xAE} (h1 : lo ≤ k) (h2 : k < n) : (xcW b lo n dA f)[k - lo]? = some (b + k, xcE b dA (f k)) := by
  have h3 : k - lo < n - lo := by omega
  have h4 : lo + (k - lo) = k := by omega
  simp [xcW, List.getElem?_map, List.getElem?_range h3, h4]
theorem xcW_set {b lo n k : Nat} {dA : FieldType → ClassId} {f : Nat → xAE} {e : xAE} (h1 : lo ≤ k) (h2 : k < n) : (xcW b lo n dA f).set (k - lo) (b + k, xcE b dA e) = xcW b lo n dA (va_up f k e) := by
  apply List.ext_getElem?
  intro i
  by_cases hi : i < n - lo
  · have ha := xcW_at (b := b) (lo := lo) (n := n) (k := lo + i) (dA := dA) (f := va_up f k e) (by omega) (by omega)
    have hb := xcW_at (b := b) (lo := lo) (n := n) (k := lo + i) (dA := dA) (f := f) (by omega) (by omega)
    rw [show lo + i - lo = i by omega] at ha hb
    rw [ha, List.getElem?_set]
    by_cases hk : k - lo = i
    · have e1 : lo + i = k := by omega
      rw [if_pos hk, xcW_len, if_pos (show k - lo < n - lo by omega), e1]
      simp [va_up]
    · have e1 : ¬ lo + i = k := by omega
      rw [if_neg hk, hb]
      simp [va_up, e1]
  · rw [List.getElem?_eq_none (by rw [List.length_set, xcW_len]; omega), List.getElem?_eq_none (by rw [xcW_len]; omega)]
theorem xcW_push {b lo n : Nat} {dA : FieldType → ClassId} {f : Nat → xAE} {e : xAE} (h1 : lo ≤ n) : xcW b lo n dA f ++ [(b + n, xcE b dA e)] = xcW b lo (n + 1) dA (va_up f n e) := by
  apply List.ext_getElem?
  intro i
  by_cases hi : i < n - lo
  · have ha := xcW_at (b := b) (lo := lo) (n := n + 1) (k := lo + i) (dA := dA) (f := va_up f n e) (by omega) (by omega)
    have hb := xcW_at (b := b) (lo := lo) (n := n) (k := lo + i) (dA := dA) (f := f) (by omega) (by omega)
    rw [show lo + i - lo = i by omega] at ha hb
    have e1 : ¬ lo + i = n := by omega
    rw [List.getElem?_append_left (by rw [xcW_len]; exact hi), ha, hb]
    simp [va_up, e1]
  · by_cases h0 : i = n - lo
    · have ha := xcW_at (b := b) (lo := lo) (n := n + 1) (k := n) (dA := dA) (f := va_up f n e) h1 (by omega)
      subst h0
      rw [List.getElem?_append_right (by rw [xcW_len]; omega), xcW_len, ha]
      simp [va_up]
    · rw [List.getElem?_eq_none (by rw [List.length_append, xcW_len]; simp; omega), List.getElem?_eq_none (by rw [xcW_len]; omega)]
theorem xcW_D {b lo n : Nat} {dA : FieldType → ClassId} {f : Nat → xAE} {A : Nat → Prop} (hA : ∀ k, lo ≤ k → k < n → A (b + k)) : va_D A (xcW b lo n dA f) := by
  have key : ∀ (i : Nat) (q : Nat × va_E), (xcW b lo n dA f)[i]? = some q → i < n - lo ∧ q.1 = b + (lo + i) := by
    intro i q h
    have hi : i < n - lo := by
      have := (List.getElem?_eq_some_iff.mp h).1
      rwa [xcW_len] at this
    have ha := xcW_at (b := b) (lo := lo) (n := n) (k := lo + i) (dA := dA) (f := f) (by omega) (by omega)
    rw [show lo + i - lo = i by omega, h] at ha
    exact ⟨hi, by cases ha; rfl⟩
  refine ⟨fun i j p q hp hq h => ?_, fun i q h => ?_⟩
  · have h1 := key i p hp
    have h2 := key j q hq
    omega
  · have h1 := key i q h
    rw [h1.2]
    exact hA _ (by omega) (by omega)
theorem xcV_cat (b : Nat) (v : Value) : (xcV b v).category = v.category := by cases v <;> rfl
abbrev xTys : List FieldType := [.int, .byte, .boolean, .long, .object "SunnyOnes$Folk"]
def xcT (dA : FieldType → ClassId) : List (ClassId × FieldType) := xTys.map (fun t => (dA t, t))
def xKn (dC : Nat → ClassId) (dI : Nat → Nat → Nat) (dA : FieldType → ClassId) (U : State) : Prop := va_K (dC, dI) xCl (xcT dA) U ∧ (∀ w ∈ nestW, va_Nw w U) ∧ va_AO "SunnyOnes$Folk" U
/-! ===== what a method has: launch, frames, base, lowest cell, cells aside, cells and slots at its start, its own row, what is to hold at its end ===== -/
abbrev xCx : Type := Launch × Nat × Nat × Nat × Nat × Nat × Nat × xMI × (Option Value → xHp → Prop)
abbrev xcxL (C : xCx) : Launch := C.1
abbrev xcxD (C : xCx) : Nat := C.2.1
abbrev xcxB (C : xCx) : Nat := C.2.2.1
abbrev xcxO (C : xCx) : Nat := C.2.2.2.1
abbrev xcxG (C : xCx) : Nat := C.2.2.2.2.1
abbrev xcxN (C : xCx) : Nat := C.2.2.2.2.2.1
abbrev xcxS (C : xCx) : Nat := C.2.2.2.2.2.2.1
abbrev xcxM (C : xCx) : xMI := C.2.2.2.2.2.2.2.1
abbrev xcxP (C : xCx) : Option Value → xHp → Prop := C.2.2.2.2.2.2.2.2
abbrev xmY (m : xMI) : MethodName := m.1
abbrev xmB (m : xMI) : ByteArray := m.2.1
abbrev xmL (m : xMI) : Nat := m.2.2.1
abbrev xmR (m : xMI) : Option FieldType := m.2.2.2.1
abbrev xmC (m : xMI) : Nat := m.2.2.2.2.1
abbrev xmS (m : xMI) : Nat := m.2.2.2.2.2.1
abbrev xmN (m : xMI) : Nat := m.2.2.2.2.2.2
def xRm (d : Nat) (m : xMI) : Room := { frames := d, cells := xmC m, slots := xmS m, locals := 40 * d }
def xwY (m : xMI) : List Cond := .code (xmY m) (xmB m) (xmL m) (xmR m) :: wG
def xAa (b lo n sz : Nat) : Nat → Prop := fun q => b + lo ≤ q ∧ (q < b + n ∨ sz ≤ q)
def xBd (lo n : Nat) (f : Nat → xAE) : Prop := ∀ k, (k < lo ∨ n ≤ k) → f k = .inr (99, [])
def xHo (b lo gz : Nat) (dC : Nat → ClassId) (dI : Nat → Nat → Nat) (dA : FieldType → ClassId) (hp : xHp) (H : Heap) : Prop := H.size = b + hp.2.1 + gz ∧ xBd lo hp.2.1 hp.1 ∧ va_P (dC, dI) xCl (xcW b lo hp.2.1 dA hp.1) H
def xPre (b lo gz : Nat) (dC : Nat → ClassId) (dI : Nat → Nat → Nat) (dA : FieldType → ClassId) (hp : xHp) (args : List Value) : Array Value → State → Prop := va_Pc (args.map (xcV b)) (fun U => xHo b lo gz dC dI dA hp U.heap ∧ xKn dC dI dA U)
def xQm (b lo gz : Nat) (dC : Nat → ClassId) (dI : Nat → Nat → Nat) (dA : FieldType → ClassId) (m : xMI) (n0 s0 : Nat) (Po : Option Value → xHp → Prop) : Array Value → State → Outcome → State → Prop := fun _ st o t =>
  (∃ (v : Option Value) (hp : xHp), o = .returned (v.map (xcV b)) ∧ Po v hp ∧ hp.2.1 = n0 + xmC m ∧ hp.2.2 = s0 + xmS m ∧ xHo b lo gz dC dI dA hp t.heap) ∧ va_F (xAa b lo n0 (b + n0 + gz)) st t
/-- a call of m with these arguments on this heap ends so that Po holds -/
def xMC (l : Launch) (d b lo gz : Nat) (m : xMI) (args : List Value) (hp : xHp) (Po : Option Value → xHp → Prop) : Prop :=
  lo ≤ hp.2.1 → ∀ (dC : Nat → ClassId) (dI : Nat → Nat → Nat) (dA : FieldType → ClassId), Met l (xmY m) (xwY m) (xRm d m) (xPre b lo gz dC dI dA hp args) (xQm b lo gz dC dI dA m hp.2.1 hp.2.2 Po) (xmC m) (xmS m) (xAa b lo hp.2.1 (b + hp.2.1 + gz))
def xIsD (v : Value) : Bool := match v with
  | .retAddr _ => true
  | _ => false
def xLv (b : Nat) (L : List Value) : List (Nat × Value) := (List.range L.length).filterMap (fun i => match L[i]? with
  | some v => if xIsD v then none else some (i, xcV b v)
  | none => none)
theorem xLv_mem {b : Nat} {L : List Value} {q : Nat × Value} : q ∈ xLv b L ↔ ∃ v, L[q.1]? = some v ∧ xIsD v = false ∧ q.2 = xcV b v := by
  obtain ⟨i, w⟩ := q
  simp only [xLv, List.mem_filterMap, List.mem_range]
  constructor
  · rintro ⟨j, hj, h⟩
    have hs : L[j]? = some L[j] := List.getElem?_eq_getElem hj
    rw [hs] at h
    by_cases hd : xIsD L[j] = true
    · simp [hd] at h
    · simp [hd] at h
      obtain ⟨h1, h2⟩ := h
      subst h1
      exact ⟨L[j], hs, by simpa using hd, h2.symm⟩
  · rintro ⟨v, h1, h2, h3⟩
    have hi := (List.getElem?_eq_some_iff.mp h1).1
    refine ⟨i, hi, ?_⟩
    have h1' : L[i]? = some v := h1
    have h3' : w = xcV b v := h3
    rw [h1']
    simp [h2, h3']
def xEnv (C : xCx) (p : Program) (s : State) (m : MethodId) (args : Array Value) (meth : Method) (c : Code) (dC : Nat → ClassId) (dI : Nat → Nat → Nat) (dA : FieldType → ClassId) : Prop :=
  p.tables.exec = Jvm.exec ∧ c.code = xmB (xcxM C) ∧ c.maxLocals = xmL (xcxM C) ∧ meth.sig.returnType = xmR (xcxM C) ∧ meth.locks = false ∧ meth.name = (xmY (xcxM C)).name ∧ s.vm.findClass (xmY (xcxM C)).cls = some m.cls ∧ (∀ w ∈ wG, w.before args s = true) ∧ xKn dC dI dA s ∧ s.heap.size = xcxB C + xcxN C + xcxG C ∧ xcxO C ≤ xcxN C
def xHst (C : xCx) (s : State) (dC : Nat → ClassId) (dI : Nat → Nat → Nat) (dA : FieldType → ClassId) (H : Heap) (locs : List Loc) (cells slots : Nat) (hp : xHp) : Prop :=
  xHo (xcxB C) (xcxO C) (xcxG C) dC dI dA hp H ∧ va_S (xAa (xcxB C) (xcxO C) (xcxN C) (xcxB C + xcxN C + xcxG C)) s.heap H locs ∧ hp.2.1 = xcxN C + cells ∧ hp.2.2 = xcxS C + slots ∧ cells ≤ xmC (xcxM C) ∧ slots ≤ xmS (xcxM C) ∧ (xcxG C = 0 ∨ cells = 0)
def xJ (C : xCx) (pc : Nat) (L st : List Value) (hp : xHp) : Prop :=
  ∀ (p : Program) (e : Env) (s : State) (m : MethodId) (args : Array Value) (below : List Frame) (meth : Method) (c : Code) (dC : Nat → ClassId) (dI : Nat → Nat → Nat) (dA : FieldType → ClassId), xEnv C p s m args meth c dC dI dA →
  ∀ (H : Heap) (locs : List Loc) (cells slots : Nat) (ls : Array Slot), xHst C s dC dI dA H locs cells slots hp → lv_has ls (xmL (xcxM C)) (xLv (xcxB C) L) → L.length = xmL (xcxM C) →
  W p (xcxL C) e (xRm (xcxD C) (xcxM C)) s m args below meth c H locs cells slots (MQ below (xQm (xcxB C) (xcxO C) (xcxG C) dC dI dA (xcxM C) (xcxN C) (xcxS C) (xcxP C)) args s (xmC (xcxM C)) (xmS (xcxM C)) (xAa (xcxB C) (xcxO C) (xcxN C) (xcxB C + xcxN C + xcxG C))) (F0 m pc ls (st.map (xcV (xcxB C))))
/-! ===== steps ===== -/
abbrev xK : Type := Nat → List Value → List Value → xHp → Prop
def xup (hp : xHp) (k : Nat) (e : xAE) : xHp := (va_up hp.1 k e, hp.2)
def xF (hp : xHp) (a ci k : Nat) (f : Value → Prop) : Prop := match hp.1 a with
  | .inr q => q.1 = ci ∧ (match q.2[k]? with
    | some v => f v
    | none => False)
  | .inl _ => False
def xPf (hp : xHp) (a ci k : Nat) (v : Value) (f : xHp → Prop) : Prop := match hp.1 a with
  | .inr q => q.1 = ci ∧ k < q.2.length ∧ f (xup hp a (.inr (q.1, q.2.set k v)))
  | .inl _ => False
def xO (hp : xHp) (a ci : Nat) : Prop := match hp.1 a with
  | .inr q => q.1 = ci
  | .inl _ => False
def xAi (hp : xHp) (a : Nat) (f : FieldType → Nat → (Nat → Int32) → Prop) : Prop := match hp.1 a with
  | .inl (ty, n, .inl g) => f ty n g
  | _ => False
def xAl (hp : xHp) (a : Nat) (f : Nat → (Nat → Int64) → Prop) : Prop := match hp.1 a with
  | .inl (ty, n, .inr (.inl g)) => ty = .long ∧ f n g
  | _ => False
def xAq (hp : xHp) (a : Nat) (f : FieldType → Nat → (Nat → Option Nat) → Prop) : Prop := match hp.1 a with
  | .inl (ty, n, .inr (.inr (.inr (.inr g)))) => f ty n g
  | _ => False
def xLn (hp : xHp) (a : Nat) (f : Nat → Prop) : Prop := match hp.1 a with
  | .inl q => q.1 ∈ xTys ∧ f q.2.1
  | .inr _ => False
def xcs (r : List Value) (n : Nat) : Prop := match r with
  | [] => True
  | v :: r => v.category ≤ n ∧ xcs r (n - v.category)
def xCall (C : xCx) (m : xMI) (args : List Value) (hp : xHp) (K : Option Value → xHp → Prop) : Prop := match (xcxD C) with
  | 0 => False
  | d + 1 => ((xmC m = 0 ∧ xmS m = 0) ∨ (xcxG C = 0 ∧ hp.2.1 + xmC m ≤ xcxN C + xmC (xcxM C) ∧ hp.2.2 + xmS m ≤ xcxS C + xmS (xcxM C))) ∧ xMC (xcxL C) d (xcxB C) (xcxO C) (xcxG C) m args hp K
def xpV (K : xHp → Prop) : Option Value → xHp → Prop := fun v hp => match v with
  | none => K hp
  | some _ => False
def xpI (K : Int32 → xHp → Prop) : Option Value → xHp → Prop := fun v hp => match v with
  | some (.int r) => K r hp
  | _ => False
def xpL (K : Int64 → xHp → Prop) : Option Value → xHp → Prop := fun v hp => match v with
  | some (.long r) => K r hp
  | _ => False
def xpQ (K : Value → xHp → Prop) : Option Value → xHp → Prop := fun v hp => match v with
  | some .null => K .null hp
  | some (.ref a) => K (.ref a) hp
  | _ => False
def xResT (t : Option FieldType) (P : List Value → xHp → Prop) (r : List Value) : Option Value → xHp → Prop := match t with
  | none => xpV (fun hp => P r hp)
  | some .long => xpL (fun x hp => P (.long x :: r) hp)
  | some (.object _) => xpQ (fun x hp => P (x :: r) hp)
  | some .int => xpI (fun x hp => P (.int x :: r) hp)
  | some .boolean => xpI (fun x hp => P (.int x :: r) hp)
  | _ => fun _ _ => False
def xRes (m : xMI) (P : List Value → xHp → Prop) (r : List Value) : Option Value → xHp → Prop := xResT (xmR m) P r
def xsw (x : Int32) : Int → List Int → Nat → Int → (Nat → Prop) → Prop
  | _, [], pc, d, P => P ((pc : Int) + d).toNat
  | lo, o :: os, pc, d, P => (x = Int32.ofInt lo → P ((pc : Int) + o).toNat) ∧ (¬ x = Int32.ofInt lo → xsw x (lo + 1) os pc d P)
def xlw (x : Int32) : List (Int × Int) → Nat → Int → (Nat → Prop) → Prop
  | [], pc, d, P => P ((pc : Int) + d).toNat
  | q :: os, pc, d, P => (x = Int32.ofInt q.1 → P ((pc : Int) + q.2).toNat) ∧ (¬ x = Int32.ofInt q.1 → xlw x os pc d P)
def xRet (C : xCx) (hp : xHp) (P : Prop) : Prop := match xmC (xcxM C), xmS (xcxM C) with
  | 0, 0 => P
  | a, c => hp.2.1 = xcxN C + a ∧ hp.2.2 = xcxS C + c ∧ P
def xNl (L : List Value) (i : Nat) : Prop := match i with
  | 0 => True
  | j + 1 => match L[j]? with
    | some (.long _) => False
    | some (.double _) => False
    | _ => True
def xld (L : List Value) (i : Nat) (f : Value → Prop) : Prop := match L[i]? with
  | some v => f v
  | none => False
