/-! ===== reading and writing cells that are known ===== -/
def xg (fs : List Value) (k : Nat) (f : Value → Prop) : Prop := match fs[k]? with
  | some v => f v
  | none => False
theorem xg_0 (v : Value) (l : List Value) (f : Value → Prop) : xg (v :: l) 0 f = f v := rfl
theorem xg_s (v : Value) (l : List Value) (k : Nat) (f : Value → Prop) : xg (v :: l) (k + 1) f = xg l k f := rfl
theorem xF_r {hp : xHp} {a ci : Nat} {fs : List Value} (h : hp.1 a = .inr (ci, fs)) (k : Nat) (f : Value → Prop) : xF hp a ci k f = xg fs k f := by
  unfold xF
  rw [h]
  simp only [true_and]
  rfl
theorem xPf_r {hp : xHp} {a ci : Nat} {fs : List Value} (h : hp.1 a = .inr (ci, fs)) (k : Nat) (v : Value) (f : xHp → Prop) : xPf hp a ci k v f = (k < fs.length ∧ f (xup hp a (.inr (ci, fs.set k v)))) := by
  unfold xPf
  rw [h]
  simp only [true_and]
theorem xO_r {hp : xHp} {a ci : Nat} {fs : List Value} (h : hp.1 a = .inr (ci, fs)) : xO hp a ci = True := by
  unfold xO
  rw [h]
  simp only
theorem xAi_r {hp : xHp} {a n : Nat} {ty : FieldType} {g : Nat → Int32} (h : hp.1 a = .inl (ty, n, .inl g)) (f : FieldType → Nat → (Nat → Int32) → Prop) : xAi hp a f = f ty n g := by
  unfold xAi
  rw [h]
theorem xAl_r {hp : xHp} {a n : Nat} {g : Nat → Int64} (h : hp.1 a = .inl (.long, n, .inr (.inl g))) (f : Nat → (Nat → Int64) → Prop) : xAl hp a f = f n g := by
  unfold xAl
  rw [h]
  simp only [true_and]
theorem xAq_r {hp : xHp} {a n : Nat} {ty : FieldType} {g : Nat → Option Nat} (h : hp.1 a = .inl (ty, n, .inr (.inr (.inr (.inr g))))) (f : FieldType → Nat → (Nat → Option Nat) → Prop) : xAq hp a f = f ty n g := by
  unfold xAq
  rw [h]
theorem xLn_r {hp : xHp} {a n : Nat} {ty : FieldType} {x : (Nat → Int32) ⊕ (Nat → Int64) ⊕ (Nat → UInt32) ⊕ (Nat → UInt64) ⊕ (Nat → Option Nat)} (h : hp.1 a = .inl (ty, n, x)) (f : Nat → Prop) : xLn hp a f = (ty ∈ xTys ∧ f n) := by
  unfold xLn
  rw [h]
theorem ty_i : (FieldType.int ∈ xTys) = True := by simp [xTys]
theorem ty_b : (FieldType.byte ∈ xTys) = True := by simp [xTys]
theorem ty_z : (FieldType.boolean ∈ xTys) = True := by simp [xTys]
theorem ty_l : (FieldType.long ∈ xTys) = True := by simp [xTys]
theorem ty_q : (FieldType.object "SunnyOnes$Folk" ∈ xTys) = True := by simp [xTys]
theorem tb_b : (FieldType.byte = .byte ∨ FieldType.byte = .boolean) = True := by simp
theorem tb_z : (FieldType.boolean = .byte ∨ FieldType.boolean = .boolean) = True := by simp
/-- the cell a behind a change of the cell k -/
theorem xF_up (hp : xHp) (k a ci j : Nat) (e : xAE) (f : Value → Prop) : xF (xup hp k e) a ci j f = if a = k then (match e with
    | .inr q => q.1 = ci ∧ xg q.2 j f
    | .inl _ => False) else xF hp a ci j f := by
  by_cases h : a = k
  · rw [if_pos h]
    unfold xF xg
    rw [xup_1, if_pos h]
    cases e <;> rfl
  · rw [if_neg h]
    unfold xF
    rw [xup_1, if_neg h]
theorem xPf_up (hp : xHp) (k a ci j : Nat) (e : xAE) (v : Value) (f : xHp → Prop) : xPf (xup hp k e) a ci j v f = if a = k then (match e with
    | .inr q => q.1 = ci ∧ j < q.2.length ∧ f (xup hp a (.inr (q.1, q.2.set j v)))
    | .inl _ => False) else xPf hp a ci j v (fun h => f (xup (xup hp k e) a (h.1 a))) := by
  by_cases h : a = k
  · rw [if_pos h]
    unfold xPf
    rw [xup_1, if_pos h]
    subst h
    have e9 : ∀ e2, xup (xup hp a e) a e2 = xup hp a e2 := fun e2 => by
      unfold xup
      congr 1
      exact bx_uu hp.1 a e e2
    cases e <;> simp only [e9]
  · rw [if_neg h]
    unfold xPf
    rw [xup_1, if_neg h]
    cases hp.1 a <;> simp only [xup_1, if_true]
theorem xO_up (hp : xHp) (k a ci : Nat) (e : xAE) : xO (xup hp k e) a ci = if a = k then (match e with
    | .inr q => q.1 = ci
    | .inl _ => False) else xO hp a ci := by
  by_cases h : a = k
  · rw [if_pos h]
    unfold xO
    rw [xup_1, if_pos h]
    cases e <;> rfl
  · rw [if_neg h]
    unfold xO
    rw [xup_1, if_neg h]
theorem xAi_up (hp : xHp) (k a : Nat) (e : xAE) (f : FieldType → Nat → (Nat → Int32) → Prop) : xAi (xup hp k e) a f = if a = k then (match e with
    | .inl (ty, n, .inl g) => f ty n g
    | _ => False) else xAi hp a f := by
  by_cases h : a = k
  · rw [if_pos h]
    unfold xAi
    rw [xup_1, if_pos h]
    rcases e with ⟨ty, n, x | x⟩ | q <;> rfl
  · rw [if_neg h]
    unfold xAi
    rw [xup_1, if_neg h]
theorem xAl_up (hp : xHp) (k a : Nat) (e : xAE) (f : Nat → (Nat → Int64) → Prop) : xAl (xup hp k e) a f = if a = k then (match e with
    | .inl (ty, n, .inr (.inl g)) => ty = .long ∧ f n g
    | _ => False) else xAl hp a f := by
  by_cases h : a = k
  · rw [if_pos h]
    unfold xAl
    rw [xup_1, if_pos h]
    rcases e with ⟨ty, n, x | x | x⟩ | q <;> rfl
  · rw [if_neg h]
    unfold xAl
    rw [xup_1, if_neg h]
theorem xLn_up (hp : xHp) (k a : Nat) (e : xAE) (f : Nat → Prop) : xLn (xup hp k e) a f = if a = k then (match e with
    | .inl q => q.1 ∈ xTys ∧ f q.2.1
    | .inr _ => False) else xLn hp a f := by
  by_cases h : a = k
  · rw [if_pos h]
    unfold xLn
    rw [xup_1, if_pos h]
    cases e <;> rfl
  · rw [if_neg h]
    unfold xLn
    rw [xup_1, if_neg h]
theorem xup_xup (hp : xHp) (a : Nat) (e e2 : xAE) : xup (xup hp a e) a e2 = xup hp a e2 := by
  unfold xup
  congr 1
  exact bx_uu hp.1 a e e2
theorem xup_o {hp : xHp} {k j : Nat} {e c : xAE} (h : hp.1 j = c) (hne : ¬ j = k) : (xup hp k e).1 j = c := by rw [xup_1, if_neg hne, h]
theorem xup_s {hp : xHp} {k : Nat} {e : xAE} : (xup hp k e).1 k = e := by rw [xup_1, if_pos rfl]
