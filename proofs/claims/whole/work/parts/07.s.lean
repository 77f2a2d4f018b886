def xs_i (st : List Value) (f : Int32 → List Value → Prop) : Prop := match st with
  | .int x :: r => f x r
  | _ => False
theorem xs_i_e {st : List Value} {f : Int32 → List Value → Prop} (h : xs_i st f) : ∃ x r, st = .int x :: r ∧ f x r := by
  unfold xs_i at h
  split at h
  · exact ⟨_, _, rfl, h⟩
  · exact h.elim
def xs_ii (st : List Value) (f : Int32 → Int32 → List Value → Prop) : Prop := match st with
  | .int y :: .int x :: r => f x y r
  | _ => False
theorem xs_ii_e {st : List Value} {f : Int32 → Int32 → List Value → Prop} (h : xs_ii st f) : ∃ x y r, st = .int y :: .int x :: r ∧ f x y r := by
  unfold xs_ii at h
  split at h
  · exact ⟨_, _, _, rfl, h⟩
  · exact h.elim
def xs_l (st : List Value) (f : Int64 → List Value → Prop) : Prop := match st with
  | .long x :: r => f x r
  | _ => False
theorem xs_l_e {st : List Value} {f : Int64 → List Value → Prop} (h : xs_l st f) : ∃ x r, st = .long x :: r ∧ f x r := by
  unfold xs_l at h
  split at h
  · exact ⟨_, _, rfl, h⟩
  · exact h.elim
def xs_ll (st : List Value) (f : Int64 → Int64 → List Value → Prop) : Prop := match st with
  | .long y :: .long x :: r => f x y r
  | _ => False
theorem xs_ll_e {st : List Value} {f : Int64 → Int64 → List Value → Prop} (h : xs_ll st f) : ∃ x y r, st = .long y :: .long x :: r ∧ f x y r := by
  unfold xs_ll at h
  split at h
  · exact ⟨_, _, _, rfl, h⟩
  · exact h.elim
def xs_a (st : List Value) (f : Nat → List Value → Prop) : Prop := match st with
  | .ref a :: r => f a r
  | _ => False
theorem xs_a_e {st : List Value} {f : Nat → List Value → Prop} (h : xs_a st f) : ∃ a r, st = .ref a :: r ∧ f a r := by
  unfold xs_a at h
  split at h
  · exact ⟨_, _, rfl, h⟩
  · exact h.elim
def xs_ia (st : List Value) (f : Int32 → Nat → List Value → Prop) : Prop := match st with
  | .int i :: .ref a :: r => f i a r
  | _ => False
theorem xs_ia_e {st : List Value} {f : Int32 → Nat → List Value → Prop} (h : xs_ia st f) : ∃ i a r, st = .int i :: .ref a :: r ∧ f i a r := by
  unfold xs_ia at h
  split at h
  · exact ⟨_, _, _, rfl, h⟩
  · exact h.elim
def xs_iia (st : List Value) (f : Int32 → Int32 → Nat → List Value → Prop) : Prop := match st with
  | .int x :: .int i :: .ref a :: r => f x i a r
  | _ => False
theorem xs_iia_e {st : List Value} {f : Int32 → Int32 → Nat → List Value → Prop} (h : xs_iia st f) : ∃ x i a r, st = .int x :: .int i :: .ref a :: r ∧ f x i a r := by
  unfold xs_iia at h
  split at h
  · exact ⟨_, _, _, _, rfl, h⟩
  · exact h.elim
def xs_lia (st : List Value) (f : Int64 → Int32 → Nat → List Value → Prop) : Prop := match st with
  | .long x :: .int i :: .ref a :: r => f x i a r
  | _ => False
theorem xs_lia_e {st : List Value} {f : Int64 → Int32 → Nat → List Value → Prop} (h : xs_lia st f) : ∃ x i a r, st = .long x :: .int i :: .ref a :: r ∧ f x i a r := by
  unfold xs_lia at h
  split at h
  · exact ⟨_, _, _, _, rfl, h⟩
  · exact h.elim
def xs_aia (st : List Value) (f : Nat → Int32 → Nat → List Value → Prop) : Prop := match st with
  | .ref v :: .int i :: .ref a :: r => f v i a r
  | _ => False
theorem xs_aia_e {st : List Value} {f : Nat → Int32 → Nat → List Value → Prop} (h : xs_aia st f) : ∃ v i a r, st = .ref v :: .int i :: .ref a :: r ∧ f v i a r := by
  unfold xs_aia at h
  split at h
  · exact ⟨_, _, _, _, rfl, h⟩
  · exact h.elim
def xs_v (st : List Value) (f : Value → List Value → Prop) : Prop := match st with
  | v :: r => f v r
  | _ => False
theorem xs_v_e {st : List Value} {f : Value → List Value → Prop} (h : xs_v st f) : ∃ v r, st = v :: r ∧ f v r := by
  unfold xs_v at h
  split at h
  · exact ⟨_, _, rfl, h⟩
  · exact h.elim
def xs_vv (st : List Value) (f : Value → Value → List Value → Prop) : Prop := match st with
  | v :: w :: r => f v w r
  | _ => False
theorem xs_vv_e {st : List Value} {f : Value → Value → List Value → Prop} (h : xs_vv st f) : ∃ v w r, st = v :: w :: r ∧ f v w r := by
  unfold xs_vv at h
  split at h
  · exact ⟨_, _, _, rfl, h⟩
  · exact h.elim
def xs_va (st : List Value) (f : Value → Nat → List Value → Prop) : Prop := match st with
  | v :: .ref a :: r => f v a r
  | _ => False
theorem xs_va_e {st : List Value} {f : Value → Nat → List Value → Prop} (h : xs_va st f) : ∃ v a r, st = v :: .ref a :: r ∧ f v a r := by
  unfold xs_va at h
  split at h
  · exact ⟨_, _, _, rfl, h⟩
  · exact h.elim
def xs_q (st : List Value) (f : List Value → Prop) (g : Nat → List Value → Prop) : Prop := match st with
  | .null :: r => f r
  | .ref a :: r => g a r
  | _ => False
theorem xs_q_e {st : List Value} {f : List Value → Prop} {g : Nat → List Value → Prop} (h : xs_q st f g) : (∃ r, st = .null :: r ∧ f r) ∨ (∃ a r, st = .ref a :: r ∧ g a r) := by
  unfold xs_q at h
  split at h
  · exact Or.inl ⟨_, rfl, h⟩
  · exact Or.inr ⟨_, _, rfl, h⟩
  · exact h.elim
theorem xF_e {hp : xHp} {a ci k : Nat} {f : Value → Prop} (h : xF hp a ci k f) : ∃ fs v, hp.1 a = .inr (ci, fs) ∧ fs[k]? = some v ∧ f v := by
  unfold xF at h
  split at h
  · next q hq =>
    obtain ⟨h1, h2⟩ := h
    split at h2
    · next v hv => exact ⟨q.2, v, by rw [hq, ← h1], hv, h2⟩
    · exact h2.elim
  · exact h.elim
theorem xF_i {hp : xHp} {a ci k : Nat} {f : Value → Prop} {fs : List Value} {v : Value} (hq : hp.1 a = .inr (ci, fs)) (hv : fs[k]? = some v) (h : f v) : xF hp a ci k f := by
  unfold xF
  rw [hq]
  exact ⟨rfl, by rw [hv]; exact h⟩
theorem xPf_e {hp : xHp} {a ci k : Nat} {v : Value} {f : xHp → Prop} (h : xPf hp a ci k v f) : ∃ fs, hp.1 a = .inr (ci, fs) ∧ k < fs.length ∧ f (xup hp a (.inr (ci, fs.set k v))) := by
  unfold xPf at h
  split at h
  · next q hq =>
    obtain ⟨h1, h2, h3⟩ := h
    subst h1
    exact ⟨q.2, hq, h2, h3⟩
  · exact h.elim
theorem xPf_i {hp : xHp} {a ci k : Nat} {v : Value} {f : xHp → Prop} {fs : List Value} (hq : hp.1 a = .inr (ci, fs)) (hk : k < fs.length) (h : f (xup hp a (.inr (ci, fs.set k v)))) : xPf hp a ci k v f := by
  unfold xPf
  rw [hq]
  exact ⟨rfl, hk, h⟩
theorem xO_e {hp : xHp} {a ci : Nat} (h : xO hp a ci) : ∃ fs, hp.1 a = .inr (ci, fs) := by
  unfold xO at h
  split at h
  · next q hq => exact ⟨q.2, by rw [hq, ← h]⟩
  · exact h.elim
theorem xAi_e {hp : xHp} {a : Nat} {f : FieldType → Nat → (Nat → Int32) → Prop} (h : xAi hp a f) : ∃ ty n g, hp.1 a = .inl (ty, n, .inl g) ∧ f ty n g := by
  unfold xAi at h
  split at h
  · next ty n g hq => exact ⟨ty, n, g, hq, h⟩
  · exact h.elim
theorem xAi_i {hp : xHp} {a n : Nat} {ty : FieldType} {g : Nat → Int32} {f : FieldType → Nat → (Nat → Int32) → Prop} (hq : hp.1 a = .inl (ty, n, .inl g)) (h : f ty n g) : xAi hp a f := by
  unfold xAi
  rw [hq]
  exact h
theorem xAl_e {hp : xHp} {a : Nat} {f : Nat → (Nat → Int64) → Prop} (h : xAl hp a f) : ∃ n g, hp.1 a = .inl (.long, n, .inr (.inl g)) ∧ f n g := by
  unfold xAl at h
  split at h
  · next ty n g hq =>
    obtain ⟨rfl, h⟩ := h
    exact ⟨n, g, hq, h⟩
  · exact h.elim
theorem xAl_i {hp : xHp} {a n : Nat} {g : Nat → Int64} {f : Nat → (Nat → Int64) → Prop} (hq : hp.1 a = .inl (.long, n, .inr (.inl g))) (h : f n g) : xAl hp a f := by
  unfold xAl
  rw [hq]
  exact ⟨rfl, h⟩
theorem xAq_e {hp : xHp} {a : Nat} {f : FieldType → Nat → (Nat → Option Nat) → Prop} (h : xAq hp a f) : ∃ ty n g, hp.1 a = .inl (ty, n, .inr (.inr (.inr (.inr g)))) ∧ f ty n g := by
  unfold xAq at h
  split at h
  · next ty n g hq => exact ⟨ty, n, g, hq, h⟩
  · exact h.elim
theorem xAq_i {hp : xHp} {a n : Nat} {ty : FieldType} {g : Nat → Option Nat} {f : FieldType → Nat → (Nat → Option Nat) → Prop} (hq : hp.1 a = .inl (ty, n, .inr (.inr (.inr (.inr g))))) (h : f ty n g) : xAq hp a f := by
  unfold xAq
  rw [hq]
  exact h
theorem xLn_e {hp : xHp} {a : Nat} {f : Nat → Prop} (h : xLn hp a f) : ∃ x, hp.1 a = .inl x ∧ x.1 ∈ xTys ∧ f x.2.1 := by
  unfold xLn at h
  split at h
  · next q hq => exact ⟨q, hq, h⟩
  · exact h.elim
theorem xLn_i {hp : xHp} {a : Nat} {f : Nat → Prop} {x : FieldType × vp_A} (hq : hp.1 a = .inl x) (h : x.1 ∈ xTys ∧ f x.2.1) : xLn hp a f := by
  unfold xLn
  rw [hq]
  exact h
theorem xld_e {L : List Value} {i : Nat} {f : Value → Prop} (h : xld L i f) : ∃ v, L[i]? = some v ∧ f v := by
  unfold xld at h
  split at h
  · next v hv => exact ⟨v, hv, h⟩
  · exact h.elim
theorem xld_i {L : List Value} {i : Nat} {f : Value → Prop} {v : Value} (hv : L[i]? = some v) (h : f v) : xld L i f := by
  unfold xld
  rw [hv]
  exact h
def xvI (v : Value) (f : Int32 → Prop) : Prop := match v with
  | .int x => f x
  | _ => False
theorem xvI_e {v : Value} {f : Int32 → Prop} (h : xvI v f) : ∃ x, v = .int x ∧ f x := by
  unfold xvI at h
  split at h
  · exact ⟨_, rfl, h⟩
  · exact h.elim
def xvL (v : Value) (f : Int64 → Prop) : Prop := match v with
  | .long x => f x
  | _ => False
theorem xvL_e {v : Value} {f : Int64 → Prop} (h : xvL v f) : ∃ x, v = .long x ∧ f x := by
  unfold xvL at h
  split at h
  · exact ⟨_, rfl, h⟩
  · exact h.elim
def xvQ (v : Value) : Prop := match v with
  | .ref _ => True
  | .null => True
  | _ => False
theorem xvQ_e {v : Value} (h : xvQ v) : v = .null ∨ ∃ a, v = .ref a := by
  cases v <;> first | exact Or.inl rfl | exact Or.inr ⟨_, rfl⟩ | exact h.elim
theorem xMC_mono {l : Launch} {d b lo gz : Nat} {m : xMI} {args : List Value} {hp : xHp} {Po Po' : Option Value → xHp → Prop} (hP : ∀ v hp, Po v hp → Po' v hp) (h : xMC l d b lo gz m args hp Po) : xMC l d b lo gz m args hp Po' := by
  intro h1 dC dI dA p e ha hc hk s m' args' below hf happ hpre hK
  obtain ⟨n, o, q1, q2, q3, ⟨⟨⟨v, hp', e1, e2, e3⟩, e4⟩, q5⟩⟩ := h h1 dC dI dA p e ha hc hk s m' args' below hf happ hpre hK
  exact ⟨n, o, q1, q2, q3, ⟨⟨⟨v, hp', e1, hP _ _ e2, e3⟩, e4⟩, q5⟩⟩
def xcl (C : xCx) (m : xMI) (args : List Value) (hp : xHp) (Po : Option Value → xHp → Prop) : Prop := match xcxD C with
  | 0 => False
  | d + 1 => match xmC m, xmS m with
    | 0, 0 => xMC (xcxL C) d (xcxB C) (xcxO C) (xcxG C) m args hp Po
    | a, c => (xcxG C = 0 ∧ hp.2.1 + a ≤ xcxN C + xmC (xcxM C) ∧ hp.2.2 + c ≤ xcxS C + xmS (xcxM C)) ∧ xMC (xcxL C) d (xcxB C) (xcxO C) (xcxG C) m args hp Po
theorem xcl_e {C : xCx} {m : xMI} {args : List Value} {hp : xHp} {Po : Option Value → xHp → Prop} (h : xcl C m args hp Po) : ∃ d, xcxD C = d + 1 ∧ xBud C m hp ∧ xMC (xcxL C) d (xcxB C) (xcxO C) (xcxG C) m args hp Po := by
  unfold xcl at h
  split at h
  · exact h.elim
  · next d hd =>
    refine ⟨d, hd, ?_⟩
    split at h
    · next h1 h2 => exact ⟨Or.inl ⟨h1, h2⟩, h⟩
    · exact ⟨Or.inr h.1, h.2⟩
theorem xcl_mono {C : xCx} {m : xMI} {args : List Value} {hp : xHp} {Po Po' : Option Value → xHp → Prop} (hP : ∀ v hp, Po v hp → Po' v hp) (h : xcl C m args hp Po) : xcl C m args hp Po' := by
  unfold xcl at h ⊢
  split at h
  · exact h.elim
  · split at h
    · exact xMC_mono hP h
    · exact ⟨h.1, xMC_mono hP h.2⟩
theorem xRes_mono {m : xMI} {P P' : List Value → xHp → Prop} {r : List Value} (hP : ∀ st hp, P st hp → P' st hp) : ∀ v hp, xRes m P r v hp → xRes m P' r v hp := by
  intro v hp h
  have key : ∀ t, xResT t P r v hp → xResT t P' r v hp := by
    intro t h
    rcases t with _ | t
    · cases v with
      | none => exact hP _ _ h
      | some v => exact h.elim
    · cases t <;> first | exact h.elim | (rcases v with _ | v; exact h.elim; cases v <;> first | exact hP _ _ h | exact h.elim)
  exact key _ h
theorem xRes_e {m : xMI} {P : List Value → xHp → Prop} {r : List Value} {v : Option Value} {hp : xHp} (h : xRes m P r v hp) : P (v.toList ++ r) hp := by
  have key : ∀ t, xResT t P r v hp → P (v.toList ++ r) hp := by
    intro t h
    rcases t with _ | t
    · cases v with
      | none => exact h
      | some v => exact h.elim
    · cases t <;> first | exact h.elim | (rcases v with _ | v; exact h.elim; cases v <;> first | exact h | exact h.elim)
  exact key _ h
def xiv (C : xCx) (m : xMI) (st : List Value) (hp : xHp) (ci : Option Nat) (P : List Value → xHp → Prop) : Prop := match st.drop (xmN m) with
  | .ref a :: r => (match ci with
    | some c => xO hp a c
    | none => True) ∧ xcs r 8 ∧ xcl C m (.ref a :: (st.take (xmN m)).reverse) hp (xRes m P r)
  | _ => False
def xis (C : xCx) (m : xMI) (st : List Value) (hp : xHp) (P : List Value → xHp → Prop) : Prop := xmN m ≤ st.length ∧ xcs (st.drop (xmN m)) 8 ∧ xcl C m (st.take (xmN m)).reverse hp (xRes m P (st.drop (xmN m)))
theorem xsw_mono {x : Int32} {P P' : Nat → Prop} (hP : ∀ n, P n → P' n) : ∀ (os : List Int) (lo : Int) (pc : Nat) (d : Int), xsw x lo os pc d P → xsw x lo os pc d P'
  | [], _, _, _, h => hP _ h
  | _ :: os, lo, pc, d, h => ⟨fun e => hP _ (h.1 e), fun e => xsw_mono hP os (lo + 1) pc d (h.2 e)⟩
theorem xlw_mono {x : Int32} {P P' : Nat → Prop} (hP : ∀ n, P n → P' n) : ∀ (os : List (Int × Int)) (pc : Nat) (d : Int), xlw x os pc d P → xlw x os pc d P'
  | [], _, _, h => hP _ h
  | _ :: os, pc, d, h => ⟨fun e => hP _ (h.1 e), fun e => xlw_mono hP os pc d (h.2 e)⟩
theorem x_ofInt {x : Int32} {n : Int} (h1 : -2147483648 ≤ n) (h2 : n < 2147483648) : x = Int32.ofInt n ↔ x.toInt = n := by
  constructor
  · intro h
    rw [h]
    exact Int32.toInt_ofInt_of_le h1 h2
  · intro h
    rw [← h, Int32.ofInt_toInt]
theorem xsw_e {x : Int32} {P : Nat → Prop} {pc : Nat} {d : Int} : ∀ (os : List Int) (lo : Int), -2147483648 ≤ lo → lo + os.length ≤ 2147483648 → xsw x lo os pc d P → (∀ (j : Nat) (o : Int), os[j]? = some o → x.toInt = lo + j → P ((pc : Int) + o).toNat) ∧ ((x.toInt < lo ∨ lo + os.length ≤ x.toInt) → P ((pc : Int) + d).toNat)
  | [], lo, h1, h2, h => ⟨fun j o hj => by simp at hj, fun _ => h⟩
  | o :: os, lo, h1, h2, h => by
    rw [List.length_cons] at h2
    have hi : x = Int32.ofInt lo ↔ x.toInt = lo := x_ofInt h1 (by omega)
    constructor
    · intro j o' hj hx
      cases j with
      | zero =>
        simp at hj
        subst hj
        exact h.1 (hi.mpr (by simpa using hx))
      | succ j =>
        have hne : ¬ x = Int32.ofInt lo := fun q => by have := hi.mp q; omega
        exact (xsw_e os (lo + 1) (by omega) (by omega) (h.2 hne)).1 j o' (by simpa using hj) (by omega)
    · intro hx
      rw [List.length_cons] at hx
      have hne : ¬ x = Int32.ofInt lo := fun q => by have := hi.mp q; omega
      exact (xsw_e os (lo + 1) (by omega) (by omega) (h.2 hne)).2 (by omega)
theorem xlw_e {x : Int32} {P : Nat → Prop} {pc : Nat} {d : Int} : ∀ (os : List (Int × Int)), (∀ q ∈ os, -2147483648 ≤ q.1 ∧ q.1 < 2147483648) → xlw x os pc d P → P ((pc : Int) + Op.lookupswitch.offset os d x.toInt).toNat
  | [], _, h => h
  | q :: os, hb, h => by
    obtain ⟨a, o⟩ := q
    have h1 := hb (a, o) List.mem_cons_self
    have hi : x = Int32.ofInt a ↔ x.toInt = a := x_ofInt h1.1 h1.2
    rw [Op.lookupswitch.offset_cons]
    by_cases ha : a = x.toInt
    · rw [if_pos ha]
      exact h.1 (hi.mpr ha.symm)
    · rw [if_neg ha]
      exact xlw_e os (fun q hq => hb q (List.mem_cons_of_mem _ hq)) (h.2 (fun q => ha (hi.mp q).symm))
theorem xRet_mono {C : xCx} {hp : xHp} {P P' : Prop} (h : P → P') : xRet C hp P → xRet C hp P' := by
  unfold xRet
  split
  · exact h
  · exact fun q => ⟨q.1, q.2.1, h q.2.2⟩
theorem xRet_e {C : xCx} {s : State} {dC : Nat → ClassId} {dI : Nat → Nat → Nat} {dA : FieldType → ClassId} {H : Heap} {locs : List Loc} {cells slots : Nat} {hp : xHp} {P : Prop} (S : xHst C s dC dI dA H locs cells slots hp) (h : xRet C hp P) : cells = xmC (xcxM C) ∧ slots = xmS (xcxM C) ∧ P := by
  obtain ⟨-, -, S5, S6, S7, S8, S9⟩ := S
  unfold xRet at h
  split at h
  · next h1 h2 => exact ⟨by omega, by omega, h⟩
  · exact ⟨by omega, by omega, h.2.2⟩
theorem xr_iret {C : xCx} {pc : Nat} {L : List Value} {hp : xHp} {v : Int32} (hrt : xmR (xcxM C) = some .int) (hd : decode (xmB (xcxM C)) pc = .ok (.ireturn, 1)) (h : xRet C hp (xcxP C (some (.int v)) hp)) : xJ C pc L [.int v] hp := by
  intro p e s m args below meth c dC dI dA E H locs cells slots ls S hl hL
  obtain ⟨hx, hb, hml, hr, hlk, hnm, hown, hts, hKn, hsz, hlo⟩ := id E
  obtain ⟨h1, h2, hP⟩ := xRet_e S h
  have h3 := S.2.2.1
  have h4 := S.2.2.2.1
  rw [h1] at h3 S
  rw [h2] at h4 S
  rw [h1, h2]
  exact W.iret hx hb (hr.trans hrt) (fun t ht hW => ⟨⟨some (.int v), hp, rfl, hP, h3, h4, by rw [ht]; exact S.1⟩, S.2.1.F ht⟩) S.2.1.2.2 hd
theorem xr_zret {C : xCx} {pc : Nat} {L : List Value} {hp : xHp} {v : Int32} (hrt : xmR (xcxM C) = some .boolean) (hv : v = 0 ∨ v = 1) (hd : decode (xmB (xcxM C)) pc = .ok (.ireturn, 1)) (h : xRet C hp (xcxP C (some (.int v)) hp)) : xJ C pc L [.int v] hp := by
  intro p e s m args below meth c dC dI dA E H locs cells slots ls S hl hL
  obtain ⟨hx, hb, hml, hr, hlk, hnm, hown, hts, hKn, hsz, hlo⟩ := id E
  obtain ⟨h1, h2, hP⟩ := xRet_e S h
  have h3 := S.2.2.1
  have h4 := S.2.2.2.1
  rw [h1] at h3 S
  rw [h2] at h4 S
  rw [h1, h2]
  exact W.zret hx hb (hr.trans hrt) (by rcases hv with rfl | rfl <;> rfl) (fun t ht hW => ⟨⟨some (.int v), hp, rfl, hP, h3, h4, by rw [ht]; exact S.1⟩, S.2.1.F ht⟩) S.2.1.2.2 hd
theorem xr_lret {C : xCx} {pc : Nat} {L : List Value} {hp : xHp} {v : Int64} (hrt : xmR (xcxM C) = some .long) (hd : decode (xmB (xcxM C)) pc = .ok (.lreturn, 1)) (h : xRet C hp (xcxP C (some (.long v)) hp)) : xJ C pc L [.long v] hp := by
  intro p e s m args below meth c dC dI dA E H locs cells slots ls S hl hL
  obtain ⟨hx, hb, hml, hr, hlk, hnm, hown, hts, hKn, hsz, hlo⟩ := id E
  obtain ⟨h1, h2, hP⟩ := xRet_e S h
  have h3 := S.2.2.1
  have h4 := S.2.2.2.1
  rw [h1] at h3 S
  rw [h2] at h4 S
  rw [h1, h2]
  exact W.lret hx hb (hr.trans hrt) (fun t ht hW => ⟨⟨some (.long v), hp, rfl, hP, h3, h4, by rw [ht]; exact S.1⟩, S.2.1.F ht⟩) S.2.1.2.2 hd
theorem xr_aret {C : xCx} {pc : Nat} {L : List Value} {hp : xHp} {v : Value} {n : String} (hrt : xmR (xcxM C) = some (.object n)) (hv : xvQ v) (hd : decode (xmB (xcxM C)) pc = .ok (.areturn, 1)) (h : xRet C hp (xcxP C (some v) hp)) : xJ C pc L [v] hp := by
  intro p e s m args below meth c dC dI dA E H locs cells slots ls S hl hL
  obtain ⟨hx, hb, hml, hr, hlk, hnm, hown, hts, hKn, hsz, hlo⟩ := id E
  obtain ⟨h1, h2, hP⟩ := xRet_e S h
  have h3 := S.2.2.1
  have h4 := S.2.2.2.1
  rw [h1] at h3 S
  rw [h2] at h4 S
  rw [h1, h2]
  exact W.aret hx hb (hr.trans hrt) (Or.inl ⟨n, rfl⟩) (v := xcV (xcxB C) v) (by rcases xvQ_e hv with rfl | ⟨a, rfl⟩; exact Or.inl rfl; exact Or.inr ⟨_, rfl⟩) (fun t ht hW => ⟨⟨some v, hp, rfl, hP, h3, h4, by rw [ht]; exact S.1⟩, S.2.1.F ht⟩) S.2.1.2.2 hd
theorem xr_vret {C : xCx} {pc : Nat} {L : List Value} {hp : xHp} (hrt : xmR (xcxM C) = none) (hd : decode (xmB (xcxM C)) pc = .ok (.return_, 1)) (h : xRet C hp (xcxP C (none) hp)) : xJ C pc L [] hp := by
  intro p e s m args below meth c dC dI dA E H locs cells slots ls S hl hL
  obtain ⟨hx, hb, hml, hr, hlk, hnm, hown, hts, hKn, hsz, hlo⟩ := id E
  obtain ⟨h1, h2, hP⟩ := xRet_e S h
  have h3 := S.2.2.1
  have h4 := S.2.2.2.1
  rw [h1] at h3 S
  rw [h2] at h4 S
  rw [h1, h2]
  exact W.vret hx hb (hr.trans hrt) (fun t ht hW => ⟨⟨none, hp, rfl, hP, h3, h4, by rw [ht]; exact S.1⟩, S.2.1.F ht⟩) S.2.1.2.2 hd
