/-! ===== what is so of all who are there ===== -/
def wfF (q : Fk) (nl : Nat) : Prop := (∀ i, i < q.n → ∃ a, a ≤ 9999 ∧ q.A i = nI a) ∧ (∀ i, i < q.n → ∃ p, p < nl ∧ q.P i = nI p) ∧ (∀ i, i < q.n → ∃ t, t ≤ 99 ∧ q.S i = nI t) ∧ q.n ≤ 7
theorem wfF_E {q r : Fk} {nl : Nat} (h : wfF q nl) (he : fkE r q) : wfF r nl :=
  ⟨fun i hi => by rw [he.2.2.1 i (by rw [← he.1]; exact hi)]; exact h.1 i (by rw [← he.1]; exact hi), fun i hi => by rw [he.2.2.2.1 i (by rw [← he.1]; exact hi)]; exact h.2.1 i (by rw [← he.1]; exact hi), fun i hi => by rw [he.2.2.2.2 i (by rw [← he.1]; exact hi)]; exact h.2.2.1 i (by rw [← he.1]; exact hi), by rw [he.1]; exact h.2.2.2⟩
theorem hof09 (s : St) (q : Fk) (i : Nat) : ∃ x, x < 10 ∧ hof s q i = nI x := ywith09 _
theorem ymin_nI {a b : Nat} (ha : a < 2 ^ 31) (hb : b < 2 ^ 31) : ymin (nI a) (nI b) = nI (min a b) := by
  unfold ymin
  by_cases e : a ≤ b
  · rw [if_pos (nI_le e hb), Nat.min_eq_left e]
  · rw [if_neg (nI_ge (by omega) ha), Nat.min_eq_right (by omega)]
theorem ymax_nI {a b : Nat} (ha : a < 2 ^ 31) (hb : b < 2 ^ 31) : ymax (nI a) (nI b) = nI (max a b) := by
  unfold ymax
  by_cases e : b ≤ a
  · rw [if_pos (nI_le e ha), Nat.max_eq_left e]
  · rw [if_neg (nI_ge (by omega) hb), Nat.max_eq_right (by omega)]
theorem grow_nI {a x : Nat} (ha : a ≤ 9999) (hx : x < 10) : ymin 9999 (nI a + nI x) = nI (min 9999 (a + x)) := by
  rw [nI_ad]
  exact ymin_nI (by decide) (by omega)
theorem wf_dst {s : St} {q : Fk} {nl : Nat} (h : wfF q nl) : wfF (dst s q) nl := by
  refine ⟨fun i hi => ?_, h.2.1, h.2.2.1, h.2.2.2⟩
  have hi2 : i < q.n := hi
  obtain ⟨a, ha, ea⟩ := h.1 i hi2
  obtain ⟨x, hx, ex⟩ := hof09 s q i
  rw [dst_A s q i hi2, ea, ex, grow_nI ha hx]
  exact ⟨_, Nat.min_le_left _ _, rfl⟩
theorem wf_dit {s : St} {q : Fk} {nl : Nat} (h : wfF q nl) (k : Nat) : wfF (dit s q k) nl := by
  induction k with
  | zero => exact h
  | succ k ih => exact wf_dst ih
theorem asum_nI {A : Nat → Int32} {B : Nat} (n : Nat) (h : ∀ i, i < n → ∃ a, a ≤ B ∧ A i = nI a) : ∃ x, x ≤ n * B ∧ asum A n = nI x := by
  induction n with
  | zero => exact ⟨0, Nat.zero_le _, rfl⟩
  | succ n ih =>
    obtain ⟨x, hx, ex⟩ := ih (fun i hi => h i (by omega))
    obtain ⟨a, ha, ea⟩ := h n (by omega)
    refine ⟨x + a, ?_, ?_⟩
    · rw [Nat.succ_mul]; omega
    · show asum A n + A n = _
      rw [ex, ea, nI_ad]
theorem nI_neg {x : Nat} (h : x < 2 ^ 31) : ¬ nI x < 0 := nI_pos h
theorem yabs_nI {a b : Nat} (ha : a < 2 ^ 30) (hb : b < 2 ^ 30) : yabs (nI a - nI b) = nI (max a b - min a b) := by
  unfold yabs
  by_cases e : b ≤ a
  · have e3 : (0 : Int32) ≤ nI (a - b) := nI_le (Nat.zero_le _) (by omega)
    rw [nI_sub e, if_pos e3, Nat.max_eq_left e, Nat.min_eq_right e]
  · have e1 : nI a - nI b = -(nI (b - a)) := by
      rw [← nI_sub (show a ≤ b by omega), Int32.neg_sub]
    have e2 : ¬ (0 : Int32) ≤ -(nI (b - a)) := by
      intro z
      have hx : b - a < 2 ^ 30 := by omega
      have hpos : 0 < b - a := by omega
      generalize b - a = x at z hx hpos
      have h1 : (-(nI x)).toInt = -(x : Int) := by
        have h0 : (nI x).toInt = (x : Int) := Int32.toInt_ofNat_of_lt (by omega)
        rw [Int32.toInt_neg, h0]
        exact Int.bmod_eq_of_le (by omega) (by omega)
      have h2 : (0 : Int) ≤ (-(nI x)).toInt := Int32.le_iff_toInt_le.mp z
      omega
    rw [e1, if_neg e2, Int32.neg_neg, Nat.max_eq_right (by omega), Nat.min_eq_left (by omega)]
def acF (s : St) (q : Fk) (w a b : Int32) : Option Fk :=
  if w = 110 then some (dit s q a.toNatClampNeg)
  else if w = 109 then (if yhas a (nI q.n) = 0 ∨ yhas b (nI s.nl) = 0 then none else if yat 7 q.P a = b then none else some (q.A, yput 7 q.P a b, q.S, q.n, q.day))
  else if w = 115 then (if yhas a (nI q.n) = 0 ∨ yhas b (nI q.n) = 0 ∨ a = b then none else if yat 7 q.P a = yat 7 q.P b then none else some (q.A, ytrd q.P a b, q.S, q.n, q.day))
  else if w = 100 then (if yhas a (nI q.n) = 0 then none else if 0 < yof s.V s.lg s.sk q.P q.A s.tu q.n q.day a then none else some (q.A, q.P, ysin q.S a, q.n, q.day))
  else (if yhas a (nI q.n) = 0 ∨ b < 1 ∨ 99 < b then none else if yat 7 q.A a = 0 then none else some (ydbt q.A a b, q.P, q.S, q.n, q.day))
theorem wf_yputP {q : Fk} {nl : Nat} {i p : Nat} (h : wfF q nl) (hi : i < q.n) (hp : p < nl) : wfF (q.A, upd q.P i (nI p), q.S, q.n, q.day) nl := by
  refine ⟨h.1, fun j hj => ?_, h.2.2.1, h.2.2.2⟩
  show ∃ p2, p2 < nl ∧ upd q.P i (nI p) j = nI p2
  unfold upd
  by_cases e : j = i
  · rw [if_pos e]; exact ⟨p, hp, rfl⟩
  · rw [if_neg e]; exact h.2.1 j hj
theorem wf_updA {q : Fk} {nl : Nat} {i a : Nat} (h : wfF q nl) (ha : a ≤ 9999) : wfF (upd q.A i (nI a), q.P, q.S, q.n, q.day) nl := by
  refine ⟨fun j hj => ?_, h.2.1, h.2.2.1, h.2.2.2⟩
  show ∃ a2, a2 ≤ 9999 ∧ upd q.A i (nI a) j = nI a2
  unfold upd
  by_cases e : j = i
  · rw [if_pos e]; exact ⟨a, ha, rfl⟩
  · rw [if_neg e]; exact h.1 j hj
theorem wf_updS {q : Fk} {nl : Nat} {i a : Nat} (h : wfF q nl) (ha : a ≤ 99) : wfF (q.A, q.P, upd q.S i (nI a), q.n, q.day) nl := by
  refine ⟨h.1, h.2.1, fun j hj => ?_, h.2.2.2⟩
  show ∃ a2, a2 ≤ 99 ∧ upd q.S i (nI a) j = nI a2
  unfold upd
  by_cases e : j = i
  · rw [if_pos e]; exact ⟨a, ha, rfl⟩
  · rw [if_neg e]; exact h.2.2.1 j hj
theorem ysin_nI {q : Fk} {nl i : Nat} (h : wfF q nl) (hi : i < q.n) : ∃ t, t ≤ 99 ∧ ysin q.S (nI i) = upd q.S i (nI t) ∧ ∃ u, u ≤ 99 ∧ q.S i = nI u ∧ t = min 99 (u + 1) := by
  have h7 := h.2.2.2
  obtain ⟨u, hu, eu⟩ := h.2.2.1 i hi
  refine ⟨min 99 (u + 1), Nat.min_le_left _ _, ?_, u, hu, eu, rfl⟩
  unfold ysin
  rw [yput_nI (show i < 7 by omega) y7', yat_nI (show i < 7 by omega) y7', eu, nI_1]
  exact congrArg _ (ymin_nI (by decide) (by omega))
theorem ydbt_nI {q : Fk} {nl i N : Nat} (h : wfF q nl) (hi : i < q.n) (hN : N ≤ 99) : ∃ t, t ≤ 9999 ∧ ydbt q.A (nI i) (nI N) = upd q.A i (nI t) ∧ ∃ u, u ≤ 9999 ∧ q.A i = nI u ∧ t = u - N := by
  have h7 := h.2.2.2
  obtain ⟨u, hu, eu⟩ := h.1 i hi
  refine ⟨u - N, by omega, ?_, u, hu, eu, rfl⟩
  unfold ydbt
  rw [yput_nI (show i < 7 by omega) y7', yat_nI (show i < 7 by omega) y7', eu]
  congr 1
  by_cases e : N ≤ u
  · rw [nI_sub e]
    have := ymax_nI (a := 0) (b := u - N) (by decide) (by omega)
    rw [Nat.max_eq_right (Nat.zero_le _)] at this
    exact this
  · have e1 : nI u - nI N < 0 := by
      have e2 : nI u - nI N = -(nI (N - u)) := by rw [← nI_sub (show u ≤ N by omega), Int32.neg_sub]
      rw [e2]
      have : ∀ x, x < 100 → 0 < x → -(nI x) < 0 := by decide +kernel
      exact this _ (by omega) (by omega)
    unfold ymax
    rw [if_pos (Int32.le_of_lt e1), show u - N = 0 by omega]
    rfl
theorem wf_acF {s : St} {q q2 : Fk} {w a b : Int32} (h : wfF q s.nl) (hl : s.nl ≤ 80) (e : acF s q w a b = some q2) : wfF q2 s.nl ∧ q2.n = q.n := by
  have h7 := h.2.2.2
  unfold acF at e
  split at e
  · cases e; exact ⟨wf_dit h _, dit_n _ _ _⟩
  split at e
  · split at e
    · exact nomatch e
    rename_i z
    split at e
    · exact nomatch e
    cases e
    obtain ⟨i, hi, rfl⟩ := yhas_of (show q.n ≤ 80 by omega) (fun z2 => z (Or.inl z2))
    obtain ⟨p, hp, rfl⟩ := yhas_of hl (fun z2 => z (Or.inr z2))
    rw [yput_nI (show i < 7 by omega) y7']
    exact ⟨wf_yputP h hi hp, rfl⟩
  split at e
  · split at e
    · exact nomatch e
    rename_i z
    split at e
    · exact nomatch e
    cases e
    obtain ⟨i, hi, rfl⟩ := yhas_of (show q.n ≤ 80 by omega) (fun z2 => z (Or.inl z2))
    obtain ⟨o, ho, rfl⟩ := yhas_of (show q.n ≤ 80 by omega) (fun z2 => z (Or.inr (Or.inl z2)))
    unfold ytrd
    rw [yput_nI (show i < 7 by omega) y7', yput_nI (show o < 7 by omega) y7', yat_nI (show i < 7 by omega) y7', yat_nI (show o < 7 by omega) y7']
    obtain ⟨p1, hp1, e1⟩ := h.2.1 i hi
    obtain ⟨p2, hp2, e2⟩ := h.2.1 o ho
    rw [e1, e2]
    exact ⟨wf_yputP (q := (q.A, upd q.P i (nI p2), q.S, q.n, q.day)) (wf_yputP h hi hp2) ho hp1, rfl⟩
  split at e
  · split at e
    · exact nomatch e
    rename_i z
    split at e
    · exact nomatch e
    cases e
    obtain ⟨i, hi, rfl⟩ := yhas_of (show q.n ≤ 80 by omega) z
    obtain ⟨t, ht, et, _⟩ := ysin_nI h hi
    rw [et]
    exact ⟨wf_updS h ht, rfl⟩
  · split at e
    · exact nomatch e
    rename_i z
    split at e
    · exact nomatch e
    cases e
    obtain ⟨i, hi, rfl⟩ := yhas_of (show q.n ≤ 80 by omega) (fun z2 => z (Or.inl z2))
    have z1 : ¬ b < 1 := fun z2 => z (Or.inr (Or.inl z2))
    have z2 : ¬ 99 < b := fun z2 => z (Or.inr (Or.inr z2))
    obtain ⟨N, hN, rfl⟩ := nI_box (B := 99) (by decide) (fun z => z1 (Int32.lt_trans z (by decide))) (Int32.not_lt.mp z2)
    obtain ⟨t, ht, et, _⟩ := ydbt_nI h hi hN
    rw [et]
    exact ⟨wf_updA h ht, rfl⟩
