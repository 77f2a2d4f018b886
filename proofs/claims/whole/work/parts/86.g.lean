/-! ===== bits ===== -/
theorem bt_or : ∀ p, p < 11 → ∀ a, a < 2 ^ p → nI a ||| ybit p = nI (a + 2 ^ p) := by decide +kernel
theorem bt_and : ∀ a, a < 1024 → ∀ p, p < 10 → (nI a &&& ybit p = 0 ↔ Nat.testBit a p = false) := by decide +kernel
theorem bt_has : ∀ a, a < 1024 → ∀ p, p < 10 → mHas (nI a) (nI p) = if Nat.testBit a p then 1 else 0 := by decide +kernel
theorem bt_all : ∀ n, n < 8 → ((1 : Int32) <<< (nI n &&& 31)) - 1 = nI (2 ^ n - 1) := by decide +kernel
/-- a set of those below n of whom c is so -/
def bsn (c : Nat → Bool) : Nat → Nat
  | 0 => 0
  | k + 1 => bsn c k + (if c k then 2 ^ k else 0)
theorem bsn_lt (c : Nat → Bool) (n : Nat) : bsn c n < 2 ^ n := by
  induction n with
  | zero => exact Nat.one_pos
  | succ n ih =>
    have e : 2 ^ (n + 1) = 2 ^ n + 2 ^ n := by rw [Nat.pow_succ]; omega
    unfold bsn
    split <;> omega
theorem bsn_test (c : Nat → Bool) (n : Nat) : ∀ p, Nat.testBit (bsn c n) p = (decide (p < n) && c p) := by
  induction n with
  | zero => intro p; simp [bsn]
  | succ n ih =>
    intro p
    have hl := bsn_lt c n
    unfold bsn
    by_cases e : c n
    · rw [if_pos e]
      by_cases ep : p = n
      · subst ep
        rw [Nat.add_comm, Nat.testBit_two_pow_add_eq, Nat.testBit_lt_two_pow hl, e]
        simp
      · by_cases e2 : p < n
        · rw [Nat.add_comm, Nat.testBit_two_pow_add_gt e2, ih p]
          simp [e2, Nat.lt_succ_of_lt e2]
        · have h2 : bsn c n + 2 ^ n < 2 ^ p := by
            have h3 : 2 ^ (n + 1) ≤ 2 ^ p := Nat.pow_le_pow_right (by decide) (by omega)
            rw [Nat.pow_succ] at h3
            omega
          rw [Nat.testBit_lt_two_pow h2]
          have e3 : ¬ p < n + 1 := by omega
          simp [e3]
    · rw [if_neg e, Nat.add_zero, ih p]
      by_cases e2 : p < n
      · simp [e2, Nat.lt_succ_of_lt e2]
      · by_cases ep : p = n
        · subst ep
          simp [e]
        · have e3 : ¬ p < n + 1 := by omega
          simp [e2, e3]
def isB (c : Nat → Bool) (v : Int32) (n : Nat) : Prop := v = nI (bsn c n)
theorem isB_s {c : Nat → Bool} {v : Int32} {n : Nat} (h : isB c v n) (hn : n < 10) : isB c (v ||| (if c n then ybit n else 0)) (n + 1) := by
  unfold isB at h ⊢
  rw [h]
  have eu : bsn c (n + 1) = bsn c n + (if c n then 2 ^ n else 0) := rfl
  rw [eu]
  by_cases e : c n
  · rw [if_pos e, if_pos e]
    exact bt_or n (by omega) _ (bsn_lt c n)
  · rw [if_neg e, if_neg e]
    exact Int32.or_zero
theorem isB_has {c : Nat → Bool} {v : Int32} {n p : Nat} (h : isB c v n) (hn : n ≤ 10) (hp : p < n) : mHas v (nI p) = if c p then 1 else 0 := by
  have hl := bsn_lt c n
  have h2 : 2 ^ n ≤ 2 ^ 10 := Nat.pow_le_pow_right (by decide) hn
  rw [h, bt_has _ (by omega) p (by omega), bsn_test]
  simp [hp]
theorem isB_and {c : Nat → Bool} {v : Int32} {n p : Nat} (h : isB c v n) (hn : n ≤ 10) (hp : p < n) : v &&& ybit p = 0 ↔ c p = false := by
  have hl := bsn_lt c n
  have h2 : 2 ^ n ≤ 2 ^ 10 := Nat.pow_le_pow_right (by decide) hn
  rw [h, bt_and _ (by omega) p (by omega), bsn_test]
  simp [hp]
theorem isB_hi {c : Nat → Bool} {v : Int32} {n p : Nat} (h : isB c v n) (hn : n ≤ 10) (hp : n ≤ p) (hp2 : p < 10) : v &&& ybit p = 0 := by
  have hl := bsn_lt c n
  have h2 : 2 ^ n ≤ 2 ^ 10 := Nat.pow_le_pow_right (by decide) hn
  rw [h, bt_and _ (by omega) p (by omega), bsn_test]
  have e : ¬ p < n := by omega
  simp [e]
theorem isB_fbits (P : Nat → Int32) (s : Int32) (n : Nat) (hn : n ≤ 10) : isB (fun k => decide (P k = s)) (fbits P s n) n := by
  induction n with
  | zero => rfl
  | succ n ih =>
    have h := isB_s (ih (by omega)) (show n < 10 by omega)
    unfold fbits
    by_cases e : P n = s
    · rw [if_pos e]
      rw [if_pos (by simpa using e)] at h
      exact h
    · rw [if_neg e]
      rw [if_neg (by simpa using e)] at h
      exact h
theorem bsn_true (n : Nat) : bsn (fun _ => true) n = 2 ^ n - 1 := by
  induction n with
  | zero => rfl
  | succ n ih =>
    have e : 2 ^ (n + 1) = 2 ^ n + 2 ^ n := by rw [Nat.pow_succ]; omega
    have e2 : 0 < 2 ^ n := Nat.two_pow_pos n
    unfold bsn
    rw [if_pos rfl, ih]
    omega
theorem mHas_01 (x k : Int32) : mHas x k = 0 ∨ mHas x k = 1 := by
  unfold mHas
  split
  · exact Or.inr rfl
  · exact Or.inl rfl
def agS (A : Nat → Int32) (set : Int32) : Nat → Int32
  | 0 => 0
  | k + 1 => agS A set k + (if mHas set (nI k) = 0 then 0 else A k)
theorem agS_c {A : Nat → Int32} {c : Nat → Bool} {v : Int32} {n : Nat} (h : isB c v n) (hn : n ≤ 10) : ∀ k, k ≤ n → agS A v k = asum (fun i => if c i then A i else 0) k := by
  intro k
  induction k with
  | zero => intro _; rfl
  | succ k ih =>
    intro hk
    show agS A v k + _ = asum _ k + (if c k then A k else 0)
    rw [ih (by omega), isB_has h hn (show k < n by omega)]
    by_cases e : c k
    · rw [if_pos e, if_pos e, if_neg (by decide)]
    · rw [if_neg e, if_neg e, if_pos rfl]
theorem agS_all (A : Nat → Int32) (n : Nat) (hn : n < 8) : agS A (((1 : Int32) <<< (nI n &&& 31)) - 1) n = asum A n := by
  have h : isB (fun _ => true) (((1 : Int32) <<< (nI n &&& 31)) - 1) n := by
    unfold isB
    rw [bsn_true]
    exact bt_all n hn
  rw [agS_c h (by omega) n (Nat.le_refl n)]
  rfl
theorem fages_eq (A P : Nat → Int32) (s : Int32) (n : Nat) : fages A P s n = asum (fun i => if (decide (P i = s)) then A i else 0) n := by
  induction n with
  | zero => rfl
  | succ n ih =>
    show fages A P s n + (if P n = s then A n else 0) = asum _ n + (if decide (P n = s) then A n else 0)
    rw [ih]
    by_cases e : P n = s
    · rw [if_pos e, if_pos (by simpa using e)]
    · rw [if_neg e, if_neg (by simpa using e)]
section MO7
variable {l : Launch} {d b lo gz f a t i D B : Nat} {hp : xHp} {x : SO} {s : St} {q : Fk} {n one other v sky ot k set p : Int32} {g G : Nat → Int32}
theorem c_Mo_agesOf {K : Int32 → xHp → Prop} (h : isO hp x) (hpe : x.pe = nI q.n) (h7 : q.n ≤ 7) (hq : isMk hp a q) (hK : K (agS q.A set q.n) hp) : xMi l (d + 1) b lo gz m_Mo_agesOf [.ref 103, .ref a, .int set] hp K := by
  obtain ⟨rd, le, tp, at2, wr, o1⟩ := isO_raw h
  rw [hpe] at o1
  obtain ⟨g, hg, hgk, hd⟩ := hq
  refine xMC_V ok_Mo_agesOf (by decide) (L0 := [.ref 103, .ref a, .int set, .retAddr 0, .retAddr 0]) rfl rfl ?_
  have loop : ∀ j, j ≤ q.n → xV k_Mo_agesOf (l, d + 1, b, lo, gz, hp.2.1, hp.2.2, m_Mo_agesOf, xpI K) 5 [.ref 103, .ref a, .int set, .int (agS q.A set j), .int (nI j)] [] hp := by
    refine yloop q.n ?_ fun j hj ih => ?_
    · rw [s_Mo_agesOf_5]
      try simp only [s_Mo_agesOf_0, s_Mo_agesOf_1, s_Mo_agesOf_2, s_Mo_agesOf_3, s_Mo_agesOf_7, s_Mo_agesOf_8, s_Mo_agesOf_11, s_Mo_agesOf_14, s_Mo_agesOf_15, s_Mo_agesOf_16, s_Mo_agesOf_18, s_Mo_agesOf_21, s_Mo_agesOf_24, s_Mo_agesOf_25, s_Mo_agesOf_27, s_Mo_agesOf_28, s_Mo_agesOf_31, s_Mo_agesOf_32, s_Mo_agesOf_33, s_Mo_agesOf_34, s_Mo_agesOf_37, s_Mo_agesOf_40, s_Mo_agesOf_41, xg_0, xg_s, xF_up, xPf_up, xO_up, xAi_up, xAl_up, xLn_up, xup_xup, ty_i, ty_b, ty_z, ty_l, ty_q, tb_b, tb_z, xup_2, xpI_s, xpL_s, xpV_s, xpQ_n, xpQ_r, yl_0, yl_1, yl_2, yl_3, yl_4, yl_5, yl_6, xcs_nil, xcs_i, xcs_a, xcs_l, xcs_n, xNl_z, xNl_s, xNl_i, xNl_a, xNl_n, xNl_d, cat_i, cat_a, cat_n, List.getElem?_cons_zero, List.getElem?_cons_succ, List.set_cons_zero, List.set_cons_succ, List.length_cons, List.length_nil, true_and, and_true, eq_self, ite_true, ite_false, if_true, if_false, or_true, true_or, or_false, false_or, Nat.reduceAdd, Nat.reduceLT, Nat.reduceLeDiff, Nat.reduceEqDiff, Nat.reduceSub, ↓reduceIte, reduceCtorEq, not_false_eq_true, not_true_eq_false, false_implies, true_implies, forall_const, imp_self, implies_true, Nat.add_left_cancel_iff, Nat.left_eq_add, Nat.add_eq_left, Nat.zero_lt_succ, Nat.lt_add_left_iff_pos, one_ne_zero_n, zero_ne_one_n, zero_ne_one_i, one_ne_zero_i, xF_r o1, xPf_r o1, xO_r o1]
      exact ⟨fun _ => hK, fun z => absurd (nI_le (Nat.le_refl q.n) (by omega)) z⟩
    · have v1 := vin (show j < 22 by omega) (by decide)
      have v2 := nI_clamp (show j < 2 ^ 31 by omega)
      have w1 := (hgk j hj).1
      rw [s_Mo_agesOf_5]
      try simp only [s_Mo_agesOf_0, s_Mo_agesOf_1, s_Mo_agesOf_2, s_Mo_agesOf_3, s_Mo_agesOf_7, s_Mo_agesOf_8, s_Mo_agesOf_11, s_Mo_agesOf_14, s_Mo_agesOf_15, s_Mo_agesOf_16, s_Mo_agesOf_18, s_Mo_agesOf_21, s_Mo_agesOf_24, s_Mo_agesOf_25, s_Mo_agesOf_27, s_Mo_agesOf_28, s_Mo_agesOf_31, s_Mo_agesOf_32, s_Mo_agesOf_33, s_Mo_agesOf_34, s_Mo_agesOf_37, s_Mo_agesOf_40, s_Mo_agesOf_41, xg_0, xg_s, xF_up, xPf_up, xO_up, xAi_up, xAl_up, xLn_up, xup_xup, ty_i, ty_b, ty_z, ty_l, ty_q, tb_b, tb_z, xup_2, xpI_s, xpL_s, xpV_s, xpQ_n, xpQ_r, yl_0, yl_1, yl_2, yl_3, yl_4, yl_5, yl_6, xcs_nil, xcs_i, xcs_a, xcs_l, xcs_n, xNl_z, xNl_s, xNl_i, xNl_a, xNl_n, xNl_d, cat_i, cat_a, cat_n, List.getElem?_cons_zero, List.getElem?_cons_succ, List.set_cons_zero, List.set_cons_succ, List.length_cons, List.length_nil, true_and, and_true, eq_self, ite_true, ite_false, if_true, if_false, or_true, true_or, or_false, false_or, Nat.reduceAdd, Nat.reduceLT, Nat.reduceLeDiff, Nat.reduceEqDiff, Nat.reduceSub, ↓reduceIte, reduceCtorEq, not_false_eq_true, not_true_eq_false, false_implies, true_implies, forall_const, imp_self, implies_true, Nat.add_left_cancel_iff, Nat.left_eq_add, Nat.add_eq_left, Nat.zero_lt_succ, Nat.lt_add_left_iff_pos, one_ne_zero_n, zero_ne_one_n, zero_ne_one_i, one_ne_zero_i, xF_r o1, xPf_r o1, xO_r o1]
      refine ⟨fun z => absurd z (nI_ge hj (by omega)), fun _ => c_Mo_has ?_⟩
      unfold agS at ih
      by_cases e : mHas set (nI j) = 0
      · rw [if_pos e] at ih
        try simp only [s_Mo_agesOf_0, s_Mo_agesOf_1, s_Mo_agesOf_2, s_Mo_agesOf_3, s_Mo_agesOf_7, s_Mo_agesOf_8, s_Mo_agesOf_11, s_Mo_agesOf_14, s_Mo_agesOf_15, s_Mo_agesOf_16, s_Mo_agesOf_18, s_Mo_agesOf_21, s_Mo_agesOf_24, s_Mo_agesOf_25, s_Mo_agesOf_27, s_Mo_agesOf_28, s_Mo_agesOf_31, s_Mo_agesOf_32, s_Mo_agesOf_33, s_Mo_agesOf_34, s_Mo_agesOf_37, s_Mo_agesOf_40, s_Mo_agesOf_41, xg_0, xg_s, xF_up, xPf_up, xO_up, xAi_up, xAl_up, xLn_up, xup_xup, ty_i, ty_b, ty_z, ty_l, ty_q, tb_b, tb_z, xup_2, xpI_s, xpL_s, xpV_s, xpQ_n, xpQ_r, yl_0, yl_1, yl_2, yl_3, yl_4, yl_5, yl_6, xcs_nil, xcs_i, xcs_a, xcs_l, xcs_n, xNl_z, xNl_s, xNl_i, xNl_a, xNl_n, xNl_d, cat_i, cat_a, cat_n, List.getElem?_cons_zero, List.getElem?_cons_succ, List.set_cons_zero, List.set_cons_succ, List.length_cons, List.length_nil, true_and, and_true, eq_self, ite_true, ite_false, if_true, if_false, or_true, true_or, or_false, false_or, Nat.reduceAdd, Nat.reduceLT, Nat.reduceLeDiff, Nat.reduceEqDiff, Nat.reduceSub, ↓reduceIte, reduceCtorEq, not_false_eq_true, not_true_eq_false, false_implies, true_implies, forall_const, imp_self, implies_true, Nat.add_left_cancel_iff, Nat.left_eq_add, Nat.add_eq_left, Nat.zero_lt_succ, Nat.lt_add_left_iff_pos, one_ne_zero_n, zero_ne_one_n, zero_ne_one_i, one_ne_zero_i, e, nI_1]
        exact ih
      · rw [if_neg e] at ih
        try simp only [s_Mo_agesOf_0, s_Mo_agesOf_1, s_Mo_agesOf_2, s_Mo_agesOf_3, s_Mo_agesOf_7, s_Mo_agesOf_8, s_Mo_agesOf_11, s_Mo_agesOf_14, s_Mo_agesOf_15, s_Mo_agesOf_16, s_Mo_agesOf_18, s_Mo_agesOf_21, s_Mo_agesOf_24, s_Mo_agesOf_25, s_Mo_agesOf_27, s_Mo_agesOf_28, s_Mo_agesOf_31, s_Mo_agesOf_32, s_Mo_agesOf_33, s_Mo_agesOf_34, s_Mo_agesOf_37, s_Mo_agesOf_40, s_Mo_agesOf_41, xg_0, xg_s, xF_up, xPf_up, xO_up, xAi_up, xAl_up, xLn_up, xup_xup, ty_i, ty_b, ty_z, ty_l, ty_q, tb_b, tb_z, xup_2, xpI_s, xpL_s, xpV_s, xpQ_n, xpQ_r, yl_0, yl_1, yl_2, yl_3, yl_4, yl_5, yl_6, xcs_nil, xcs_i, xcs_a, xcs_l, xcs_n, xNl_z, xNl_s, xNl_i, xNl_a, xNl_n, xNl_d, cat_i, cat_a, cat_n, List.getElem?_cons_zero, List.getElem?_cons_succ, List.set_cons_zero, List.set_cons_succ, List.length_cons, List.length_nil, true_and, and_true, eq_self, ite_true, ite_false, if_true, if_false, or_true, true_or, or_false, false_or, Nat.reduceAdd, Nat.reduceLT, Nat.reduceLeDiff, Nat.reduceEqDiff, Nat.reduceSub, ↓reduceIte, reduceCtorEq, not_false_eq_true, not_true_eq_false, false_implies, true_implies, forall_const, imp_self, implies_true, Nat.add_left_cancel_iff, Nat.left_eq_add, Nat.add_eq_left, Nat.zero_lt_succ, Nat.lt_add_left_iff_pos, one_ne_zero_n, zero_ne_one_n, zero_ne_one_i, one_ne_zero_i, e, xAi_r hg, xLn_r hg, v1, v2, w1, nI_1]
        exact ih
  try simp only [s_Mo_agesOf_0, s_Mo_agesOf_1, s_Mo_agesOf_2, s_Mo_agesOf_3, s_Mo_agesOf_7, s_Mo_agesOf_8, s_Mo_agesOf_11, s_Mo_agesOf_14, s_Mo_agesOf_15, s_Mo_agesOf_16, s_Mo_agesOf_18, s_Mo_agesOf_21, s_Mo_agesOf_24, s_Mo_agesOf_25, s_Mo_agesOf_27, s_Mo_agesOf_28, s_Mo_agesOf_31, s_Mo_agesOf_32, s_Mo_agesOf_33, s_Mo_agesOf_34, s_Mo_agesOf_37, s_Mo_agesOf_40, s_Mo_agesOf_41, xg_0, xg_s, xF_up, xPf_up, xO_up, xAi_up, xAl_up, xLn_up, xup_xup, ty_i, ty_b, ty_z, ty_l, ty_q, tb_b, tb_z, xup_2, xpI_s, xpL_s, xpV_s, xpQ_n, xpQ_r, yl_0, yl_1, yl_2, yl_3, yl_4, yl_5, yl_6, xcs_nil, xcs_i, xcs_a, xcs_l, xcs_n, xNl_z, xNl_s, xNl_i, xNl_a, xNl_n, xNl_d, cat_i, cat_a, cat_n, List.getElem?_cons_zero, List.getElem?_cons_succ, List.set_cons_zero, List.set_cons_succ, List.length_cons, List.length_nil, true_and, and_true, eq_self, ite_true, ite_false, if_true, if_false, or_true, true_or, or_false, false_or, Nat.reduceAdd, Nat.reduceLT, Nat.reduceLeDiff, Nat.reduceEqDiff, Nat.reduceSub, ↓reduceIte, reduceCtorEq, not_false_eq_true, not_true_eq_false, false_implies, true_implies, forall_const, imp_self, implies_true, Nat.add_left_cancel_iff, Nat.left_eq_add, Nat.add_eq_left, Nat.zero_lt_succ, Nat.lt_add_left_iff_pos, one_ne_zero_n, zero_ne_one_n, zero_ne_one_i, one_ne_zero_i]
  exact loop 0 (Nat.zero_le _)
theorem c_Mo_ages {K : Int32 → xHp → Prop} (h : isO hp x) (hpe : x.pe = nI q.n) (h7 : q.n ≤ 7) (hq : isMk hp a q) (hK : K (asum q.A q.n) hp) : xMi l (d + 2) b lo gz m_Mo_ages [.ref 103, .ref a] hp K := by
  obtain ⟨rd, le, tp, at2, wr, o1⟩ := isO_raw h
  rw [hpe] at o1
  rw [← agS_all q.A q.n (by omega)] at hK
  refine xMC_V ok_Mo_ages (by decide) (L0 := [.ref 103, .ref a]) rfl rfl ?_
  try simp only [s_Mo_ages_0, s_Mo_ages_1, s_Mo_ages_2, s_Mo_ages_3, s_Mo_ages_4, s_Mo_ages_7, s_Mo_ages_8, s_Mo_ages_9, s_Mo_ages_10, s_Mo_ages_13, xg_0, xg_s, xF_up, xPf_up, xO_up, xAi_up, xAl_up, xLn_up, xup_xup, ty_i, ty_b, ty_z, ty_l, ty_q, tb_b, tb_z, xup_2, xpI_s, xpL_s, xpV_s, xpQ_n, xpQ_r, yl_0, yl_1, yl_2, yl_3, yl_4, yl_5, yl_6, xcs_nil, xcs_i, xcs_a, xcs_l, xcs_n, xNl_z, xNl_s, xNl_i, xNl_a, xNl_n, xNl_d, cat_i, cat_a, cat_n, List.getElem?_cons_zero, List.getElem?_cons_succ, List.set_cons_zero, List.set_cons_succ, List.length_cons, List.length_nil, true_and, and_true, eq_self, ite_true, ite_false, if_true, if_false, or_true, true_or, or_false, false_or, Nat.reduceAdd, Nat.reduceLT, Nat.reduceLeDiff, Nat.reduceEqDiff, Nat.reduceSub, ↓reduceIte, reduceCtorEq, not_false_eq_true, not_true_eq_false, false_implies, true_implies, forall_const, imp_self, implies_true, Nat.add_left_cancel_iff, Nat.left_eq_add, Nat.add_eq_left, Nat.zero_lt_succ, Nat.lt_add_left_iff_pos, one_ne_zero_n, zero_ne_one_n, zero_ne_one_i, one_ne_zero_i, xF_r o1, xPf_r o1, xO_r o1]
  rw [← hpe] at o1
  refine c_Mo_agesOf h hpe h7 hq ?_
  try simp only [s_Mo_ages_0, s_Mo_ages_1, s_Mo_ages_2, s_Mo_ages_3, s_Mo_ages_4, s_Mo_ages_7, s_Mo_ages_8, s_Mo_ages_9, s_Mo_ages_10, s_Mo_ages_13, xg_0, xg_s, xF_up, xPf_up, xO_up, xAi_up, xAl_up, xLn_up, xup_xup, ty_i, ty_b, ty_z, ty_l, ty_q, tb_b, tb_z, xup_2, xpI_s, xpL_s, xpV_s, xpQ_n, xpQ_r, yl_0, yl_1, yl_2, yl_3, yl_4, yl_5, yl_6, xcs_nil, xcs_i, xcs_a, xcs_l, xcs_n, xNl_z, xNl_s, xNl_i, xNl_a, xNl_n, xNl_d, cat_i, cat_a, cat_n, List.getElem?_cons_zero, List.getElem?_cons_succ, List.set_cons_zero, List.set_cons_succ, List.length_cons, List.length_nil, true_and, and_true, eq_self, ite_true, ite_false, if_true, if_false, or_true, true_or, or_false, false_or, Nat.reduceAdd, Nat.reduceLT, Nat.reduceLeDiff, Nat.reduceEqDiff, Nat.reduceSub, ↓reduceIte, reduceCtorEq, not_false_eq_true, not_true_eq_false, false_implies, true_implies, forall_const, imp_self, implies_true, Nat.add_left_cancel_iff, Nat.left_eq_add, Nat.add_eq_left, Nat.zero_lt_succ, Nat.lt_add_left_iff_pos, one_ne_zero_n, zero_ne_one_n, zero_ne_one_i, one_ne_zero_i]
  exact hK
theorem c_Mo_there {K : Int32 → xHp → Prop} (h : isO hp x) (hpe : x.pe = nI q.n) (h7 : q.n ≤ 7) (hq : isMk hp 104 q) (hK : K (fbits q.P p q.n) hp) : xMi l d b lo gz m_Mo_there [.ref 103, .int p] hp K := by
  obtain ⟨rd, le, tp, at2, wr, o1⟩ := isO_raw h
  rw [hpe] at o1
  obtain ⟨g, hg, hgk, hd⟩ := hq
  refine xMC_V ok_Mo_there (by decide) (L0 := [.ref 103, .int p, .retAddr 0, .retAddr 0]) rfl rfl ?_
  have loop : ∀ j, j ≤ q.n → xV k_Mo_there (l, d, b, lo, gz, hp.2.1, hp.2.2, m_Mo_there, xpI K) 4 [.ref 103, .int p, .int (fbits q.P p j), .int (nI j)] [] hp := by
    refine yloop q.n ?_ fun j hj ih => ?_
    · rw [s_Mo_there_4]
      try simp only [s_Mo_there_0, s_Mo_there_1, s_Mo_there_2, s_Mo_there_3, s_Mo_there_5, s_Mo_there_6, s_Mo_there_9, s_Mo_there_12, s_Mo_there_13, s_Mo_there_14, s_Mo_there_17, s_Mo_there_19, s_Mo_there_20, s_Mo_there_21, s_Mo_there_22, s_Mo_there_23, s_Mo_there_26, s_Mo_there_27, s_Mo_there_28, s_Mo_there_29, s_Mo_there_32, s_Mo_there_33, s_Mo_there_34, s_Mo_there_35, s_Mo_there_38, s_Mo_there_41, s_Mo_there_42, xg_0, xg_s, xF_up, xPf_up, xO_up, xAi_up, xAl_up, xLn_up, xup_xup, ty_i, ty_b, ty_z, ty_l, ty_q, tb_b, tb_z, xup_2, xpI_s, xpL_s, xpV_s, xpQ_n, xpQ_r, yl_0, yl_1, yl_2, yl_3, yl_4, yl_5, yl_6, xcs_nil, xcs_i, xcs_a, xcs_l, xcs_n, xNl_z, xNl_s, xNl_i, xNl_a, xNl_n, xNl_d, cat_i, cat_a, cat_n, List.getElem?_cons_zero, List.getElem?_cons_succ, List.set_cons_zero, List.set_cons_succ, List.length_cons, List.length_nil, true_and, and_true, eq_self, ite_true, ite_false, if_true, if_false, or_true, true_or, or_false, false_or, Nat.reduceAdd, Nat.reduceLT, Nat.reduceLeDiff, Nat.reduceEqDiff, Nat.reduceSub, ↓reduceIte, reduceCtorEq, not_false_eq_true, not_true_eq_false, false_implies, true_implies, forall_const, imp_self, implies_true, Nat.add_left_cancel_iff, Nat.left_eq_add, Nat.add_eq_left, Nat.zero_lt_succ, Nat.lt_add_left_iff_pos, one_ne_zero_n, zero_ne_one_n, zero_ne_one_i, one_ne_zero_i, xF_r o1, xPf_r o1, xO_r o1]
      exact ⟨fun _ => hK, fun z => absurd (nI_le (Nat.le_refl q.n) (by omega)) z⟩
    · have ej : (7 : Int32) + nI j = nI (7 + j) := nI_ad 7 j
      have v1 := vin (show 7 + j < 22 by omega) (by decide)
      have v2 := nI_clamp (show 7 + j < 2 ^ 31 by omega)
      have w1 := (hgk j hj).2.1
      rw [s_Mo_there_4]
      try simp only [s_Mo_there_0, s_Mo_there_1, s_Mo_there_2, s_Mo_there_3, s_Mo_there_5, s_Mo_there_6, s_Mo_there_9, s_Mo_there_12, s_Mo_there_13, s_Mo_there_14, s_Mo_there_17, s_Mo_there_19, s_Mo_there_20, s_Mo_there_21, s_Mo_there_22, s_Mo_there_23, s_Mo_there_26, s_Mo_there_27, s_Mo_there_28, s_Mo_there_29, s_Mo_there_32, s_Mo_there_33, s_Mo_there_34, s_Mo_there_35, s_Mo_there_38, s_Mo_there_41, s_Mo_there_42, xg_0, xg_s, xF_up, xPf_up, xO_up, xAi_up, xAl_up, xLn_up, xup_xup, ty_i, ty_b, ty_z, ty_l, ty_q, tb_b, tb_z, xup_2, xpI_s, xpL_s, xpV_s, xpQ_n, xpQ_r, yl_0, yl_1, yl_2, yl_3, yl_4, yl_5, yl_6, xcs_nil, xcs_i, xcs_a, xcs_l, xcs_n, xNl_z, xNl_s, xNl_i, xNl_a, xNl_n, xNl_d, cat_i, cat_a, cat_n, List.getElem?_cons_zero, List.getElem?_cons_succ, List.set_cons_zero, List.set_cons_succ, List.length_cons, List.length_nil, true_and, and_true, eq_self, ite_true, ite_false, if_true, if_false, or_true, true_or, or_false, false_or, Nat.reduceAdd, Nat.reduceLT, Nat.reduceLeDiff, Nat.reduceEqDiff, Nat.reduceSub, ↓reduceIte, reduceCtorEq, not_false_eq_true, not_true_eq_false, false_implies, true_implies, forall_const, imp_self, implies_true, Nat.add_left_cancel_iff, Nat.left_eq_add, Nat.add_eq_left, Nat.zero_lt_succ, Nat.lt_add_left_iff_pos, one_ne_zero_n, zero_ne_one_n, zero_ne_one_i, one_ne_zero_i, xF_r o1, xPf_r o1, xO_r o1, xAi_r hg, xLn_r hg, ej, v1, v2, w1, nI_1]
      refine ⟨fun z => absurd z (nI_ge hj (by omega)), fun _ => ?_⟩
      unfold fbits at ih
      refine ⟨fun e => ?_, fun e => ?_⟩
      · rw [if_neg e] at ih; exact ih
      · rw [if_pos e] at ih; exact ih
  try simp only [s_Mo_there_0, s_Mo_there_1, s_Mo_there_2, s_Mo_there_3, s_Mo_there_5, s_Mo_there_6, s_Mo_there_9, s_Mo_there_12, s_Mo_there_13, s_Mo_there_14, s_Mo_there_17, s_Mo_there_19, s_Mo_there_20, s_Mo_there_21, s_Mo_there_22, s_Mo_there_23, s_Mo_there_26, s_Mo_there_27, s_Mo_there_28, s_Mo_there_29, s_Mo_there_32, s_Mo_there_33, s_Mo_there_34, s_Mo_there_35, s_Mo_there_38, s_Mo_there_41, s_Mo_there_42, xg_0, xg_s, xF_up, xPf_up, xO_up, xAi_up, xAl_up, xLn_up, xup_xup, ty_i, ty_b, ty_z, ty_l, ty_q, tb_b, tb_z, xup_2, xpI_s, xpL_s, xpV_s, xpQ_n, xpQ_r, yl_0, yl_1, yl_2, yl_3, yl_4, yl_5, yl_6, xcs_nil, xcs_i, xcs_a, xcs_l, xcs_n, xNl_z, xNl_s, xNl_i, xNl_a, xNl_n, xNl_d, cat_i, cat_a, cat_n, List.getElem?_cons_zero, List.getElem?_cons_succ, List.set_cons_zero, List.set_cons_succ, List.length_cons, List.length_nil, true_and, and_true, eq_self, ite_true, ite_false, if_true, if_false, or_true, true_or, or_false, false_or, Nat.reduceAdd, Nat.reduceLT, Nat.reduceLeDiff, Nat.reduceEqDiff, Nat.reduceSub, ↓reduceIte, reduceCtorEq, not_false_eq_true, not_true_eq_false, false_implies, true_implies, forall_const, imp_self, implies_true, Nat.add_left_cancel_iff, Nat.left_eq_add, Nat.add_eq_left, Nat.zero_lt_succ, Nat.lt_add_left_iff_pos, one_ne_zero_n, zero_ne_one_n, zero_ne_one_i, one_ne_zero_i]
  exact loop 0 (Nat.zero_le _)
theorem c_Mo_lights {N : Nat} {lg : Nat → Int32} {K : Int32 → xHp → Prop} (h : isO hp x) (hpl : x.pl = nI N) (hN : N ≤ 6) (hg : hp.1 105 = .inl (.int, 6, .inl g)) (hgk : ∀ i, i < N → g i = lg i) (hK : K (asum lg N) hp) : xMi l d b lo gz m_Mo_lights [.ref 103] hp K := by
  obtain ⟨rd, le, tp, at2, wr, o1⟩ := isO_raw h
  rw [hpl] at o1
  refine xMC_V ok_Mo_lights (by decide) (L0 := [.ref 103, .retAddr 0, .retAddr 0]) rfl rfl ?_
  have loop : ∀ j, j ≤ N → xV k_Mo_lights (l, d, b, lo, gz, hp.2.1, hp.2.2, m_Mo_lights, xpI K) 4 [.ref 103, .int (asum lg j), .int (nI j)] [] hp := by
    refine yloop N ?_ fun j hj ih => ?_
    · rw [s_Mo_lights_4]
      try simp only [s_Mo_lights_0, s_Mo_lights_1, s_Mo_lights_2, s_Mo_lights_3, s_Mo_lights_5, s_Mo_lights_6, s_Mo_lights_9, s_Mo_lights_12, s_Mo_lights_13, s_Mo_lights_14, s_Mo_lights_17, s_Mo_lights_18, s_Mo_lights_19, s_Mo_lights_20, s_Mo_lights_21, s_Mo_lights_24, s_Mo_lights_27, s_Mo_lights_28, xg_0, xg_s, xF_up, xPf_up, xO_up, xAi_up, xAl_up, xLn_up, xup_xup, ty_i, ty_b, ty_z, ty_l, ty_q, tb_b, tb_z, xup_2, xpI_s, xpL_s, xpV_s, xpQ_n, xpQ_r, yl_0, yl_1, yl_2, yl_3, yl_4, yl_5, yl_6, xcs_nil, xcs_i, xcs_a, xcs_l, xcs_n, xNl_z, xNl_s, xNl_i, xNl_a, xNl_n, xNl_d, cat_i, cat_a, cat_n, List.getElem?_cons_zero, List.getElem?_cons_succ, List.set_cons_zero, List.set_cons_succ, List.length_cons, List.length_nil, true_and, and_true, eq_self, ite_true, ite_false, if_true, if_false, or_true, true_or, or_false, false_or, Nat.reduceAdd, Nat.reduceLT, Nat.reduceLeDiff, Nat.reduceEqDiff, Nat.reduceSub, ↓reduceIte, reduceCtorEq, not_false_eq_true, not_true_eq_false, false_implies, true_implies, forall_const, imp_self, implies_true, Nat.add_left_cancel_iff, Nat.left_eq_add, Nat.add_eq_left, Nat.zero_lt_succ, Nat.lt_add_left_iff_pos, one_ne_zero_n, zero_ne_one_n, zero_ne_one_i, one_ne_zero_i, xF_r o1, xPf_r o1, xO_r o1]
      exact ⟨fun _ => hK, fun z => absurd (nI_le (Nat.le_refl N) (by omega)) z⟩
    · have v1 := vin (show j < 6 by omega) (by decide)
      have v2 := nI_clamp (show j < 2 ^ 31 by omega)
      have w1 := hgk j hj
      rw [s_Mo_lights_4]
      try simp only [s_Mo_lights_0, s_Mo_lights_1, s_Mo_lights_2, s_Mo_lights_3, s_Mo_lights_5, s_Mo_lights_6, s_Mo_lights_9, s_Mo_lights_12, s_Mo_lights_13, s_Mo_lights_14, s_Mo_lights_17, s_Mo_lights_18, s_Mo_lights_19, s_Mo_lights_20, s_Mo_lights_21, s_Mo_lights_24, s_Mo_lights_27, s_Mo_lights_28, xg_0, xg_s, xF_up, xPf_up, xO_up, xAi_up, xAl_up, xLn_up, xup_xup, ty_i, ty_b, ty_z, ty_l, ty_q, tb_b, tb_z, xup_2, xpI_s, xpL_s, xpV_s, xpQ_n, xpQ_r, yl_0, yl_1, yl_2, yl_3, yl_4, yl_5, yl_6, xcs_nil, xcs_i, xcs_a, xcs_l, xcs_n, xNl_z, xNl_s, xNl_i, xNl_a, xNl_n, xNl_d, cat_i, cat_a, cat_n, List.getElem?_cons_zero, List.getElem?_cons_succ, List.set_cons_zero, List.set_cons_succ, List.length_cons, List.length_nil, true_and, and_true, eq_self, ite_true, ite_false, if_true, if_false, or_true, true_or, or_false, false_or, Nat.reduceAdd, Nat.reduceLT, Nat.reduceLeDiff, Nat.reduceEqDiff, Nat.reduceSub, ↓reduceIte, reduceCtorEq, not_false_eq_true, not_true_eq_false, false_implies, true_implies, forall_const, imp_self, implies_true, Nat.add_left_cancel_iff, Nat.left_eq_add, Nat.add_eq_left, Nat.zero_lt_succ, Nat.lt_add_left_iff_pos, one_ne_zero_n, zero_ne_one_n, zero_ne_one_i, one_ne_zero_i, xF_r o1, xPf_r o1, xO_r o1, xAi_r hg, xLn_r hg, v1, v2, w1, nI_1]
      exact ⟨fun z => absurd z (nI_ge hj (by omega)), fun _ => ih⟩
  try simp only [s_Mo_lights_0, s_Mo_lights_1, s_Mo_lights_2, s_Mo_lights_3, s_Mo_lights_5, s_Mo_lights_6, s_Mo_lights_9, s_Mo_lights_12, s_Mo_lights_13, s_Mo_lights_14, s_Mo_lights_17, s_Mo_lights_18, s_Mo_lights_19, s_Mo_lights_20, s_Mo_lights_21, s_Mo_lights_24, s_Mo_lights_27, s_Mo_lights_28, xg_0, xg_s, xF_up, xPf_up, xO_up, xAi_up, xAl_up, xLn_up, xup_xup, ty_i, ty_b, ty_z, ty_l, ty_q, tb_b, tb_z, xup_2, xpI_s, xpL_s, xpV_s, xpQ_n, xpQ_r, yl_0, yl_1, yl_2, yl_3, yl_4, yl_5, yl_6, xcs_nil, xcs_i, xcs_a, xcs_l, xcs_n, xNl_z, xNl_s, xNl_i, xNl_a, xNl_n, xNl_d, cat_i, cat_a, cat_n, List.getElem?_cons_zero, List.getElem?_cons_succ, List.set_cons_zero, List.set_cons_succ, List.length_cons, List.length_nil, true_and, and_true, eq_self, ite_true, ite_false, if_true, if_false, or_true, true_or, or_false, false_or, Nat.reduceAdd, Nat.reduceLT, Nat.reduceLeDiff, Nat.reduceEqDiff, Nat.reduceSub, ↓reduceIte, reduceCtorEq, not_false_eq_true, not_true_eq_false, false_implies, true_implies, forall_const, imp_self, implies_true, Nat.add_left_cancel_iff, Nat.left_eq_add, Nat.add_eq_left, Nat.zero_lt_succ, Nat.lt_add_left_iff_pos, one_ne_zero_n, zero_ne_one_n, zero_ne_one_i, one_ne_zero_i]
  exact loop 0 (Nat.zero_le _)
end MO7
