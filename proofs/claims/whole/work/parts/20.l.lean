/-! ===== small rows for reckoning ===== -/
theorem xup_1 (hp : xHp) (k j : Nat) (e : xAE) : (xup hp k e).1 j = if j = k then e else hp.1 j := rfl
theorem xup_2 (hp : xHp) (k : Nat) (e : xAE) : (xup hp k e).2 = hp.2 := rfl
theorem yl_0 {α : Type} (l : List α) : (0 ≤ List.length l) = True := by simp
theorem yl_1 {α : Type} (a : α) (l : List α) : (1 ≤ List.length (a :: l)) = True := by simp
theorem yl_2 {α : Type} (a b : α) (l : List α) : (2 ≤ List.length (a :: b :: l)) = True := by simp
theorem yl_3 {α : Type} (a b c : α) (l : List α) : (3 ≤ List.length (a :: b :: c :: l)) = True := by simp
theorem yl_4 {α : Type} (a b c d : α) (l : List α) : (4 ≤ List.length (a :: b :: c :: d :: l)) = True := by simp
theorem yl_5 {α : Type} (a b c d e : α) (l : List α) : (5 ≤ List.length (a :: b :: c :: d :: e :: l)) = True := by simp
theorem yl_6 {α : Type} (a b c d e f : α) (l : List α) : (6 ≤ List.length (a :: b :: c :: d :: e :: f :: l)) = True := by simp
theorem xcs_nil (n : Nat) : xcs [] n = True := rfl
theorem xcs_i (x : Int32) (r : List Value) (n : Nat) : xcs (.int x :: r) (n + 1) = xcs r n := propext ⟨fun h => h.2, fun h => ⟨by show 1 ≤ n + 1; omega, h⟩⟩
theorem xcs_a (x : Nat) (r : List Value) (n : Nat) : xcs (.ref x :: r) (n + 1) = xcs r n := propext ⟨fun h => h.2, fun h => ⟨by show 1 ≤ n + 1; omega, h⟩⟩
theorem xcs_n (r : List Value) (n : Nat) : xcs (.null :: r) (n + 1) = xcs r n := propext ⟨fun h => h.2, fun h => ⟨by show 1 ≤ n + 1; omega, h⟩⟩
theorem xcs_l (x : Int64) (r : List Value) (n : Nat) : xcs (.long x :: r) (n + 2) = xcs r n := propext ⟨fun h => h.2, fun h => ⟨by show 2 ≤ n + 2; omega, h⟩⟩
theorem xNl_z (L : List Value) : xNl L 0 = True := rfl
theorem xNl_s (v : Value) (L : List Value) (i : Nat) : xNl (v :: L) (i + 2) = xNl L (i + 1) := rfl
theorem xNl_i (x : Int32) (L : List Value) : xNl (.int x :: L) 1 = True := rfl
theorem xNl_a (x : Nat) (L : List Value) : xNl (.ref x :: L) 1 = True := rfl
theorem xNl_n (L : List Value) : xNl (.null :: L) 1 = True := rfl
theorem xNl_d (n : Nat) (L : List Value) : xNl (.retAddr n :: L) 1 = True := rfl
theorem cat_i (x : Int32) : Value.category (.int x) = 1 := rfl
theorem cat_a (x : Nat) : Value.category (.ref x) = 1 := rfl
theorem cat_n : Value.category .null = 1 := rfl
theorem one_ne_zero_n : ((1 : Nat) = 0) = False := by simp
theorem zero_ne_one_n : ((0 : Nat) = 1) = False := by simp
theorem one_ne_zero_i : ((1 : Int32) = 0) = False := by simp
theorem zero_ne_one_i : ((0 : Int32) = 1) = False := by simp
/-! ===== rows that never fail ===== -/
def yat (n : Nat) (g : Nat → Int32) (i : Int32) : Int32 := if i < 0 then 0 else if Int32.ofNat n ≤ i then 0 else g i.toNatClampNeg
def yput (n : Nat) (g : Nat → Int32) (i x : Int32) : Nat → Int32 := if i < 0 then g else if Int32.ofNat n ≤ i then g else upd g i.toNatClampNeg x
def ywith (v low high : Int32) : Int32 := if v < low then low else if high < v then high else v
theorem yin {i : Int32} {n : Nat} (hn : n < 2 ^ 31) (h1 : ¬ i < 0) (h2 : ¬ Int32.ofNat n ≤ i) : vp_in i n := by
  intro h
  rcases h with h | h
  · exact h1 h
  · obtain ⟨j, hj, rfl⟩ := nI_of h1
    rw [nI_clamp hj] at h
    exact h2 (nI_le h hj)
theorem c_So_at {l : Launch} {d b lo gz a n : Nat} {hp : xHp} {g : Nat → Int32} {i : Int32} {K : Int32 → xHp → Prop} (h : hp.1 a = .inl (.int, n, .inl g)) (hn : n < 2 ^ 31) (hK : K (yat n g i) hp) : xMi l d b lo gz m_So_at [.ref a, .int i] hp K := by
  refine xMC_V ok_So_at (by decide) (L0 := [.ref a, .int i]) rfl rfl ?_
  simp only [s_So_at_0, s_So_at_1, s_So_at_4, s_So_at_5, s_So_at_6, s_So_at_7, s_So_at_10, s_So_at_11, s_So_at_12, s_So_at_13, s_So_at_16, s_So_at_17, xF, xPf, xO, xAi, xAl, xAq, xLn, xup_1, xup_2, xpI_s, xpL_s, xpV_s, xpQ_n, xpQ_r, yl_0, yl_1, yl_2, yl_3, yl_4, yl_5, yl_6, xcs_nil, xcs_i, xcs_a, xcs_l, xcs_n, xNl_z, xNl_s, xNl_i, xNl_a, xNl_n, xNl_d, cat_i, cat_a, cat_n, List.getElem?_cons_zero, List.getElem?_cons_succ, List.set_cons_zero, List.set_cons_succ, List.length_cons, List.length_nil, true_and, and_true, eq_self, ite_true, ite_false, if_true, if_false, or_true, true_or, or_false, false_or, Nat.reduceAdd, Nat.reduceLT, Nat.reduceLeDiff, Nat.reduceEqDiff, Nat.reduceSub, ↓reduceIte, reduceCtorEq, not_false_eq_true, not_true_eq_false, false_implies, true_implies, forall_const, imp_self, implies_true, Nat.add_left_cancel_iff, Nat.left_eq_add, Nat.add_eq_left, Nat.zero_lt_succ, Nat.lt_add_left_iff_pos, one_ne_zero_n, zero_ne_one_n, zero_ne_one_i, one_ne_zero_i, h, xTys, List.mem_cons]
  unfold yat at hK
  refine ⟨fun h1 => ?_, fun h1 => ⟨fun h2 => ?_, fun h2 => ⟨yin hn h1 h2, ?_⟩⟩⟩
  · rw [if_pos h1] at hK; exact hK
  · rw [if_neg h1, if_pos h2] at hK; exact hK
  · rw [if_neg h1, if_neg h2] at hK; exact hK
theorem c_So_put {l : Launch} {d b lo gz a n : Nat} {hp : xHp} {g : Nat → Int32} {i v : Int32} {K : xHp → Prop} (h : hp.1 a = .inl (.int, n, .inl g)) (hn : n < 2 ^ 31) (hK : K (xup hp a (.inl (.int, n, .inl (yput n g i v))))) : xMv l d b lo gz m_So_put [.ref a, .int i, .int v] hp K := by
  refine xMC_V ok_So_put (by decide) (L0 := [.ref a, .int i, .int v]) rfl rfl ?_
  simp only [s_So_put_0, s_So_put_1, s_So_put_4, s_So_put_5, s_So_put_6, s_So_put_7, s_So_put_10, s_So_put_11, s_So_put_12, s_So_put_13, s_So_put_14, xF, xPf, xO, xAi, xAl, xAq, xLn, xup_1, xup_2, xpI_s, xpL_s, xpV_s, xpQ_n, xpQ_r, yl_0, yl_1, yl_2, yl_3, yl_4, yl_5, yl_6, xcs_nil, xcs_i, xcs_a, xcs_l, xcs_n, xNl_z, xNl_s, xNl_i, xNl_a, xNl_n, xNl_d, cat_i, cat_a, cat_n, List.getElem?_cons_zero, List.getElem?_cons_succ, List.set_cons_zero, List.set_cons_succ, List.length_cons, List.length_nil, true_and, and_true, eq_self, ite_true, ite_false, if_true, if_false, or_true, true_or, or_false, false_or, Nat.reduceAdd, Nat.reduceLT, Nat.reduceLeDiff, Nat.reduceEqDiff, Nat.reduceSub, ↓reduceIte, reduceCtorEq, not_false_eq_true, not_true_eq_false, false_implies, true_implies, forall_const, imp_self, implies_true, Nat.add_left_cancel_iff, Nat.left_eq_add, Nat.add_eq_left, Nat.zero_lt_succ, Nat.lt_add_left_iff_pos, one_ne_zero_n, zero_ne_one_n, zero_ne_one_i, one_ne_zero_i, h, xTys, List.mem_cons]
  unfold yput at hK
  have hid : xup hp a (.inl (.int, n, .inl g)) = hp := by
    unfold xup
    congr 1
    funext j
    unfold va_up
    by_cases hj : j = a
    · rw [if_pos hj, hj, h]
    · rw [if_neg hj]
  refine ⟨fun h1 => ?_, fun h1 => ⟨fun h2 => ?_, fun h2 => ⟨yin hn h1 h2, ?_⟩⟩⟩
  · rw [if_pos h1, hid] at hK; exact hK
  · rw [if_neg h1, if_pos h2, hid] at hK; exact hK
  · rw [if_neg h1, if_neg h2] at hK; exact hK
theorem xMC_VF {k : List xEC} {m : xMI} (hk : ∀ E ∈ k, xOk m E) (hpl : plainFor (xmY m) = true) {l : Launch} {d b lo gz : Nat} {args L0 : List Value} {hp : xHp} {Po : Option Value → xHp → Prop} (hL0 : xL0 (xmL m) args = L0) (hlen : L0.length = xmL m) (hV : xV k (l, d, b, lo, gz, hp.2.1, hp.2.2, m, Po) 0 L0 [] hp) : xMC l d b lo gz m args hp Po := by
  subst hL0
  intro hlo dC dI dA
  refine va_MetF (cc := xmB m) (maxL := xmL m) (ret := xmR m) hpl rfl ?_
  intro p e s m' args' below meth c s₁ B hml hv
  obtain ⟨rfl, hho, hkn⟩ := hv
  have hts := atoms_spec (ws := xwY m) B.pre
  have hJ := xV_J hk hV
  have hle : (lg_sl (args.map (xcV b))).length ≤ xmL m := by
    rw [xfl_len]
    unfold xL0 at hlen
    rw [List.length_append, List.length_replicate] at hlen
    omega
  have hl := lv_entry (args.map (xcV b)) hle
  rw [lg_entry_eq]
  exact hJ p e s m' _ below meth c dC dI dA ⟨B.exec, B.bytes, hml, B.returns, B.notSynchronized, (name_of_methodNamed B.named B.method).1, findClass_of_methodNamed B.named, fun w hw => hts w (List.mem_cons_of_mem _ hw), hkn, hho.1, hlo⟩ s.heap [] 0 0 _ ⟨hho, va_S.rf, rfl, rfl, Nat.zero_le _, Nat.zero_le _, Or.inr rfl⟩ (xL0_has hl) hlen
theorem c_So_within {l : Launch} {d b lo gz : Nat} {hp : xHp} {v low high : Int32} {K : Int32 → xHp → Prop} (hK : K (ywith v low high) hp) : xMi l d b lo gz m_So_within [.int v, .int low, .int high] hp K := by
  refine xMC_V ok_So_within (by decide) (L0 := [.int v, .int low, .int high]) rfl rfl ?_
  simp only [s_So_within_0, s_So_within_1, s_So_within_2, s_So_within_5, s_So_within_6, s_So_within_9, s_So_within_10, s_So_within_11, s_So_within_14, s_So_within_15, s_So_within_18, s_So_within_19, xF, xPf, xO, xAi, xAl, xAq, xLn, xup_1, xup_2, xpI_s, xpL_s, xpV_s, xpQ_n, xpQ_r, yl_0, yl_1, yl_2, yl_3, yl_4, yl_5, yl_6, xcs_nil, xcs_i, xcs_a, xcs_l, xcs_n, xNl_z, xNl_s, xNl_i, xNl_a, xNl_n, xNl_d, cat_i, cat_a, cat_n, List.getElem?_cons_zero, List.getElem?_cons_succ, List.set_cons_zero, List.set_cons_succ, List.length_cons, List.length_nil, true_and, and_true, eq_self, ite_true, ite_false, if_true, if_false, or_true, true_or, or_false, false_or, Nat.reduceAdd, Nat.reduceLT, Nat.reduceLeDiff, Nat.reduceEqDiff, Nat.reduceSub, ↓reduceIte, reduceCtorEq, not_false_eq_true, not_true_eq_false, false_implies, true_implies, forall_const, imp_self, implies_true, Nat.add_left_cancel_iff, Nat.left_eq_add, Nat.add_eq_left, Nat.zero_lt_succ, Nat.lt_add_left_iff_pos, one_ne_zero_n, zero_ne_one_n, zero_ne_one_i, one_ne_zero_i]
  unfold ywith at hK
  grind
def ymax (x y : Int32) : Int32 := if y ≤ x then x else y
def ymin (x y : Int32) : Int32 := if x ≤ y then x else y
def yabs (x : Int32) : Int32 := if 0 ≤ x then x else -x
theorem c_Math_max {l : Launch} {d b lo gz : Nat} {hp : xHp} {x y : Int32} {K : Int32 → xHp → Prop} (hK : K (ymax x y) hp) : xMi l d b lo gz m_Math_max [.int x, .int y] hp K := by
  refine xMC_VF ok_Math_max (by decide +kernel) (L0 := [.int x, .int y]) rfl rfl ?_
  simp only [s_Math_max_0, s_Math_max_1, s_Math_max_2, s_Math_max_5, s_Math_max_6, s_Math_max_9, s_Math_max_10, xF, xPf, xO, xAi, xAl, xAq, xLn, xup_1, xup_2, xpI_s, xpL_s, xpV_s, xpQ_n, xpQ_r, yl_0, yl_1, yl_2, yl_3, yl_4, yl_5, yl_6, xcs_nil, xcs_i, xcs_a, xcs_l, xcs_n, xNl_z, xNl_s, xNl_i, xNl_a, xNl_n, xNl_d, cat_i, cat_a, cat_n, List.getElem?_cons_zero, List.getElem?_cons_succ, List.set_cons_zero, List.set_cons_succ, List.length_cons, List.length_nil, true_and, and_true, eq_self, ite_true, ite_false, if_true, if_false, or_true, true_or, or_false, false_or, Nat.reduceAdd, Nat.reduceLT, Nat.reduceLeDiff, Nat.reduceEqDiff, Nat.reduceSub, ↓reduceIte, reduceCtorEq, not_false_eq_true, not_true_eq_false, false_implies, true_implies, forall_const, imp_self, implies_true, Nat.add_left_cancel_iff, Nat.left_eq_add, Nat.add_eq_left, Nat.zero_lt_succ, Nat.lt_add_left_iff_pos, one_ne_zero_n, zero_ne_one_n, zero_ne_one_i, one_ne_zero_i]
  unfold ymax at hK
  grind
theorem c_Math_min {l : Launch} {d b lo gz : Nat} {hp : xHp} {x y : Int32} {K : Int32 → xHp → Prop} (hK : K (ymin x y) hp) : xMi l d b lo gz m_Math_min [.int x, .int y] hp K := by
  refine xMC_VF ok_Math_min (by decide +kernel) (L0 := [.int x, .int y]) rfl rfl ?_
  simp only [s_Math_min_0, s_Math_min_1, s_Math_min_2, s_Math_min_5, s_Math_min_6, s_Math_min_9, s_Math_min_10, xF, xPf, xO, xAi, xAl, xAq, xLn, xup_1, xup_2, xpI_s, xpL_s, xpV_s, xpQ_n, xpQ_r, yl_0, yl_1, yl_2, yl_3, yl_4, yl_5, yl_6, xcs_nil, xcs_i, xcs_a, xcs_l, xcs_n, xNl_z, xNl_s, xNl_i, xNl_a, xNl_n, xNl_d, cat_i, cat_a, cat_n, List.getElem?_cons_zero, List.getElem?_cons_succ, List.set_cons_zero, List.set_cons_succ, List.length_cons, List.length_nil, true_and, and_true, eq_self, ite_true, ite_false, if_true, if_false, or_true, true_or, or_false, false_or, Nat.reduceAdd, Nat.reduceLT, Nat.reduceLeDiff, Nat.reduceEqDiff, Nat.reduceSub, ↓reduceIte, reduceCtorEq, not_false_eq_true, not_true_eq_false, false_implies, true_implies, forall_const, imp_self, implies_true, Nat.add_left_cancel_iff, Nat.left_eq_add, Nat.add_eq_left, Nat.zero_lt_succ, Nat.lt_add_left_iff_pos, one_ne_zero_n, zero_ne_one_n, zero_ne_one_i, one_ne_zero_i]
  unfold ymin at hK
  grind
theorem c_Math_abs {l : Launch} {d b lo gz : Nat} {hp : xHp} {x : Int32} {K : Int32 → xHp → Prop} (hK : K (yabs x) hp) : xMi l d b lo gz m_Math_abs [.int x] hp K := by
  refine xMC_VF ok_Math_abs (by decide +kernel) (L0 := [.int x]) rfl rfl ?_
  simp only [s_Math_abs_0, s_Math_abs_1, s_Math_abs_4, s_Math_abs_5, s_Math_abs_6, s_Math_abs_9, s_Math_abs_10, xF, xPf, xO, xAi, xAl, xAq, xLn, xup_1, xup_2, xpI_s, xpL_s, xpV_s, xpQ_n, xpQ_r, yl_0, yl_1, yl_2, yl_3, yl_4, yl_5, yl_6, xcs_nil, xcs_i, xcs_a, xcs_l, xcs_n, xNl_z, xNl_s, xNl_i, xNl_a, xNl_n, xNl_d, cat_i, cat_a, cat_n, List.getElem?_cons_zero, List.getElem?_cons_succ, List.set_cons_zero, List.set_cons_succ, List.length_cons, List.length_nil, true_and, and_true, eq_self, ite_true, ite_false, if_true, if_false, or_true, true_or, or_false, false_or, Nat.reduceAdd, Nat.reduceLT, Nat.reduceLeDiff, Nat.reduceEqDiff, Nat.reduceSub, ↓reduceIte, reduceCtorEq, not_false_eq_true, not_true_eq_false, false_implies, true_implies, forall_const, imp_self, implies_true, Nat.add_left_cancel_iff, Nat.left_eq_add, Nat.add_eq_left, Nat.zero_lt_succ, Nat.lt_add_left_iff_pos, one_ne_zero_n, zero_ne_one_n, zero_ne_one_i, one_ne_zero_i]
  unfold yabs at hK
  grind
theorem yloop {P : Nat → Prop} (n : Nat) (hn : P n) (hs : ∀ j, j < n → P (j + 1) → P j) : ∀ j, j ≤ n → P j := by
  have key : ∀ k j, j + k = n → P j := by
    intro k
    induction k with
    | zero => intro j h; have e : j = n := by omega
              subst e; exact hn
    | succ k ih => intro j h; exact hs j (by omega) (ih (j + 1) (by omega))
  exact fun j h => key (n - j) j (by omega)
theorem yat_nI {n j : Nat} {g : Nat → Int32} (hj : j < n) (hn : n < 2 ^ 31) : yat n g (nI j) = g j := by
  have h2 : ¬ Int32.ofNat n ≤ nI j := nI_ge hj hn
  unfold yat
  rw [if_neg (nI_pos (by omega)), if_neg h2, nI_clamp (by omega)]
theorem yput_nI {n j : Nat} {g : Nat → Int32} {x : Int32} (hj : j < n) (hn : n < 2 ^ 31) : yput n g (nI j) x = upd g j x := by
  have h2 : ¬ Int32.ofNat n ≤ nI j := nI_ge hj hn
  unfold yput
  rw [if_neg (nI_pos (by omega)), if_neg h2, nI_clamp (by omega)]
def asum (A : Nat → Int32) : Nat → Int32
  | 0 => 0
  | k + 1 => asum A k + A k
def isFolk (hp : xHp) (f : Nat) (A P S : Nat → Int32) (n day : Int32) : Prop := hp.1 f = .inr (3, [.ref (f + 1), .ref (f + 2), .ref (f + 3), .int n, .int day]) ∧ hp.1 (f + 1) = .inl (.int, 7, .inl A) ∧ hp.1 (f + 2) = .inl (.int, 7, .inl P) ∧ hp.1 (f + 3) = .inl (.int, 7, .inl S)
