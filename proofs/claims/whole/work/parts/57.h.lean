/-! ===== days to come ===== -/
def dst (s : St) (q : Fk) : Fk := (dgrow s.V s.lg s.sk q.P q.A s.tu q.n q.day, q.P, q.S, q.n, q.day + 1)
def dsu (s : St) (q : Fk) : Int32 := dsum s.V s.lg s.sk q.P q.A s.tu q.n q.day
def dit (s : St) (q : Fk) : Nat → Fk
  | 0 => q
  | k + 1 => dst s (dit s q k)
def dhs (s : St) (q : Fk) : Nat → Int32
  | 0 => 0
  | k + 1 => dhs s q k + dsu s (dit s q k)
def ddk (s : St) (q : Fk) : Nat → Int32
  | 0 => 0
  | k + 1 => ddk s q k + (if dsu s (dit s q k) = 0 then 1 else 0)
def hof (s : St) (q : Fk) (i : Nat) : Int32 := dh s.V s.lg q.P q.A q.n (ysky s.sk s.tu q.day) q.day i
theorem dit_n (s : St) (q : Fk) (k : Nat) : (dit s q k).n = q.n := by
  induction k with
  | zero => rfl
  | succ k ih => exact ih
theorem dit_P (s : St) (q : Fk) (k : Nat) : (dit s q k).P = q.P := by
  induction k with
  | zero => rfl
  | succ k ih => exact ih
theorem dit_S (s : St) (q : Fk) (k : Nat) : (dit s q k).S = q.S := by
  induction k with
  | zero => rfl
  | succ k ih => exact ih
theorem dst_A (s : St) (q : Fk) (i : Nat) (hi : i < q.n) : (dst s q).A i = ymin 9999 (q.A i + hof s q i) := by
  show fgrow q.A _ q.n i = _
  unfold fgrow
  rw [if_pos hi]
  rfl
theorem dsu_hof (s : St) (q : Fk) : dsu s q = asum (hof s q) q.n := rfl
/-- the same below the count -/
def fkE (q r : Fk) : Prop := q.n = r.n ∧ q.day = r.day ∧ (∀ j, j < r.n → q.A j = r.A j) ∧ (∀ j, j < r.n → q.P j = r.P j) ∧ (∀ j, j < r.n → q.S j = r.S j)
theorem fkE_rf (q : Fk) : fkE q q := ⟨rfl, rfl, fun _ _ => rfl, fun _ _ => rfl, fun _ _ => rfl⟩
theorem fkE_sy {q r : Fk} (h : fkE q r) : fkE r q := ⟨h.1.symm, h.2.1.symm, fun j hj => (h.2.2.1 j (by rw [← h.1]; exact hj)).symm, fun j hj => (h.2.2.2.1 j (by rw [← h.1]; exact hj)).symm, fun j hj => (h.2.2.2.2 j (by rw [← h.1]; exact hj)).symm⟩
theorem fkE_tr {q r t : Fk} (h : fkE q r) (h2 : fkE r t) : fkE q t := ⟨h.1.trans h2.1, h.2.1.trans h2.2.1, fun j hj => (h.2.2.1 j (by rw [h2.1]; exact hj)).trans (h2.2.2.1 j hj), fun j hj => (h.2.2.2.1 j (by rw [h2.1]; exact hj)).trans (h2.2.2.2.1 j hj), fun j hj => (h.2.2.2.2 j (by rw [h2.1]; exact hj)).trans (h2.2.2.2.2 j hj)⟩
theorem fkE_c (q r : Fk) : fkE (fkc q r) r := by
  refine ⟨rfl, rfl, fun j hj => ?_, fun j hj => ?_, fun j hj => ?_⟩
  · show fcp q.A r.A r.n j = _
    unfold fcp; rw [if_pos hj]
  · show fcp q.P r.P r.n j = _
    unfold fcp; rw [if_pos hj]
  · show fcp q.S r.S r.n j = _
    unfold fcp; rw [if_pos hj]
theorem asum_cg {A B : Nat → Int32} (n : Nat) (h : ∀ j, j < n → A j = B j) : asum A n = asum B n := by
  induction n with
  | zero => rfl
  | succ n ih =>
    show asum A n + A n = asum B n + B n
    rw [ih (fun j hj => h j (by omega)), h n (by omega)]
theorem fothers_cg {P Q : Nat → Int32} (x one : Int32) (n : Nat) (h : ∀ j, j < n → P j = Q j) : fothers P x one n = fothers Q x one n := by
  induction n with
  | zero => rfl
  | succ n ih =>
    show fothers P x one n + _ = fothers Q x one n + _
    rw [ih (fun j hj => h j (by omega)), h n (by omega)]
theorem y7' : (7 : Nat) < 2 ^ 31 := by decide
/-- the same day, PLACES, and AGES of those in X -/
def mE (X : Nat → Prop) (q r : Fk) : Prop := q.n = r.n ∧ q.day = r.day ∧ (∀ j, X j → q.A j = r.A j) ∧ (∀ j, j < r.n → q.P j = r.P j)
theorem mE_of {X : Nat → Prop} {q r : Fk} (h : fkE q r) (hX : ∀ j, X j → j < r.n) : mE X q r := ⟨h.1, h.2.1, fun j hj => h.2.2.1 j (hX j hj), h.2.2.2.1⟩
theorem hof_m {s : St} {X : Nat → Prop} {q r : Fk} {i : Nat} (h : mE X q r) (hX : X i) (hi : i < r.n) (h7 : r.n ≤ 7) : hof s q i = hof s r i := by
  have y7 := y7'
  unfold hof dh yhrs
  rw [h.1, h.2.1, h.2.2.2 i hi, fothers_cg _ _ _ h.2.2.2, yat_nI (show i < 7 by omega) y7, yat_nI (show i < 7 by omega) y7, h.2.2.1 i hX]
theorem hof_E {s : St} {q r : Fk} {i : Nat} (h : fkE q r) (hi : i < r.n) (h7 : r.n ≤ 7) : hof s q i = hof s r i := hof_m (mE_of h (X := fun j => j < r.n) (fun _ z => z)) hi hi h7
theorem dsu_E {s : St} {q r : Fk} (h : fkE q r) (h7 : r.n ≤ 7) : dsu s q = dsu s r := by
  rw [dsu_hof, dsu_hof, h.1]
  exact asum_cg _ (fun j hj => hof_E h hj h7)
theorem dst_E {s : St} {q r : Fk} (h : fkE q r) (h7 : r.n ≤ 7) : fkE (dst s q) (dst s r) := by
  refine ⟨h.1, ?_, fun j hj => ?_, h.2.2.2.1, h.2.2.2.2⟩
  · show q.day + 1 = r.day + 1
    rw [h.2.1]
  · have hj2 : j < r.n := hj
    rw [dst_A s q j (by rw [h.1]; exact hj2), dst_A s r j hj2, h.2.2.1 j hj2, hof_E h hj2 h7]
theorem dit_E {s : St} {q r : Fk} (h : fkE q r) (h7 : r.n ≤ 7) (k : Nat) : fkE (dit s q k) (dit s r k) := by
  induction k with
  | zero => exact h
  | succ k ih => exact dst_E ih (by rw [dit_n]; exact h7)
theorem yof_hof {s : St} {q : Fk} {i : Nat} (hi : i < 7) : yof s.V s.lg s.sk q.P q.A s.tu q.n q.day (nI i) = hof s q i := by
  have y7 := y7'
  unfold yof hof dh
  rw [yat_nI hi y7]
theorem yhas_of {one : Int32} {n : Nat} (hn : n ≤ 80) (h : ¬ yhas one (nI n) = 0) : ∃ i, i < n ∧ one = nI i := by
  unfold yhas at h
  by_cases z1 : one < 0
  · rw [if_pos z1] at h; exact absurd rfl h
  · rw [if_neg z1] at h
    by_cases z2 : nI n ≤ one
    · rw [if_pos z2] at h; exact absurd rfl h
    · obtain ⟨i, hi, rfl⟩ := nI_of z1
      refine ⟨i, ?_, rfl⟩
      by_cases e : i < n
      · exact e
      · exact absurd (nI_le (by omega) (by omega)) z2
theorem yhas_nI {i n : Nat} (hn : n ≤ 80) (h : i < n) : ¬ yhas (nI i) (nI n) = 0 := by
  unfold yhas
  rw [if_neg (nI_pos (by omega)), if_neg (nI_ge h (by omega))]
  decide
theorem nI_box {x : Int32} {B : Nat} (hB : B < 2 ^ 31) (h0 : ¬ x < 0) (h1 : x ≤ nI B) : ∃ N, N ≤ B ∧ x = nI N := by
  obtain ⟨N, hN, rfl⟩ := nI_of h0
  refine ⟨N, ?_, rfl⟩
  by_cases e : N ≤ B
  · exact e
  · exact absurd h1 (nI_ge (by omega) (by omega))
section SO8
variable {l : Launch} {d b lo gz f : Nat} {hp : xHp} {s : St} {q : Fk} {n one v : Int32}
theorem f_dayBy {K : Int32 → xHp → Prop} (hE : isEnv hp s.V s.lg s.sk s.nl s.tu) (hF : isFk hp f q) (hf : 16 ≤ f)
    (hK : ∀ hq, xAg hp hq [15, 10, f, f + 1] → isEnv hq s.V s.lg s.sk s.nl s.tu → isFk hq f (dst s q) → K (dsu s q) hq) : xMi l (d + 4) b lo gz m_Sun_dayBy [.ref 14, .ref 8, .ref f] hp K :=
  e_dayBy hE hF.1 hF.2 hf fun hq ha hE2 hF2 => hK hq ha hE2 ⟨hF2, hF.2⟩
theorem c_So_then {K : xHp → Prop} (h : isCl hp s) (hK : ∀ hq q, xAg hp hq [20, 21, 22, 23] → isCl hq s → isFk hq 20 q → fkE q s.now → K hq) : xMv l (d + 1) b lo gz m_Folk_copyFrom [.ref 20, .ref 16] hp K := by
  obtain ⟨qb, hb⟩ := h.th
  refine c_Folk_copyFrom (by omega) hb.1 h.nw.1 rfl h.nw.2 fun hq ha hf => ?_
  have hf2 : isFk hq 20 (fkc qb s.now) := ⟨hf, h.nw.2⟩
  exact hK hq _ ha (isCl_mk (so_ag ha (by simp) h.so) (tx_ag ha (by simp) h.tx) (rw_ag ha (by simp) h.rw) (isEnv_ag ha (by simp) h.ev) (pr_ag ha (by simp) h.pr) (isFk_ag ha (by simp) h.nw) (⟨_, hf2⟩) (fk_ag ha (by simp) h.be) (pa_ag ha (by simp) h.pa) (rg_ag ha (by simp) h.rg) (sh_ag ha (by simp) h.sh) (cl_ag ha (by simp) h.se) (cl_ag ha (by simp) h.ru) (wk_ag ha (by simp) h.wk) (rm_ag ha (by simp) h.rm) (ch_ag ha (by simp) h.ch) (ta_ag ha (by simp) h.ta)) hf2 (fkE_c _ _)
theorem c_So_lookAhead {N : Nat} {K : xHp → Prop} (h : isCl hp s) (hN : N ≤ 99)
    (hK : ∀ hq q, xAg hp hq [20, 21, 22, 23, 15, 10] → isCl hq s → isFk hq 20 q → fkE q (dit s s.now N) → K hq) : xMv l (d + 5) b lo gz m_So_lookAhead [.ref 0, .int (nI N)] hp K := by
  obtain ⟨lot, o0⟩ := h.so
  have o1 : hp.1 0 = _ := o0
  obtain ⟨qb, hb⟩ := h.th
  have b0 := hb.1.1
  have h7 := h.nw.2
  refine xMC_V ok_So_lookAhead (by decide) (L0 := [.ref 0, .int (nI N), .retAddr 0]) rfl rfl ?_
  try simp only [s_So_lookAhead_0, s_So_lookAhead_1, s_So_lookAhead_4, s_So_lookAhead_5, s_So_lookAhead_8, s_So_lookAhead_11, s_So_lookAhead_12, s_So_lookAhead_14, s_So_lookAhead_15, s_So_lookAhead_18, s_So_lookAhead_19, s_So_lookAhead_22, s_So_lookAhead_23, s_So_lookAhead_26, s_So_lookAhead_27, s_So_lookAhead_30, s_So_lookAhead_33, s_So_lookAhead_34, s_So_lookAhead_37, s_So_lookAhead_40, xg_0, xg_s, xF_up, xPf_up, xO_up, xAi_up, xAl_up, xLn_up, xup_xup, ty_i, ty_b, ty_z, ty_l, ty_q, tb_b, tb_z, xup_2, xpI_s, xpL_s, xpV_s, xpQ_n, xpQ_r, yl_0, yl_1, yl_2, yl_3, yl_4, yl_5, yl_6, xcs_nil, xcs_i, xcs_a, xcs_l, xcs_n, xNl_z, xNl_s, xNl_i, xNl_a, xNl_n, xNl_d, cat_i, cat_a, cat_n, List.getElem?_cons_zero, List.getElem?_cons_succ, List.set_cons_zero, List.set_cons_succ, List.length_cons, List.length_nil, true_and, and_true, eq_self, ite_true, ite_false, if_true, if_false, or_true, true_or, or_false, false_or, Nat.reduceAdd, Nat.reduceLT, Nat.reduceLeDiff, Nat.reduceEqDiff, Nat.reduceSub, ↓reduceIte, reduceCtorEq, not_false_eq_true, not_true_eq_false, false_implies, true_implies, forall_const, imp_self, implies_true, Nat.add_left_cancel_iff, Nat.left_eq_add, Nat.add_eq_left, Nat.zero_lt_succ, Nat.lt_add_left_iff_pos, one_ne_zero_n, zero_ne_one_n, zero_ne_one_i, one_ne_zero_i, xF_r o1, xPf_r o1, xO_r o1, xF_r b0, xPf_r b0, xO_r b0]
  refine c_So_then h fun hq q ha hc hf he => ?_
  have loop : ∀ j, j ≤ N → ∀ hq q, xAg hp hq [20, 21, 22, 23, 15, 10] → isEnv hq s.V s.lg s.sk s.nl s.tu → isFk hq 20 q → fkE q (dit s s.now j) → xV k_So_lookAhead (l, d + 5, b, lo, gz, hp.2.1, hp.2.2, m_So_lookAhead, xpV K) 13 [.ref 0, .int (nI N), .int (nI j)] [] hq := by
    refine yloop N ?_ fun j hj ih => ?_
    · intro hq q ha hE hf he
      rw [s_So_lookAhead_13]
      try simp only [s_So_lookAhead_0, s_So_lookAhead_1, s_So_lookAhead_4, s_So_lookAhead_5, s_So_lookAhead_8, s_So_lookAhead_11, s_So_lookAhead_12, s_So_lookAhead_14, s_So_lookAhead_15, s_So_lookAhead_18, s_So_lookAhead_19, s_So_lookAhead_22, s_So_lookAhead_23, s_So_lookAhead_26, s_So_lookAhead_27, s_So_lookAhead_30, s_So_lookAhead_33, s_So_lookAhead_34, s_So_lookAhead_37, s_So_lookAhead_40, xg_0, xg_s, xF_up, xPf_up, xO_up, xAi_up, xAl_up, xLn_up, xup_xup, ty_i, ty_b, ty_z, ty_l, ty_q, tb_b, tb_z, xup_2, xpI_s, xpL_s, xpV_s, xpQ_n, xpQ_r, yl_0, yl_1, yl_2, yl_3, yl_4, yl_5, yl_6, xcs_nil, xcs_i, xcs_a, xcs_l, xcs_n, xNl_z, xNl_s, xNl_i, xNl_a, xNl_n, xNl_d, cat_i, cat_a, cat_n, List.getElem?_cons_zero, List.getElem?_cons_succ, List.set_cons_zero, List.set_cons_succ, List.length_cons, List.length_nil, true_and, and_true, eq_self, ite_true, ite_false, if_true, if_false, or_true, true_or, or_false, false_or, Nat.reduceAdd, Nat.reduceLT, Nat.reduceLeDiff, Nat.reduceEqDiff, Nat.reduceSub, ↓reduceIte, reduceCtorEq, not_false_eq_true, not_true_eq_false, false_implies, true_implies, forall_const, imp_self, implies_true, Nat.add_left_cancel_iff, Nat.left_eq_add, Nat.add_eq_left, Nat.zero_lt_succ, Nat.lt_add_left_iff_pos, one_ne_zero_n, zero_ne_one_n, zero_ne_one_i, one_ne_zero_i]
      exact ⟨fun _ => hK hq q ha (isCl_mk (so_ag ha (by simp) h.so) (tx_ag ha (by simp) h.tx) (rw_ag ha (by simp) h.rw) (hE) (pr_ag ha (by simp) h.pr) (isFk_ag ha (by simp) h.nw) (⟨_, hf⟩) (fk_ag ha (by simp) h.be) (pa_ag ha (by simp) h.pa) (rg_ag ha (by simp) h.rg) (sh_ag ha (by simp) h.sh) (cl_ag ha (by simp) h.se) (cl_ag ha (by simp) h.ru) (wk_ag ha (by simp) h.wk) (rm_ag ha (by simp) h.rm) (ch_ag ha (by simp) h.ch) (ta_ag ha (by simp) h.ta)) hf he, fun z => absurd (nI_le (Nat.le_refl N) (by omega)) z⟩
    · intro hq q ha hE hf he
      have q1 : hq.1 0 = _ := xAg_at ha (by simp) o1
      have s0 := hE.1.1
      rw [s_So_lookAhead_13]
      try simp only [s_So_lookAhead_0, s_So_lookAhead_1, s_So_lookAhead_4, s_So_lookAhead_5, s_So_lookAhead_8, s_So_lookAhead_11, s_So_lookAhead_12, s_So_lookAhead_14, s_So_lookAhead_15, s_So_lookAhead_18, s_So_lookAhead_19, s_So_lookAhead_22, s_So_lookAhead_23, s_So_lookAhead_26, s_So_lookAhead_27, s_So_lookAhead_30, s_So_lookAhead_33, s_So_lookAhead_34, s_So_lookAhead_37, s_So_lookAhead_40, xg_0, xg_s, xF_up, xPf_up, xO_up, xAi_up, xAl_up, xLn_up, xup_xup, ty_i, ty_b, ty_z, ty_l, ty_q, tb_b, tb_z, xup_2, xpI_s, xpL_s, xpV_s, xpQ_n, xpQ_r, yl_0, yl_1, yl_2, yl_3, yl_4, yl_5, yl_6, xcs_nil, xcs_i, xcs_a, xcs_l, xcs_n, xNl_z, xNl_s, xNl_i, xNl_a, xNl_n, xNl_d, cat_i, cat_a, cat_n, List.getElem?_cons_zero, List.getElem?_cons_succ, List.set_cons_zero, List.set_cons_succ, List.length_cons, List.length_nil, true_and, and_true, eq_self, ite_true, ite_false, if_true, if_false, or_true, true_or, or_false, false_or, Nat.reduceAdd, Nat.reduceLT, Nat.reduceLeDiff, Nat.reduceEqDiff, Nat.reduceSub, ↓reduceIte, reduceCtorEq, not_false_eq_true, not_true_eq_false, false_implies, true_implies, forall_const, imp_self, implies_true, Nat.add_left_cancel_iff, Nat.left_eq_add, Nat.add_eq_left, Nat.zero_lt_succ, Nat.lt_add_left_iff_pos, one_ne_zero_n, zero_ne_one_n, zero_ne_one_i, one_ne_zero_i, xF_r q1, xPf_r q1, xO_r q1, xF_r s0, xPf_r s0, xO_r s0]
      refine ⟨fun z => absurd z (nI_ge hj (by omega)), fun _ => ?_⟩
      refine f_dayBy hE hf (by decide) fun hr ha2 hE2 hf2 => ?_
      try simp only [s_So_lookAhead_0, s_So_lookAhead_1, s_So_lookAhead_4, s_So_lookAhead_5, s_So_lookAhead_8, s_So_lookAhead_11, s_So_lookAhead_12, s_So_lookAhead_14, s_So_lookAhead_15, s_So_lookAhead_18, s_So_lookAhead_19, s_So_lookAhead_22, s_So_lookAhead_23, s_So_lookAhead_26, s_So_lookAhead_27, s_So_lookAhead_30, s_So_lookAhead_33, s_So_lookAhead_34, s_So_lookAhead_37, s_So_lookAhead_40, xg_0, xg_s, xF_up, xPf_up, xO_up, xAi_up, xAl_up, xLn_up, xup_xup, ty_i, ty_b, ty_z, ty_l, ty_q, tb_b, tb_z, xup_2, xpI_s, xpL_s, xpV_s, xpQ_n, xpQ_r, yl_0, yl_1, yl_2, yl_3, yl_4, yl_5, yl_6, xcs_nil, xcs_i, xcs_a, xcs_l, xcs_n, xNl_z, xNl_s, xNl_i, xNl_a, xNl_n, xNl_d, cat_i, cat_a, cat_n, List.getElem?_cons_zero, List.getElem?_cons_succ, List.set_cons_zero, List.set_cons_succ, List.length_cons, List.length_nil, true_and, and_true, eq_self, ite_true, ite_false, if_true, if_false, or_true, true_or, or_false, false_or, Nat.reduceAdd, Nat.reduceLT, Nat.reduceLeDiff, Nat.reduceEqDiff, Nat.reduceSub, ↓reduceIte, reduceCtorEq, not_false_eq_true, not_true_eq_false, false_implies, true_implies, forall_const, imp_self, implies_true, Nat.add_left_cancel_iff, Nat.left_eq_add, Nat.add_eq_left, Nat.zero_lt_succ, Nat.lt_add_left_iff_pos, one_ne_zero_n, zero_ne_one_n, zero_ne_one_i, one_ne_zero_i, nI_1]
      exact ih hr _ (xAg_tr ha ha2 (by simp)) hE2 hf2 (dst_E he (by rw [dit_n]; exact h7))
  try simp only [s_So_lookAhead_0, s_So_lookAhead_1, s_So_lookAhead_4, s_So_lookAhead_5, s_So_lookAhead_8, s_So_lookAhead_11, s_So_lookAhead_12, s_So_lookAhead_14, s_So_lookAhead_15, s_So_lookAhead_18, s_So_lookAhead_19, s_So_lookAhead_22, s_So_lookAhead_23, s_So_lookAhead_26, s_So_lookAhead_27, s_So_lookAhead_30, s_So_lookAhead_33, s_So_lookAhead_34, s_So_lookAhead_37, s_So_lookAhead_40, xg_0, xg_s, xF_up, xPf_up, xO_up, xAi_up, xAl_up, xLn_up, xup_xup, ty_i, ty_b, ty_z, ty_l, ty_q, tb_b, tb_z, xup_2, xpI_s, xpL_s, xpV_s, xpQ_n, xpQ_r, yl_0, yl_1, yl_2, yl_3, yl_4, yl_5, yl_6, xcs_nil, xcs_i, xcs_a, xcs_l, xcs_n, xNl_z, xNl_s, xNl_i, xNl_a, xNl_n, xNl_d, cat_i, cat_a, cat_n, List.getElem?_cons_zero, List.getElem?_cons_succ, List.set_cons_zero, List.set_cons_succ, List.length_cons, List.length_nil, true_and, and_true, eq_self, ite_true, ite_false, if_true, if_false, or_true, true_or, or_false, false_or, Nat.reduceAdd, Nat.reduceLT, Nat.reduceLeDiff, Nat.reduceEqDiff, Nat.reduceSub, ↓reduceIte, reduceCtorEq, not_false_eq_true, not_true_eq_false, false_implies, true_implies, forall_const, imp_self, implies_true, Nat.add_left_cancel_iff, Nat.left_eq_add, Nat.add_eq_left, Nat.zero_lt_succ, Nat.lt_add_left_iff_pos, one_ne_zero_n, zero_ne_one_n, zero_ne_one_i, one_ne_zero_i]
  exact loop 0 (Nat.zero_le _) hq q (xAg_tr (xAg_rf _ _) ha (by simp)) hc.ev hf he
theorem c_So_age {N : Nat} {K : Int32 → xHp → Prop} (h : isCl hp s) (hN : N ≤ 99)
    (hK : ∀ hq, xAg hp hq [16, 17, 15, 10] → isCl hq (s.wNow (dit s s.now N)) → K (asum (dit s s.now N).A s.now.n) hq) : xMi l (d + 5) b lo gz m_So_age [.ref 0, .int (nI N)] hp K := by
  obtain ⟨lot, o0⟩ := h.so
  have o1 : hp.1 0 = _ := o0
  have h7 := h.nw.2
  refine xMC_V ok_So_age (by decide) (L0 := [.ref 0, .int (nI N), .retAddr 0]) rfl rfl ?_
  have loop : ∀ j, j ≤ N → ∀ hq, xAg hp hq [16, 17, 15, 10] → isEnv hq s.V s.lg s.sk s.nl s.tu → isFk hq 16 (dit s s.now j) → xV k_So_age (l, d + 5, b, lo, gz, hp.2.1, hp.2.2, m_So_age, xpI K) 2 [.ref 0, .int (nI N), .int (nI j)] [] hq := by
    refine yloop N ?_ fun j hj ih => ?_
    · intro hq ha hE hf
      have q1 : hq.1 0 = _ := xAg_at ha (by simp) o1
      have f0 := hf.1.1
      have k1 := hK hq ha (isCl_mk (so_ag ha (by simp) h.so) (tx_ag ha (by simp) h.tx) (rw_ag ha (by simp) h.rw) (hE) (pr_ag ha (by simp) h.pr) (hf) (fk_ag ha (by simp) h.th) (fk_ag ha (by simp) h.be) (pa_ag ha (by simp) h.pa) (rg_ag ha (by simp) h.rg) (sh_ag ha (by simp) h.sh) (cl_ag ha (by simp) h.se) (cl_ag ha (by simp) h.ru) (wk_ag ha (by simp) h.wk) (rm_ag ha (by simp) h.rm) (ch_ag ha (by simp) h.ch) (ta_ag ha (by simp) h.ta))
      rw [s_So_age_2]
      try simp only [s_So_age_0, s_So_age_1, s_So_age_3, s_So_age_4, s_So_age_7, s_So_age_8, s_So_age_11, s_So_age_12, s_So_age_15, s_So_age_16, s_So_age_19, s_So_age_22, s_So_age_23, s_So_age_26, s_So_age_29, s_So_age_30, s_So_age_33, s_So_age_36, xg_0, xg_s, xF_up, xPf_up, xO_up, xAi_up, xAl_up, xLn_up, xup_xup, ty_i, ty_b, ty_z, ty_l, ty_q, tb_b, tb_z, xup_2, xpI_s, xpL_s, xpV_s, xpQ_n, xpQ_r, yl_0, yl_1, yl_2, yl_3, yl_4, yl_5, yl_6, xcs_nil, xcs_i, xcs_a, xcs_l, xcs_n, xNl_z, xNl_s, xNl_i, xNl_a, xNl_n, xNl_d, cat_i, cat_a, cat_n, List.getElem?_cons_zero, List.getElem?_cons_succ, List.set_cons_zero, List.set_cons_succ, List.length_cons, List.length_nil, true_and, and_true, eq_self, ite_true, ite_false, if_true, if_false, or_true, true_or, or_false, false_or, Nat.reduceAdd, Nat.reduceLT, Nat.reduceLeDiff, Nat.reduceEqDiff, Nat.reduceSub, ↓reduceIte, reduceCtorEq, not_false_eq_true, not_true_eq_false, false_implies, true_implies, forall_const, imp_self, implies_true, Nat.add_left_cancel_iff, Nat.left_eq_add, Nat.add_eq_left, Nat.zero_lt_succ, Nat.lt_add_left_iff_pos, one_ne_zero_n, zero_ne_one_n, zero_ne_one_i, one_ne_zero_i, xF_r q1, xPf_r q1, xO_r q1, xF_r f0, xPf_r f0, xO_r f0]
      refine ⟨fun _ => ?_, fun z => absurd (nI_le (Nat.le_refl N) (by omega)) z⟩
      refine c_Folk_ages hf.1 rfl hf.2 ?_
      try simp only [s_So_age_0, s_So_age_1, s_So_age_3, s_So_age_4, s_So_age_7, s_So_age_8, s_So_age_11, s_So_age_12, s_So_age_15, s_So_age_16, s_So_age_19, s_So_age_22, s_So_age_23, s_So_age_26, s_So_age_29, s_So_age_30, s_So_age_33, s_So_age_36, xg_0, xg_s, xF_up, xPf_up, xO_up, xAi_up, xAl_up, xLn_up, xup_xup, ty_i, ty_b, ty_z, ty_l, ty_q, tb_b, tb_z, xup_2, xpI_s, xpL_s, xpV_s, xpQ_n, xpQ_r, yl_0, yl_1, yl_2, yl_3, yl_4, yl_5, yl_6, xcs_nil, xcs_i, xcs_a, xcs_l, xcs_n, xNl_z, xNl_s, xNl_i, xNl_a, xNl_n, xNl_d, cat_i, cat_a, cat_n, List.getElem?_cons_zero, List.getElem?_cons_succ, List.set_cons_zero, List.set_cons_succ, List.length_cons, List.length_nil, true_and, and_true, eq_self, ite_true, ite_false, if_true, if_false, or_true, true_or, or_false, false_or, Nat.reduceAdd, Nat.reduceLT, Nat.reduceLeDiff, Nat.reduceEqDiff, Nat.reduceSub, ↓reduceIte, reduceCtorEq, not_false_eq_true, not_true_eq_false, false_implies, true_implies, forall_const, imp_self, implies_true, Nat.add_left_cancel_iff, Nat.left_eq_add, Nat.add_eq_left, Nat.zero_lt_succ, Nat.lt_add_left_iff_pos, one_ne_zero_n, zero_ne_one_n, zero_ne_one_i, one_ne_zero_i]
      rw [dit_n]
      exact k1
    · intro hq ha hE hf
      have q1 : hq.1 0 = _ := xAg_at ha (by simp) o1
      have s0 := hE.1.1
      rw [s_So_age_2]
      try simp only [s_So_age_0, s_So_age_1, s_So_age_3, s_So_age_4, s_So_age_7, s_So_age_8, s_So_age_11, s_So_age_12, s_So_age_15, s_So_age_16, s_So_age_19, s_So_age_22, s_So_age_23, s_So_age_26, s_So_age_29, s_So_age_30, s_So_age_33, s_So_age_36, xg_0, xg_s, xF_up, xPf_up, xO_up, xAi_up, xAl_up, xLn_up, xup_xup, ty_i, ty_b, ty_z, ty_l, ty_q, tb_b, tb_z, xup_2, xpI_s, xpL_s, xpV_s, xpQ_n, xpQ_r, yl_0, yl_1, yl_2, yl_3, yl_4, yl_5, yl_6, xcs_nil, xcs_i, xcs_a, xcs_l, xcs_n, xNl_z, xNl_s, xNl_i, xNl_a, xNl_n, xNl_d, cat_i, cat_a, cat_n, List.getElem?_cons_zero, List.getElem?_cons_succ, List.set_cons_zero, List.set_cons_succ, List.length_cons, List.length_nil, true_and, and_true, eq_self, ite_true, ite_false, if_true, if_false, or_true, true_or, or_false, false_or, Nat.reduceAdd, Nat.reduceLT, Nat.reduceLeDiff, Nat.reduceEqDiff, Nat.reduceSub, ↓reduceIte, reduceCtorEq, not_false_eq_true, not_true_eq_false, false_implies, true_implies, forall_const, imp_self, implies_true, Nat.add_left_cancel_iff, Nat.left_eq_add, Nat.add_eq_left, Nat.zero_lt_succ, Nat.lt_add_left_iff_pos, one_ne_zero_n, zero_ne_one_n, zero_ne_one_i, one_ne_zero_i, xF_r q1, xPf_r q1, xO_r q1, xF_r s0, xPf_r s0, xO_r s0]
      refine ⟨fun z => absurd z (nI_ge hj (by omega)), fun _ => ?_⟩
      refine f_dayBy hE hf (by decide) fun hr ha2 hE2 hf2 => ?_
      try simp only [s_So_age_0, s_So_age_1, s_So_age_3, s_So_age_4, s_So_age_7, s_So_age_8, s_So_age_11, s_So_age_12, s_So_age_15, s_So_age_16, s_So_age_19, s_So_age_22, s_So_age_23, s_So_age_26, s_So_age_29, s_So_age_30, s_So_age_33, s_So_age_36, xg_0, xg_s, xF_up, xPf_up, xO_up, xAi_up, xAl_up, xLn_up, xup_xup, ty_i, ty_b, ty_z, ty_l, ty_q, tb_b, tb_z, xup_2, xpI_s, xpL_s, xpV_s, xpQ_n, xpQ_r, yl_0, yl_1, yl_2, yl_3, yl_4, yl_5, yl_6, xcs_nil, xcs_i, xcs_a, xcs_l, xcs_n, xNl_z, xNl_s, xNl_i, xNl_a, xNl_n, xNl_d, cat_i, cat_a, cat_n, List.getElem?_cons_zero, List.getElem?_cons_succ, List.set_cons_zero, List.set_cons_succ, List.length_cons, List.length_nil, true_and, and_true, eq_self, ite_true, ite_false, if_true, if_false, or_true, true_or, or_false, false_or, Nat.reduceAdd, Nat.reduceLT, Nat.reduceLeDiff, Nat.reduceEqDiff, Nat.reduceSub, ↓reduceIte, reduceCtorEq, not_false_eq_true, not_true_eq_false, false_implies, true_implies, forall_const, imp_self, implies_true, Nat.add_left_cancel_iff, Nat.left_eq_add, Nat.add_eq_left, Nat.zero_lt_succ, Nat.lt_add_left_iff_pos, one_ne_zero_n, zero_ne_one_n, zero_ne_one_i, one_ne_zero_i, nI_1]
      exact ih hr (xAg_tr ha ha2 (by simp)) hE2 hf2
  try simp only [s_So_age_0, s_So_age_1, s_So_age_3, s_So_age_4, s_So_age_7, s_So_age_8, s_So_age_11, s_So_age_12, s_So_age_15, s_So_age_16, s_So_age_19, s_So_age_22, s_So_age_23, s_So_age_26, s_So_age_29, s_So_age_30, s_So_age_33, s_So_age_36, xg_0, xg_s, xF_up, xPf_up, xO_up, xAi_up, xAl_up, xLn_up, xup_xup, ty_i, ty_b, ty_z, ty_l, ty_q, tb_b, tb_z, xup_2, xpI_s, xpL_s, xpV_s, xpQ_n, xpQ_r, yl_0, yl_1, yl_2, yl_3, yl_4, yl_5, yl_6, xcs_nil, xcs_i, xcs_a, xcs_l, xcs_n, xNl_z, xNl_s, xNl_i, xNl_a, xNl_n, xNl_d, cat_i, cat_a, cat_n, List.getElem?_cons_zero, List.getElem?_cons_succ, List.set_cons_zero, List.set_cons_succ, List.length_cons, List.length_nil, true_and, and_true, eq_self, ite_true, ite_false, if_true, if_false, or_true, true_or, or_false, false_or, Nat.reduceAdd, Nat.reduceLT, Nat.reduceLeDiff, Nat.reduceEqDiff, Nat.reduceSub, ↓reduceIte, reduceCtorEq, not_false_eq_true, not_true_eq_false, false_implies, true_implies, forall_const, imp_self, implies_true, Nat.add_left_cancel_iff, Nat.left_eq_add, Nat.add_eq_left, Nat.zero_lt_succ, Nat.lt_add_left_iff_pos, one_ne_zero_n, zero_ne_one_n, zero_ne_one_i, one_ne_zero_i]
  exact loop 0 (Nat.zero_le _) hp (xAg_rf _ _) h.ev h.nw
theorem c_So_days {K : Int32 → xHp → Prop} (h : isCl hp s) (hK0 : n < 0 ∨ 60 < n → K (-1) hp)
    (hK : ∀ N, N ≤ 60 → n = nI N → ∀ hq qb, xAg hp hq (List.range 103) → isCl hq ((if N = 0 then s.wNow (dit s s.now N) else (s.wNow (dit s s.now N)).push (fkc qb s.now)).wRow (vp_updL (vp_updL s.R 0 (dhs s s.now N).toInt64) 1 (ddk s s.now N).toInt64) 2) → K (asum (dit s s.now N).A s.now.n) hq) : xMi l (d + 5) b lo gz m_So_days [.ref 0, .int n] hp K := by
  obtain ⟨lot, o0⟩ := h.so
  have o1 : hp.1 0 = _ := o0
  obtain ⟨qb, hb⟩ := h.be
  have b0 := hb.1.1
  have h7 := h.nw.2
  refine xMC_V ok_So_days (by decide) (L0 := [.ref 0, .int n, .retAddr 0, .retAddr 0, .retAddr 0, .retAddr 0]) rfl rfl ?_
  by_cases z1 : n < 0
  · try simp only [s_So_days_0, s_So_days_1, s_So_days_4, s_So_days_5, s_So_days_7, s_So_days_10, s_So_days_11, s_So_days_12, s_So_days_13, s_So_days_16, s_So_days_17, s_So_days_20, s_So_days_23, s_So_days_24, s_So_days_25, s_So_days_26, s_So_days_27, s_So_days_28, s_So_days_32, s_So_days_33, s_So_days_36, s_So_days_37, s_So_days_40, s_So_days_41, s_So_days_44, s_So_days_45, s_So_days_48, s_So_days_51, s_So_days_53, s_So_days_54, s_So_days_56, s_So_days_57, s_So_days_58, s_So_days_59, s_So_days_61, s_So_days_64, s_So_days_65, s_So_days_68, s_So_days_69, s_So_days_70, s_So_days_71, s_So_days_74, s_So_days_77, s_So_days_78, s_So_days_81, s_So_days_82, s_So_days_85, s_So_days_86, s_So_days_89, s_So_days_92, s_So_days_93, s_So_days_96, s_So_days_97, s_So_days_98, s_So_days_99, s_So_days_100, s_So_days_103, s_So_days_104, s_So_days_107, s_So_days_110, xg_0, xg_s, xF_up, xPf_up, xO_up, xAi_up, xAl_up, xLn_up, xup_xup, ty_i, ty_b, ty_z, ty_l, ty_q, tb_b, tb_z, xup_2, xpI_s, xpL_s, xpV_s, xpQ_n, xpQ_r, yl_0, yl_1, yl_2, yl_3, yl_4, yl_5, yl_6, xcs_nil, xcs_i, xcs_a, xcs_l, xcs_n, xNl_z, xNl_s, xNl_i, xNl_a, xNl_n, xNl_d, cat_i, cat_a, cat_n, List.getElem?_cons_zero, List.getElem?_cons_succ, List.set_cons_zero, List.set_cons_succ, List.length_cons, List.length_nil, true_and, and_true, eq_self, ite_true, ite_false, if_true, if_false, or_true, true_or, or_false, false_or, Nat.reduceAdd, Nat.reduceLT, Nat.reduceLeDiff, Nat.reduceEqDiff, Nat.reduceSub, ↓reduceIte, reduceCtorEq, not_false_eq_true, not_true_eq_false, false_implies, true_implies, forall_const, imp_self, implies_true, Nat.add_left_cancel_iff, Nat.left_eq_add, Nat.add_eq_left, Nat.zero_lt_succ, Nat.lt_add_left_iff_pos, one_ne_zero_n, zero_ne_one_n, zero_ne_one_i, one_ne_zero_i, z1]
    exact hK0 (Or.inl z1)
  by_cases z2 : n ≤ 60
  case neg =>
    try simp only [s_So_days_0, s_So_days_1, s_So_days_4, s_So_days_5, s_So_days_7, s_So_days_10, s_So_days_11, s_So_days_12, s_So_days_13, s_So_days_16, s_So_days_17, s_So_days_20, s_So_days_23, s_So_days_24, s_So_days_25, s_So_days_26, s_So_days_27, s_So_days_28, s_So_days_32, s_So_days_33, s_So_days_36, s_So_days_37, s_So_days_40, s_So_days_41, s_So_days_44, s_So_days_45, s_So_days_48, s_So_days_51, s_So_days_53, s_So_days_54, s_So_days_56, s_So_days_57, s_So_days_58, s_So_days_59, s_So_days_61, s_So_days_64, s_So_days_65, s_So_days_68, s_So_days_69, s_So_days_70, s_So_days_71, s_So_days_74, s_So_days_77, s_So_days_78, s_So_days_81, s_So_days_82, s_So_days_85, s_So_days_86, s_So_days_89, s_So_days_92, s_So_days_93, s_So_days_96, s_So_days_97, s_So_days_98, s_So_days_99, s_So_days_100, s_So_days_103, s_So_days_104, s_So_days_107, s_So_days_110, xg_0, xg_s, xF_up, xPf_up, xO_up, xAi_up, xAl_up, xLn_up, xup_xup, ty_i, ty_b, ty_z, ty_l, ty_q, tb_b, tb_z, xup_2, xpI_s, xpL_s, xpV_s, xpQ_n, xpQ_r, yl_0, yl_1, yl_2, yl_3, yl_4, yl_5, yl_6, xcs_nil, xcs_i, xcs_a, xcs_l, xcs_n, xNl_z, xNl_s, xNl_i, xNl_a, xNl_n, xNl_d, cat_i, cat_a, cat_n, List.getElem?_cons_zero, List.getElem?_cons_succ, List.set_cons_zero, List.set_cons_succ, List.length_cons, List.length_nil, true_and, and_true, eq_self, ite_true, ite_false, if_true, if_false, or_true, true_or, or_false, false_or, Nat.reduceAdd, Nat.reduceLT, Nat.reduceLeDiff, Nat.reduceEqDiff, Nat.reduceSub, ↓reduceIte, reduceCtorEq, not_false_eq_true, not_true_eq_false, false_implies, true_implies, forall_const, imp_self, implies_true, Nat.add_left_cancel_iff, Nat.left_eq_add, Nat.add_eq_left, Nat.zero_lt_succ, Nat.lt_add_left_iff_pos, one_ne_zero_n, zero_ne_one_n, zero_ne_one_i, one_ne_zero_i, z1, z2]
    exact hK0 (Or.inr (Int32.not_le.mp z2))
  try simp only [s_So_days_0, s_So_days_1, s_So_days_4, s_So_days_5, s_So_days_7, s_So_days_10, s_So_days_11, s_So_days_12, s_So_days_13, s_So_days_16, s_So_days_17, s_So_days_20, s_So_days_23, s_So_days_24, s_So_days_25, s_So_days_26, s_So_days_27, s_So_days_28, s_So_days_32, s_So_days_33, s_So_days_36, s_So_days_37, s_So_days_40, s_So_days_41, s_So_days_44, s_So_days_45, s_So_days_48, s_So_days_51, s_So_days_53, s_So_days_54, s_So_days_56, s_So_days_57, s_So_days_58, s_So_days_59, s_So_days_61, s_So_days_64, s_So_days_65, s_So_days_68, s_So_days_69, s_So_days_70, s_So_days_71, s_So_days_74, s_So_days_77, s_So_days_78, s_So_days_81, s_So_days_82, s_So_days_85, s_So_days_86, s_So_days_89, s_So_days_92, s_So_days_93, s_So_days_96, s_So_days_97, s_So_days_98, s_So_days_99, s_So_days_100, s_So_days_103, s_So_days_104, s_So_days_107, s_So_days_110, xg_0, xg_s, xF_up, xPf_up, xO_up, xAi_up, xAl_up, xLn_up, xup_xup, ty_i, ty_b, ty_z, ty_l, ty_q, tb_b, tb_z, xup_2, xpI_s, xpL_s, xpV_s, xpQ_n, xpQ_r, yl_0, yl_1, yl_2, yl_3, yl_4, yl_5, yl_6, xcs_nil, xcs_i, xcs_a, xcs_l, xcs_n, xNl_z, xNl_s, xNl_i, xNl_a, xNl_n, xNl_d, cat_i, cat_a, cat_n, List.getElem?_cons_zero, List.getElem?_cons_succ, List.set_cons_zero, List.set_cons_succ, List.length_cons, List.length_nil, true_and, and_true, eq_self, ite_true, ite_false, if_true, if_false, or_true, true_or, or_false, false_or, Nat.reduceAdd, Nat.reduceLT, Nat.reduceLeDiff, Nat.reduceEqDiff, Nat.reduceSub, ↓reduceIte, reduceCtorEq, not_false_eq_true, not_true_eq_false, false_implies, true_implies, forall_const, imp_self, implies_true, Nat.add_left_cancel_iff, Nat.left_eq_add, Nat.add_eq_left, Nat.zero_lt_succ, Nat.lt_add_left_iff_pos, one_ne_zero_n, zero_ne_one_n, zero_ne_one_i, one_ne_zero_i, z1, z2, xF_r o1, xPf_r o1, xO_r o1, xF_r b0, xPf_r b0, xO_r b0]
  obtain ⟨N, hN, rfl⟩ := nI_box (B := 60) (by decide) z1 z2
  refine c_So_save h fun hq qb ha hc hb2 => ?_
  have loop : ∀ j, j ≤ N → ∀ a5 hr, xAg hq hr [16, 17, 15, 10] → isCl hr (s.wNow (dit s s.now j)) → isFk hr 24 (fkc qb s.now) → xV k_So_days (l, d + 5, b, lo, gz, hp.2.1, hp.2.2, m_So_days, xpI K) 30 [.ref 0, .int (nI N), .int (dhs s s.now j), .int (ddk s s.now j), .int (nI j), a5] [] hr := by
    refine yloop N ?_ fun j hj ih => ?_
    · intro a5 hr ha2 hc2 hb3
      obtain ⟨lot2, p0⟩ := hc2.so
      have p1 : hr.1 0 = _ := p0
      have pa0 := hc2.pa.1.1
      have r0 := hc2.rw.1.1
      have aa : xAg hp hr (List.range 103) := xAg_tr (xAg_tr (xAg_rf _ _) ha (by simp)) ha2 (by simp)
      have fin : ∀ s2 hs, s2.now = dit s s.now N → xAg hp hs (List.range 103) → isCl hs s2 → (∀ ht, xAg hp ht (List.range 103) → isCl ht (s2.wRow (vp_updL (vp_updL s2.R 0 (dhs s s.now N).toInt64) 1 (ddk s s.now N).toInt64) 2) → K (asum (dit s s.now N).A s.now.n) ht) → xV k_So_days (l, d + 5, b, lo, gz, hp.2.1, hp.2.2, m_So_days, xpI K) 92 [.ref 0, .int (nI N), .int (dhs s s.now N), .int (ddk s s.now N), .int (nI N), a5] [] hs := by
        intro s2 hs e2 ha3 hc3 hk
        obtain ⟨lot3, u0⟩ := hc3.so
        have u1 : hs.1 0 = _ := u0
        have r0 := hc3.rw.1.1
        try simp only [s_So_days_0, s_So_days_1, s_So_days_4, s_So_days_5, s_So_days_7, s_So_days_10, s_So_days_11, s_So_days_12, s_So_days_13, s_So_days_16, s_So_days_17, s_So_days_20, s_So_days_23, s_So_days_24, s_So_days_25, s_So_days_26, s_So_days_27, s_So_days_28, s_So_days_32, s_So_days_33, s_So_days_36, s_So_days_37, s_So_days_40, s_So_days_41, s_So_days_44, s_So_days_45, s_So_days_48, s_So_days_51, s_So_days_53, s_So_days_54, s_So_days_56, s_So_days_57, s_So_days_58, s_So_days_59, s_So_days_61, s_So_days_64, s_So_days_65, s_So_days_68, s_So_days_69, s_So_days_70, s_So_days_71, s_So_days_74, s_So_days_77, s_So_days_78, s_So_days_81, s_So_days_82, s_So_days_85, s_So_days_86, s_So_days_89, s_So_days_92, s_So_days_93, s_So_days_96, s_So_days_97, s_So_days_98, s_So_days_99, s_So_days_100, s_So_days_103, s_So_days_104, s_So_days_107, s_So_days_110, xg_0, xg_s, xF_up, xPf_up, xO_up, xAi_up, xAl_up, xLn_up, xup_xup, ty_i, ty_b, ty_z, ty_l, ty_q, tb_b, tb_z, xup_2, xpI_s, xpL_s, xpV_s, xpQ_n, xpQ_r, yl_0, yl_1, yl_2, yl_3, yl_4, yl_5, yl_6, xcs_nil, xcs_i, xcs_a, xcs_l, xcs_n, xNl_z, xNl_s, xNl_i, xNl_a, xNl_n, xNl_d, cat_i, cat_a, cat_n, List.getElem?_cons_zero, List.getElem?_cons_succ, List.set_cons_zero, List.set_cons_succ, List.length_cons, List.length_nil, true_and, and_true, eq_self, ite_true, ite_false, if_true, if_false, or_true, true_or, or_false, false_or, Nat.reduceAdd, Nat.reduceLT, Nat.reduceLeDiff, Nat.reduceEqDiff, Nat.reduceSub, ↓reduceIte, reduceCtorEq, not_false_eq_true, not_true_eq_false, false_implies, true_implies, forall_const, imp_self, implies_true, Nat.add_left_cancel_iff, Nat.left_eq_add, Nat.add_eq_left, Nat.zero_lt_succ, Nat.lt_add_left_iff_pos, one_ne_zero_n, zero_ne_one_n, zero_ne_one_i, one_ne_zero_i, xF_r u1, xPf_r u1, xO_r u1, xF_r r0, xPf_r r0, xO_r r0]
        refine c_Row_tell2 hc3.rw.1 fun ht ha4 hrw => ?_
        have hc4 : isCl ht (s2.wRow (vp_updL (vp_updL s2.R 0 (dhs s s.now N).toInt64) 1 (ddk s s.now N).toInt64) 2) := isCl_mk (so_ag ha4 (by simp) hc3.so) (tx_ag ha4 (by simp) hc3.tx) (⟨hrw, Nat.le_of_ble_eq_true rfl⟩) (isEnv_ag ha4 (by simp) hc3.ev) (pr_ag ha4 (by simp) hc3.pr) (isFk_ag ha4 (by simp) hc3.nw) (fk_ag ha4 (by simp) hc3.th) (fk_ag ha4 (by simp) hc3.be) (pa_ag ha4 (by simp) hc3.pa) (rg_ag ha4 (by simp) hc3.rg) (sh_ag ha4 (by simp) hc3.sh) (cl_ag ha4 (by simp) hc3.se) (cl_ag ha4 (by simp) hc3.ru) (wk_ag ha4 (by simp) hc3.wk) (rm_ag ha4 (by simp) hc3.rm) (ch_ag ha4 (by simp) hc3.ch) (ta_ag ha4 (by simp) hc3.ta)
        have v1 : ht.1 0 = _ := xAg_at ha4 (by simp) u1
        have f0 := hc4.nw.1.1
        try simp only [s_So_days_0, s_So_days_1, s_So_days_4, s_So_days_5, s_So_days_7, s_So_days_10, s_So_days_11, s_So_days_12, s_So_days_13, s_So_days_16, s_So_days_17, s_So_days_20, s_So_days_23, s_So_days_24, s_So_days_25, s_So_days_26, s_So_days_27, s_So_days_28, s_So_days_32, s_So_days_33, s_So_days_36, s_So_days_37, s_So_days_40, s_So_days_41, s_So_days_44, s_So_days_45, s_So_days_48, s_So_days_51, s_So_days_53, s_So_days_54, s_So_days_56, s_So_days_57, s_So_days_58, s_So_days_59, s_So_days_61, s_So_days_64, s_So_days_65, s_So_days_68, s_So_days_69, s_So_days_70, s_So_days_71, s_So_days_74, s_So_days_77, s_So_days_78, s_So_days_81, s_So_days_82, s_So_days_85, s_So_days_86, s_So_days_89, s_So_days_92, s_So_days_93, s_So_days_96, s_So_days_97, s_So_days_98, s_So_days_99, s_So_days_100, s_So_days_103, s_So_days_104, s_So_days_107, s_So_days_110, xg_0, xg_s, xF_up, xPf_up, xO_up, xAi_up, xAl_up, xLn_up, xup_xup, ty_i, ty_b, ty_z, ty_l, ty_q, tb_b, tb_z, xup_2, xpI_s, xpL_s, xpV_s, xpQ_n, xpQ_r, yl_0, yl_1, yl_2, yl_3, yl_4, yl_5, yl_6, xcs_nil, xcs_i, xcs_a, xcs_l, xcs_n, xNl_z, xNl_s, xNl_i, xNl_a, xNl_n, xNl_d, cat_i, cat_a, cat_n, List.getElem?_cons_zero, List.getElem?_cons_succ, List.set_cons_zero, List.set_cons_succ, List.length_cons, List.length_nil, true_and, and_true, eq_self, ite_true, ite_false, if_true, if_false, or_true, true_or, or_false, false_or, Nat.reduceAdd, Nat.reduceLT, Nat.reduceLeDiff, Nat.reduceEqDiff, Nat.reduceSub, ↓reduceIte, reduceCtorEq, not_false_eq_true, not_true_eq_false, false_implies, true_implies, forall_const, imp_self, implies_true, Nat.add_left_cancel_iff, Nat.left_eq_add, Nat.add_eq_left, Nat.zero_lt_succ, Nat.lt_add_left_iff_pos, one_ne_zero_n, zero_ne_one_n, zero_ne_one_i, one_ne_zero_i, xF_r v1, xPf_r v1, xO_r v1, xF_r f0, xPf_r f0, xO_r f0]
        refine c_Folk_ages hc4.nw.1 rfl hc4.nw.2 ?_
        try simp only [s_So_days_0, s_So_days_1, s_So_days_4, s_So_days_5, s_So_days_7, s_So_days_10, s_So_days_11, s_So_days_12, s_So_days_13, s_So_days_16, s_So_days_17, s_So_days_20, s_So_days_23, s_So_days_24, s_So_days_25, s_So_days_26, s_So_days_27, s_So_days_28, s_So_days_32, s_So_days_33, s_So_days_36, s_So_days_37, s_So_days_40, s_So_days_41, s_So_days_44, s_So_days_45, s_So_days_48, s_So_days_51, s_So_days_53, s_So_days_54, s_So_days_56, s_So_days_57, s_So_days_58, s_So_days_59, s_So_days_61, s_So_days_64, s_So_days_65, s_So_days_68, s_So_days_69, s_So_days_70, s_So_days_71, s_So_days_74, s_So_days_77, s_So_days_78, s_So_days_81, s_So_days_82, s_So_days_85, s_So_days_86, s_So_days_89, s_So_days_92, s_So_days_93, s_So_days_96, s_So_days_97, s_So_days_98, s_So_days_99, s_So_days_100, s_So_days_103, s_So_days_104, s_So_days_107, s_So_days_110, xg_0, xg_s, xF_up, xPf_up, xO_up, xAi_up, xAl_up, xLn_up, xup_xup, ty_i, ty_b, ty_z, ty_l, ty_q, tb_b, tb_z, xup_2, xpI_s, xpL_s, xpV_s, xpQ_n, xpQ_r, yl_0, yl_1, yl_2, yl_3, yl_4, yl_5, yl_6, xcs_nil, xcs_i, xcs_a, xcs_l, xcs_n, xNl_z, xNl_s, xNl_i, xNl_a, xNl_n, xNl_d, cat_i, cat_a, cat_n, List.getElem?_cons_zero, List.getElem?_cons_succ, List.set_cons_zero, List.set_cons_succ, List.length_cons, List.length_nil, true_and, and_true, eq_self, ite_true, ite_false, if_true, if_false, or_true, true_or, or_false, false_or, Nat.reduceAdd, Nat.reduceLT, Nat.reduceLeDiff, Nat.reduceEqDiff, Nat.reduceSub, ↓reduceIte, reduceCtorEq, not_false_eq_true, not_true_eq_false, false_implies, true_implies, forall_const, imp_self, implies_true, Nat.add_left_cancel_iff, Nat.left_eq_add, Nat.add_eq_left, Nat.zero_lt_succ, Nat.lt_add_left_iff_pos, one_ne_zero_n, zero_ne_one_n, zero_ne_one_i, one_ne_zero_i]
        have k2 := hk ht (xAg_tr ha3 ha4 (by simp)) hc4
        have e3 : asum s2.now.A s2.now.n = asum (dit s s.now N).A s.now.n := by rw [e2, dit_n]
        show K (asum s2.now.A s2.now.n) ht
        rw [e3]
        exact k2
      rw [s_So_days_30]
      try simp only [s_So_days_0, s_So_days_1, s_So_days_4, s_So_days_5, s_So_days_7, s_So_days_10, s_So_days_11, s_So_days_12, s_So_days_13, s_So_days_16, s_So_days_17, s_So_days_20, s_So_days_23, s_So_days_24, s_So_days_25, s_So_days_26, s_So_days_27, s_So_days_28, s_So_days_32, s_So_days_33, s_So_days_36, s_So_days_37, s_So_days_40, s_So_days_41, s_So_days_44, s_So_days_45, s_So_days_48, s_So_days_51, s_So_days_53, s_So_days_54, s_So_days_56, s_So_days_57, s_So_days_58, s_So_days_59, s_So_days_61, s_So_days_64, s_So_days_65, s_So_days_68, s_So_days_69, s_So_days_70, s_So_days_71, s_So_days_74, s_So_days_77, s_So_days_78, s_So_days_81, s_So_days_82, s_So_days_85, s_So_days_86, s_So_days_89, s_So_days_93, s_So_days_96, s_So_days_97, s_So_days_98, s_So_days_99, s_So_days_100, s_So_days_103, s_So_days_104, s_So_days_107, s_So_days_110, xg_0, xg_s, xF_up, xPf_up, xO_up, xAi_up, xAl_up, xLn_up, xup_xup, ty_i, ty_b, ty_z, ty_l, ty_q, tb_b, tb_z, xup_2, xpI_s, xpL_s, xpV_s, xpQ_n, xpQ_r, yl_0, yl_1, yl_2, yl_3, yl_4, yl_5, yl_6, xcs_nil, xcs_i, xcs_a, xcs_l, xcs_n, xNl_z, xNl_s, xNl_i, xNl_a, xNl_n, xNl_d, cat_i, cat_a, cat_n, List.getElem?_cons_zero, List.getElem?_cons_succ, List.set_cons_zero, List.set_cons_succ, List.length_cons, List.length_nil, true_and, and_true, eq_self, ite_true, ite_false, if_true, if_false, or_true, true_or, or_false, false_or, Nat.reduceAdd, Nat.reduceLT, Nat.reduceLeDiff, Nat.reduceEqDiff, Nat.reduceSub, ↓reduceIte, reduceCtorEq, not_false_eq_true, not_true_eq_false, false_implies, true_implies, forall_const, imp_self, implies_true, Nat.add_left_cancel_iff, Nat.left_eq_add, Nat.add_eq_left, Nat.zero_lt_succ, Nat.lt_add_left_iff_pos, one_ne_zero_n, zero_ne_one_n, zero_ne_one_i, one_ne_zero_i, xF_r p1, xPf_r p1, xO_r p1, xF_r pa0, xPf_r pa0, xO_r pa0]
      refine ⟨fun _ => ⟨fun z => ?_, fun z => ?_⟩, fun z => absurd (nI_le (Nat.le_refl N) (by omega)) z⟩
      · have e0 : N = 0 := by
          by_cases e : N = 0
          · exact e
          · exact absurd z (nI_ge (show 0 < N by omega) (by omega))
        refine fin (s.wNow (dit s s.now N)) hr rfl aa hc2 fun ht ha3 hc3 => ?_
        have k1 := hK N hN rfl ht qb ha3
        rw [if_pos e0] at k1
        exact k1 hc3
      · have e0 : ¬ N = 0 := fun e => by subst e; exact z (by decide)
        have hnx := hc2.pa.2.1
        refine c_Past_push hc2.pa.1 hnx hc2.pa.2.2 (hc2.rg s.nx hnx).1 hb3.1 (by omega) rfl hb3.2 fun hs ha3 hs3 hP => ?_
        have ha5 : xAg hr hs (List.range 103) := xAg_tr (xAg_rf _ _) ha3 (by simp <;> omega)
        have hc3 : isCl hs ((s.wNow (dit s s.now N)).push (fkc qb s.now)) := by
          refine isCl_mk (so_ag ha3 (by simp <;> omega) hc2.so) (tx_ag ha3 (by simp <;> omega) hc2.tx) (rw_ag ha3 (by simp <;> omega) hc2.rw) (isEnv_ag ha3 (by simp <;> omega) hc2.ev) (pr_ag ha3 (by simp <;> omega) hc2.pr) (isFk_ag ha3 (by simp <;> omega) hc2.nw) (fk_ag ha3 (by simp <;> omega) hc2.th) (fk_ag ha3 (by simp <;> omega) hc2.be) (⟨hP, by show (if s.nx + 1 < 12 then s.nx + 1 else 0) < 12; split <;> omega, by show (if s.ac + 1 ≤ 12 then s.ac + 1 else 12) ≤ 12; split <;> omega⟩) (fun i hi => ?_) (sh_ag ha3 (by simp <;> omega) hc2.sh) (cl_ag ha3 (by simp <;> omega) hc2.se) (cl_ag ha3 (by simp <;> omega) hc2.ru) (wk_ag ha3 (by simp <;> omega) hc2.wk) (rm_ag ha3 (by simp <;> omega) hc2.rm) (ch_ag ha3 (by simp <;> omega) hc2.ch) (ta_ag ha3 (by simp <;> omega) hc2.ta)
          show isFk hs (32 + 4 * i) (updF s.ring s.nx (fkc (s.ring s.nx) (fkc qb s.now)) i)
          unfold updF
          by_cases e : i = s.nx
          · rw [if_pos e, e]
            exact ⟨hs3, hb3.2⟩
          · rw [if_neg e]
            exact isFk_ag (X := [28, 32 + 4 * s.nx, 32 + 4 * s.nx + 1, 32 + 4 * s.nx + 2, 32 + 4 * s.nx + 3]) ha3 (by simp <;> omega) (hc2.rg i hi)
        try simp only [s_So_days_0, s_So_days_1, s_So_days_4, s_So_days_5, s_So_days_7, s_So_days_10, s_So_days_11, s_So_days_12, s_So_days_13, s_So_days_16, s_So_days_17, s_So_days_20, s_So_days_23, s_So_days_24, s_So_days_25, s_So_days_26, s_So_days_27, s_So_days_28, s_So_days_32, s_So_days_33, s_So_days_36, s_So_days_37, s_So_days_40, s_So_days_41, s_So_days_44, s_So_days_45, s_So_days_48, s_So_days_51, s_So_days_53, s_So_days_54, s_So_days_56, s_So_days_57, s_So_days_58, s_So_days_59, s_So_days_61, s_So_days_64, s_So_days_65, s_So_days_68, s_So_days_69, s_So_days_70, s_So_days_71, s_So_days_74, s_So_days_77, s_So_days_78, s_So_days_81, s_So_days_82, s_So_days_85, s_So_days_86, s_So_days_89, s_So_days_93, s_So_days_96, s_So_days_97, s_So_days_98, s_So_days_99, s_So_days_100, s_So_days_103, s_So_days_104, s_So_days_107, s_So_days_110, xg_0, xg_s, xF_up, xPf_up, xO_up, xAi_up, xAl_up, xLn_up, xup_xup, ty_i, ty_b, ty_z, ty_l, ty_q, tb_b, tb_z, xup_2, xpI_s, xpL_s, xpV_s, xpQ_n, xpQ_r, yl_0, yl_1, yl_2, yl_3, yl_4, yl_5, yl_6, xcs_nil, xcs_i, xcs_a, xcs_l, xcs_n, xNl_z, xNl_s, xNl_i, xNl_a, xNl_n, xNl_d, cat_i, cat_a, cat_n, List.getElem?_cons_zero, List.getElem?_cons_succ, List.set_cons_zero, List.set_cons_succ, List.length_cons, List.length_nil, true_and, and_true, eq_self, ite_true, ite_false, if_true, if_false, or_true, true_or, or_false, false_or, Nat.reduceAdd, Nat.reduceLT, Nat.reduceLeDiff, Nat.reduceEqDiff, Nat.reduceSub, ↓reduceIte, reduceCtorEq, not_false_eq_true, not_true_eq_false, false_implies, true_implies, forall_const, imp_self, implies_true, Nat.add_left_cancel_iff, Nat.left_eq_add, Nat.add_eq_left, Nat.zero_lt_succ, Nat.lt_add_left_iff_pos, one_ne_zero_n, zero_ne_one_n, zero_ne_one_i, one_ne_zero_i]
        refine fin _ hs rfl (xAg_tr aa ha5 (fun _ z => z)) hc3 fun ht ha6 hc6 => ?_
        have k1 := hK N hN rfl ht qb ha6
        rw [if_neg e0] at k1
        exact k1 hc6
    · intro a5 hr ha2 hc2 hb3
      obtain ⟨lot2, p0⟩ := hc2.so
      have p1 : hr.1 0 = _ := p0
      have s0 := hc2.ev.1.1
      rw [s_So_days_30]
      try simp only [s_So_days_0, s_So_days_1, s_So_days_4, s_So_days_5, s_So_days_7, s_So_days_10, s_So_days_11, s_So_days_12, s_So_days_13, s_So_days_16, s_So_days_17, s_So_days_20, s_So_days_23, s_So_days_24, s_So_days_25, s_So_days_26, s_So_days_27, s_So_days_28, s_So_days_32, s_So_days_33, s_So_days_36, s_So_days_37, s_So_days_40, s_So_days_41, s_So_days_44, s_So_days_45, s_So_days_48, s_So_days_51, s_So_days_53, s_So_days_54, s_So_days_56, s_So_days_57, s_So_days_58, s_So_days_59, s_So_days_61, s_So_days_64, s_So_days_65, s_So_days_68, s_So_days_69, s_So_days_70, s_So_days_71, s_So_days_74, s_So_days_77, s_So_days_78, s_So_days_81, s_So_days_82, s_So_days_85, s_So_days_86, s_So_days_89, s_So_days_92, s_So_days_93, s_So_days_96, s_So_days_97, s_So_days_98, s_So_days_99, s_So_days_100, s_So_days_103, s_So_days_104, s_So_days_107, s_So_days_110, xg_0, xg_s, xF_up, xPf_up, xO_up, xAi_up, xAl_up, xLn_up, xup_xup, ty_i, ty_b, ty_z, ty_l, ty_q, tb_b, tb_z, xup_2, xpI_s, xpL_s, xpV_s, xpQ_n, xpQ_r, yl_0, yl_1, yl_2, yl_3, yl_4, yl_5, yl_6, xcs_nil, xcs_i, xcs_a, xcs_l, xcs_n, xNl_z, xNl_s, xNl_i, xNl_a, xNl_n, xNl_d, cat_i, cat_a, cat_n, List.getElem?_cons_zero, List.getElem?_cons_succ, List.set_cons_zero, List.set_cons_succ, List.length_cons, List.length_nil, true_and, and_true, eq_self, ite_true, ite_false, if_true, if_false, or_true, true_or, or_false, false_or, Nat.reduceAdd, Nat.reduceLT, Nat.reduceLeDiff, Nat.reduceEqDiff, Nat.reduceSub, ↓reduceIte, reduceCtorEq, not_false_eq_true, not_true_eq_false, false_implies, true_implies, forall_const, imp_self, implies_true, Nat.add_left_cancel_iff, Nat.left_eq_add, Nat.add_eq_left, Nat.zero_lt_succ, Nat.lt_add_left_iff_pos, one_ne_zero_n, zero_ne_one_n, zero_ne_one_i, one_ne_zero_i, xF_r p1, xPf_r p1, xO_r p1, xF_r s0, xPf_r s0, xO_r s0]
      refine ⟨fun z => absurd z (nI_ge hj (by omega)), fun _ => ?_⟩
      refine f_dayBy hc2.ev hc2.nw (by decide) fun hs ha3 hE3 hf3 => ?_
      have k1 := ih (.int (dsu s (dit s s.now j))) hs (xAg_tr ha2 ha3 (by simp)) (isCl_mk (so_ag ha3 (by simp) hc2.so) (tx_ag ha3 (by simp) hc2.tx) (rw_ag ha3 (by simp) hc2.rw) (hE3) (pr_ag ha3 (by simp) hc2.pr) (hf3) (fk_ag ha3 (by simp) hc2.th) (fk_ag ha3 (by simp) hc2.be) (pa_ag ha3 (by simp) hc2.pa) (rg_ag ha3 (by simp) hc2.rg) (sh_ag ha3 (by simp) hc2.sh) (cl_ag ha3 (by simp) hc2.se) (cl_ag ha3 (by simp) hc2.ru) (wk_ag ha3 (by simp) hc2.wk) (rm_ag ha3 (by simp) hc2.rm) (ch_ag ha3 (by simp) hc2.ch) (ta_ag ha3 (by simp) hc2.ta)) (isFk_ag ha3 (by simp) hb3)
      have e9 : dsu (s.wNow (dit s s.now j)) (dit s s.now j) = dsu s (dit s s.now j) := rfl
      unfold dhs ddk at k1
      by_cases z9 : dsu s (dit s s.now j) = 0
      · rw [if_pos z9] at k1
        try simp only [s_So_days_0, s_So_days_1, s_So_days_4, s_So_days_5, s_So_days_7, s_So_days_10, s_So_days_11, s_So_days_12, s_So_days_13, s_So_days_16, s_So_days_17, s_So_days_20, s_So_days_23, s_So_days_24, s_So_days_25, s_So_days_26, s_So_days_27, s_So_days_28, s_So_days_32, s_So_days_33, s_So_days_36, s_So_days_37, s_So_days_40, s_So_days_41, s_So_days_44, s_So_days_45, s_So_days_48, s_So_days_51, s_So_days_53, s_So_days_54, s_So_days_56, s_So_days_57, s_So_days_58, s_So_days_59, s_So_days_61, s_So_days_64, s_So_days_65, s_So_days_68, s_So_days_69, s_So_days_70, s_So_days_71, s_So_days_74, s_So_days_77, s_So_days_78, s_So_days_81, s_So_days_82, s_So_days_85, s_So_days_86, s_So_days_89, s_So_days_92, s_So_days_93, s_So_days_96, s_So_days_97, s_So_days_98, s_So_days_99, s_So_days_100, s_So_days_103, s_So_days_104, s_So_days_107, s_So_days_110, xg_0, xg_s, xF_up, xPf_up, xO_up, xAi_up, xAl_up, xLn_up, xup_xup, ty_i, ty_b, ty_z, ty_l, ty_q, tb_b, tb_z, xup_2, xpI_s, xpL_s, xpV_s, xpQ_n, xpQ_r, yl_0, yl_1, yl_2, yl_3, yl_4, yl_5, yl_6, xcs_nil, xcs_i, xcs_a, xcs_l, xcs_n, xNl_z, xNl_s, xNl_i, xNl_a, xNl_n, xNl_d, cat_i, cat_a, cat_n, List.getElem?_cons_zero, List.getElem?_cons_succ, List.set_cons_zero, List.set_cons_succ, List.length_cons, List.length_nil, true_and, and_true, eq_self, ite_true, ite_false, if_true, if_false, or_true, true_or, or_false, false_or, Nat.reduceAdd, Nat.reduceLT, Nat.reduceLeDiff, Nat.reduceEqDiff, Nat.reduceSub, ↓reduceIte, reduceCtorEq, not_false_eq_true, not_true_eq_false, false_implies, true_implies, forall_const, imp_self, implies_true, Nat.add_left_cancel_iff, Nat.left_eq_add, Nat.add_eq_left, Nat.zero_lt_succ, Nat.lt_add_left_iff_pos, one_ne_zero_n, zero_ne_one_n, zero_ne_one_i, one_ne_zero_i, nI_1, e9, z9]
        rw [z9] at k1
        exact k1
      · rw [if_neg z9] at k1
        try simp only [s_So_days_0, s_So_days_1, s_So_days_4, s_So_days_5, s_So_days_7, s_So_days_10, s_So_days_11, s_So_days_12, s_So_days_13, s_So_days_16, s_So_days_17, s_So_days_20, s_So_days_23, s_So_days_24, s_So_days_25, s_So_days_26, s_So_days_27, s_So_days_28, s_So_days_32, s_So_days_33, s_So_days_36, s_So_days_37, s_So_days_40, s_So_days_41, s_So_days_44, s_So_days_45, s_So_days_48, s_So_days_51, s_So_days_53, s_So_days_54, s_So_days_56, s_So_days_57, s_So_days_58, s_So_days_59, s_So_days_61, s_So_days_64, s_So_days_65, s_So_days_68, s_So_days_69, s_So_days_70, s_So_days_71, s_So_days_74, s_So_days_77, s_So_days_78, s_So_days_81, s_So_days_82, s_So_days_85, s_So_days_86, s_So_days_89, s_So_days_92, s_So_days_93, s_So_days_96, s_So_days_97, s_So_days_98, s_So_days_99, s_So_days_100, s_So_days_103, s_So_days_104, s_So_days_107, s_So_days_110, xg_0, xg_s, xF_up, xPf_up, xO_up, xAi_up, xAl_up, xLn_up, xup_xup, ty_i, ty_b, ty_z, ty_l, ty_q, tb_b, tb_z, xup_2, xpI_s, xpL_s, xpV_s, xpQ_n, xpQ_r, yl_0, yl_1, yl_2, yl_3, yl_4, yl_5, yl_6, xcs_nil, xcs_i, xcs_a, xcs_l, xcs_n, xNl_z, xNl_s, xNl_i, xNl_a, xNl_n, xNl_d, cat_i, cat_a, cat_n, List.getElem?_cons_zero, List.getElem?_cons_succ, List.set_cons_zero, List.set_cons_succ, List.length_cons, List.length_nil, true_and, and_true, eq_self, ite_true, ite_false, if_true, if_false, or_true, true_or, or_false, false_or, Nat.reduceAdd, Nat.reduceLT, Nat.reduceLeDiff, Nat.reduceEqDiff, Nat.reduceSub, ↓reduceIte, reduceCtorEq, not_false_eq_true, not_true_eq_false, false_implies, true_implies, forall_const, imp_self, implies_true, Nat.add_left_cancel_iff, Nat.left_eq_add, Nat.add_eq_left, Nat.zero_lt_succ, Nat.lt_add_left_iff_pos, one_ne_zero_n, zero_ne_one_n, zero_ne_one_i, one_ne_zero_i, nI_1, e9, z9]
        exact k1
  try simp only [s_So_days_0, s_So_days_1, s_So_days_4, s_So_days_5, s_So_days_7, s_So_days_10, s_So_days_11, s_So_days_12, s_So_days_13, s_So_days_16, s_So_days_17, s_So_days_20, s_So_days_23, s_So_days_24, s_So_days_25, s_So_days_26, s_So_days_27, s_So_days_28, s_So_days_32, s_So_days_33, s_So_days_36, s_So_days_37, s_So_days_40, s_So_days_41, s_So_days_44, s_So_days_45, s_So_days_48, s_So_days_51, s_So_days_53, s_So_days_54, s_So_days_56, s_So_days_57, s_So_days_58, s_So_days_59, s_So_days_61, s_So_days_64, s_So_days_65, s_So_days_68, s_So_days_69, s_So_days_70, s_So_days_71, s_So_days_74, s_So_days_77, s_So_days_78, s_So_days_81, s_So_days_82, s_So_days_85, s_So_days_86, s_So_days_89, s_So_days_92, s_So_days_93, s_So_days_96, s_So_days_97, s_So_days_98, s_So_days_99, s_So_days_100, s_So_days_103, s_So_days_104, s_So_days_107, s_So_days_110, xg_0, xg_s, xF_up, xPf_up, xO_up, xAi_up, xAl_up, xLn_up, xup_xup, ty_i, ty_b, ty_z, ty_l, ty_q, tb_b, tb_z, xup_2, xpI_s, xpL_s, xpV_s, xpQ_n, xpQ_r, yl_0, yl_1, yl_2, yl_3, yl_4, yl_5, yl_6, xcs_nil, xcs_i, xcs_a, xcs_l, xcs_n, xNl_z, xNl_s, xNl_i, xNl_a, xNl_n, xNl_d, cat_i, cat_a, cat_n, List.getElem?_cons_zero, List.getElem?_cons_succ, List.set_cons_zero, List.set_cons_succ, List.length_cons, List.length_nil, true_and, and_true, eq_self, ite_true, ite_false, if_true, if_false, or_true, true_or, or_false, false_or, Nat.reduceAdd, Nat.reduceLT, Nat.reduceLeDiff, Nat.reduceEqDiff, Nat.reduceSub, ↓reduceIte, reduceCtorEq, not_false_eq_true, not_true_eq_false, false_implies, true_implies, forall_const, imp_self, implies_true, Nat.add_left_cancel_iff, Nat.left_eq_add, Nat.add_eq_left, Nat.zero_lt_succ, Nat.lt_add_left_iff_pos, one_ne_zero_n, zero_ne_one_n, zero_ne_one_i, one_ne_zero_i]
  exact loop 0 (Nat.zero_le _) _ hq (xAg_rf _ _) hc hb2
end SO8
