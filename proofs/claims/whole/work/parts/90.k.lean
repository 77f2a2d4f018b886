/-! ===== the model's calls: moving, deeds, doubts ===== -/
section MO11
variable {l : Launch} {d b lo gz f a t D B i : Nat} {hp hq : xHp} {x y : SO} {s : St} {q : Fk} {n one other v sky ot k set p w hh spot : Int32} {g G : Nat → Int32}
theorem le0n1 : ((0 : Int32) ≤ -1) = False := by decide
theorem le0n2 : ((0 : Int32) ≤ -2) = False := by decide
theorem le00 : ((0 : Int32) ≤ 0) = True := by decide
theorem isMM_now (h : isMM hp y s) (ha : xAg hp hq [104]) (hm : isMk hq 104 q) (hn : q.n = s.now.n) : isMM hq y (s.wNow q) := by
  have m := isME_ag ha (by simp) h.me
  exact ⟨⟨m.1, ⟨m.2.1.1.trans (congrArg nI hn.symm), Nat.le_trans (Nat.le_of_eq hn) m.2.1.2⟩, m.2.2⟩, h.ru, mTx_ag ha (by simp) h.tx, mRw_ag ha (by simp) h.rw, hm, mUn_ag ha (by simp) h.un, mSa_ag ha (by simp) h.sa, mHe_ag ha (by simp) h.he, mKp_ag ha (by simp) h.kp, mSc_ag ha (by simp) h.sc⟩
theorem isMk_A (hg : hp.1 a = .inl (.int, 22, .inl (upd g i v))) (hgk : (∀ j, j < q.n → g j = q.A j ∧ g (7 + j) = q.P j ∧ g (14 + j) = q.S j) ∧ g 21 = q.day) (hi : i < q.n) (h7 : q.n ≤ 7) : isMk hp a (upd q.A i v, q.P, q.S, q.n, q.day) := by
  refine ⟨_, hg, fun j hj => ?_, ?_⟩
  · have hj2 : j < q.n := hj
    obtain ⟨e1, e2, e3⟩ := hgk.1 j hj2
    refine ⟨?_, ?_, ?_⟩
    · show upd g i v j = upd q.A i v j
      unfold upd
      rw [e1]
    · show upd g i v (7 + j) = q.P j
      unfold upd
      rw [if_neg (by omega), e2]
    · show upd g i v (14 + j) = q.S j
      unfold upd
      rw [if_neg (by omega), e3]
  · show upd g i v 21 = q.day
    unfold upd
    rw [if_neg (by omega), hgk.2]
theorem isMk_P (hg : hp.1 a = .inl (.int, 22, .inl (upd g (7 + i) v))) (hgk : (∀ j, j < q.n → g j = q.A j ∧ g (7 + j) = q.P j ∧ g (14 + j) = q.S j) ∧ g 21 = q.day) (hi : i < q.n) (h7 : q.n ≤ 7) : isMk hp a (q.A, upd q.P i v, q.S, q.n, q.day) := by
  refine ⟨_, hg, fun j hj => ?_, ?_⟩
  · have hj2 : j < q.n := hj
    obtain ⟨e1, e2, e3⟩ := hgk.1 j hj2
    refine ⟨?_, ?_, ?_⟩
    · show upd g (7 + i) v j = q.A j
      unfold upd
      rw [if_neg (by omega), e1]
    · show upd g (7 + i) v (7 + j) = upd q.P i v j
      unfold upd
      by_cases e : j = i
      · rw [if_pos e, if_pos (by omega)]
      · rw [if_neg e, if_neg (by omega), e2]
    · show upd g (7 + i) v (14 + j) = q.S j
      unfold upd
      rw [if_neg (by omega), e3]
  · show upd g (7 + i) v 21 = q.day
    unfold upd
    rw [if_neg (by omega), hgk.2]
theorem isMk_S (hg : hp.1 a = .inl (.int, 22, .inl (upd g (14 + i) v))) (hgk : (∀ j, j < q.n → g j = q.A j ∧ g (7 + j) = q.P j ∧ g (14 + j) = q.S j) ∧ g 21 = q.day) (hi : i < q.n) (h7 : q.n ≤ 7) : isMk hp a (q.A, q.P, upd q.S i v, q.n, q.day) := by
  refine ⟨_, hg, fun j hj => ?_, ?_⟩
  · have hj2 : j < q.n := hj
    obtain ⟨e1, e2, e3⟩ := hgk.1 j hj2
    refine ⟨?_, ?_, ?_⟩
    · show upd g (14 + i) v j = q.A j
      unfold upd
      rw [if_neg (by omega), e1]
    · show upd g (14 + i) v (7 + j) = q.P j
      unfold upd
      rw [if_neg (by omega), e2]
    · show upd g (14 + i) v (14 + j) = upd q.S i v j
      unfold upd
      by_cases e : j = i
      · rw [if_pos e, if_pos (by omega)]
      · rw [if_neg e, if_neg (by omega), e3]
  · show upd g (14 + i) v 21 = q.day
    unfold upd
    rw [if_neg (by omega), hgk.2]
theorem ix7 (hi : i < 7) (k : Nat) (hk : k ≤ 14) : vp_in (nI (k + i)) 22 ∧ (nI (k + i)).toNatClampNeg = k + i := ⟨vin (by omega) (by decide), nI_clamp (by omega)⟩
theorem m_refusesMove {K : Int32 → xHp → Prop} (h : isME hp x s) (hq : isMk hp a q) (hn : q.n = s.now.n)
    (hK1 : yhas one (nI s.now.n) = 0 ∨ yhas spot (nI s.nl) = 0 → K (-1) hp)
    (hK2 : ¬ (yhas one (nI s.now.n) = 0 ∨ yhas spot (nI s.nl) = 0) → yat 7 q.P one = spot → K (-2) hp)
    (hK3 : ¬ (yhas one (nI s.now.n) = 0 ∨ yhas spot (nI s.nl) = 0) → ¬ yat 7 q.P one = spot → K 0 hp) : xMi l (d + 2) b lo gz m_Mo_refusesMove [.ref 103, .ref a, .int one, .int spot] hp K := by
  have h7 := h.2.1.2
  have h6 := h.2.2.1.2
  obtain ⟨g, hg, hgk, hd⟩ := id hq
  obtain ⟨rd, le, tp, at2, wr, o1⟩ := isO_raw h.1
  refine xMC_V ok_Mo_refusesMove (by decide) (L0 := [.ref 103, .ref a, .int one, .int spot]) rfl rfl ?_
  try simp only [s_Mo_refusesMove_0, s_Mo_refusesMove_1, s_Mo_refusesMove_2, s_Mo_refusesMove_5, s_Mo_refusesMove_8, s_Mo_refusesMove_9, s_Mo_refusesMove_10, s_Mo_refusesMove_13, s_Mo_refusesMove_16, s_Mo_refusesMove_17, s_Mo_refusesMove_18, s_Mo_refusesMove_19, s_Mo_refusesMove_21, s_Mo_refusesMove_22, s_Mo_refusesMove_23, s_Mo_refusesMove_24, s_Mo_refusesMove_25, s_Mo_refusesMove_28, s_Mo_refusesMove_30, s_Mo_refusesMove_33, s_Mo_refusesMove_34, xg_0, xg_s, xF_up, xPf_up, xO_up, xAi_up, xAl_up, xLn_up, xup_xup, ty_i, ty_b, ty_z, ty_l, ty_q, tb_b, tb_z, xup_2, xpI_s, xpL_s, xpV_s, xpQ_n, xpQ_r, yl_0, yl_1, yl_2, yl_3, yl_4, yl_5, yl_6, xcs_nil, xcs_i, xcs_a, xcs_l, xcs_n, xNl_z, xNl_s, xNl_i, xNl_a, xNl_n, xNl_d, cat_i, cat_a, cat_n, List.getElem?_cons_zero, List.getElem?_cons_succ, List.set_cons_zero, List.set_cons_succ, List.length_cons, List.length_nil, true_and, and_true, eq_self, ite_true, ite_false, if_true, if_false, or_true, true_or, or_false, false_or, Nat.reduceAdd, Nat.reduceLT, Nat.reduceLeDiff, Nat.reduceEqDiff, Nat.reduceSub, ↓reduceIte, reduceCtorEq, not_false_eq_true, not_true_eq_false, false_implies, true_implies, forall_const, imp_self, implies_true, Nat.add_left_cancel_iff, Nat.left_eq_add, Nat.add_eq_left, Nat.zero_lt_succ, Nat.lt_add_left_iff_pos, one_ne_zero_n, zero_ne_one_n, zero_ne_one_i, one_ne_zero_i, xF_r o1, xPf_r o1, xO_r o1]
  refine m_isOne h.1 h.2.1.1 (by omega) ?_
  by_cases z1 : yhas one (nI s.now.n) = 0
  · try simp only [s_Mo_refusesMove_0, s_Mo_refusesMove_1, s_Mo_refusesMove_2, s_Mo_refusesMove_5, s_Mo_refusesMove_8, s_Mo_refusesMove_9, s_Mo_refusesMove_10, s_Mo_refusesMove_13, s_Mo_refusesMove_16, s_Mo_refusesMove_17, s_Mo_refusesMove_18, s_Mo_refusesMove_19, s_Mo_refusesMove_21, s_Mo_refusesMove_22, s_Mo_refusesMove_23, s_Mo_refusesMove_24, s_Mo_refusesMove_25, s_Mo_refusesMove_28, s_Mo_refusesMove_30, s_Mo_refusesMove_33, s_Mo_refusesMove_34, xg_0, xg_s, xF_up, xPf_up, xO_up, xAi_up, xAl_up, xLn_up, xup_xup, ty_i, ty_b, ty_z, ty_l, ty_q, tb_b, tb_z, xup_2, xpI_s, xpL_s, xpV_s, xpQ_n, xpQ_r, yl_0, yl_1, yl_2, yl_3, yl_4, yl_5, yl_6, xcs_nil, xcs_i, xcs_a, xcs_l, xcs_n, xNl_z, xNl_s, xNl_i, xNl_a, xNl_n, xNl_d, cat_i, cat_a, cat_n, List.getElem?_cons_zero, List.getElem?_cons_succ, List.set_cons_zero, List.set_cons_succ, List.length_cons, List.length_nil, true_and, and_true, eq_self, ite_true, ite_false, if_true, if_false, or_true, true_or, or_false, false_or, Nat.reduceAdd, Nat.reduceLT, Nat.reduceLeDiff, Nat.reduceEqDiff, Nat.reduceSub, ↓reduceIte, reduceCtorEq, not_false_eq_true, not_true_eq_false, false_implies, true_implies, forall_const, imp_self, implies_true, Nat.add_left_cancel_iff, Nat.left_eq_add, Nat.add_eq_left, Nat.zero_lt_succ, Nat.lt_add_left_iff_pos, one_ne_zero_n, zero_ne_one_n, zero_ne_one_i, one_ne_zero_i, z1, xF_r o1, xPf_r o1, xO_r o1]
    exact hK1 (Or.inl z1)
  try simp only [s_Mo_refusesMove_0, s_Mo_refusesMove_1, s_Mo_refusesMove_2, s_Mo_refusesMove_5, s_Mo_refusesMove_8, s_Mo_refusesMove_9, s_Mo_refusesMove_10, s_Mo_refusesMove_13, s_Mo_refusesMove_16, s_Mo_refusesMove_17, s_Mo_refusesMove_18, s_Mo_refusesMove_19, s_Mo_refusesMove_21, s_Mo_refusesMove_22, s_Mo_refusesMove_23, s_Mo_refusesMove_24, s_Mo_refusesMove_25, s_Mo_refusesMove_28, s_Mo_refusesMove_30, s_Mo_refusesMove_33, s_Mo_refusesMove_34, xg_0, xg_s, xF_up, xPf_up, xO_up, xAi_up, xAl_up, xLn_up, xup_xup, ty_i, ty_b, ty_z, ty_l, ty_q, tb_b, tb_z, xup_2, xpI_s, xpL_s, xpV_s, xpQ_n, xpQ_r, yl_0, yl_1, yl_2, yl_3, yl_4, yl_5, yl_6, xcs_nil, xcs_i, xcs_a, xcs_l, xcs_n, xNl_z, xNl_s, xNl_i, xNl_a, xNl_n, xNl_d, cat_i, cat_a, cat_n, List.getElem?_cons_zero, List.getElem?_cons_succ, List.set_cons_zero, List.set_cons_succ, List.length_cons, List.length_nil, true_and, and_true, eq_self, ite_true, ite_false, if_true, if_false, or_true, true_or, or_false, false_or, Nat.reduceAdd, Nat.reduceLT, Nat.reduceLeDiff, Nat.reduceEqDiff, Nat.reduceSub, ↓reduceIte, reduceCtorEq, not_false_eq_true, not_true_eq_false, false_implies, true_implies, forall_const, imp_self, implies_true, Nat.add_left_cancel_iff, Nat.left_eq_add, Nat.add_eq_left, Nat.zero_lt_succ, Nat.lt_add_left_iff_pos, one_ne_zero_n, zero_ne_one_n, zero_ne_one_i, one_ne_zero_i, z1, xF_r o1, xPf_r o1, xO_r o1]
  refine m_isPlace h.1 h.2.2.1.1 (by omega) ?_
  by_cases z2 : yhas spot (nI s.nl) = 0
  · try simp only [s_Mo_refusesMove_0, s_Mo_refusesMove_1, s_Mo_refusesMove_2, s_Mo_refusesMove_5, s_Mo_refusesMove_8, s_Mo_refusesMove_9, s_Mo_refusesMove_10, s_Mo_refusesMove_13, s_Mo_refusesMove_16, s_Mo_refusesMove_17, s_Mo_refusesMove_18, s_Mo_refusesMove_19, s_Mo_refusesMove_21, s_Mo_refusesMove_22, s_Mo_refusesMove_23, s_Mo_refusesMove_24, s_Mo_refusesMove_25, s_Mo_refusesMove_28, s_Mo_refusesMove_30, s_Mo_refusesMove_33, s_Mo_refusesMove_34, xg_0, xg_s, xF_up, xPf_up, xO_up, xAi_up, xAl_up, xLn_up, xup_xup, ty_i, ty_b, ty_z, ty_l, ty_q, tb_b, tb_z, xup_2, xpI_s, xpL_s, xpV_s, xpQ_n, xpQ_r, yl_0, yl_1, yl_2, yl_3, yl_4, yl_5, yl_6, xcs_nil, xcs_i, xcs_a, xcs_l, xcs_n, xNl_z, xNl_s, xNl_i, xNl_a, xNl_n, xNl_d, cat_i, cat_a, cat_n, List.getElem?_cons_zero, List.getElem?_cons_succ, List.set_cons_zero, List.set_cons_succ, List.length_cons, List.length_nil, true_and, and_true, eq_self, ite_true, ite_false, if_true, if_false, or_true, true_or, or_false, false_or, Nat.reduceAdd, Nat.reduceLT, Nat.reduceLeDiff, Nat.reduceEqDiff, Nat.reduceSub, ↓reduceIte, reduceCtorEq, not_false_eq_true, not_true_eq_false, false_implies, true_implies, forall_const, imp_self, implies_true, Nat.add_left_cancel_iff, Nat.left_eq_add, Nat.add_eq_left, Nat.zero_lt_succ, Nat.lt_add_left_iff_pos, one_ne_zero_n, zero_ne_one_n, zero_ne_one_i, one_ne_zero_i, z2]
    exact hK1 (Or.inr z2)
  have hn2 : ¬ (yhas one (nI s.now.n) = 0 ∨ yhas spot (nI s.nl) = 0) := fun z => z.elim z1 z2
  obtain ⟨i, hi, rfl⟩ := yhas_of (by omega) z1
  have ei : (7 : Int32) + nI i = nI (7 + i) := nI_ad 7 i
  obtain ⟨v1, v2⟩ := ix7 (show i < 7 by omega) 7 (by decide)
  have v3 := (hgk i (by omega)).2.1
  rw [yat_nI (show i < 7 by omega) y7'] at hK2 hK3
  by_cases z3 : q.P i = spot
  · have k2 := hK2 hn2 z3
    try simp only [s_Mo_refusesMove_0, s_Mo_refusesMove_1, s_Mo_refusesMove_2, s_Mo_refusesMove_5, s_Mo_refusesMove_8, s_Mo_refusesMove_9, s_Mo_refusesMove_10, s_Mo_refusesMove_13, s_Mo_refusesMove_16, s_Mo_refusesMove_17, s_Mo_refusesMove_18, s_Mo_refusesMove_19, s_Mo_refusesMove_21, s_Mo_refusesMove_22, s_Mo_refusesMove_23, s_Mo_refusesMove_24, s_Mo_refusesMove_25, s_Mo_refusesMove_28, s_Mo_refusesMove_30, s_Mo_refusesMove_33, s_Mo_refusesMove_34, xg_0, xg_s, xF_up, xPf_up, xO_up, xAi_up, xAl_up, xLn_up, xup_xup, ty_i, ty_b, ty_z, ty_l, ty_q, tb_b, tb_z, xup_2, xpI_s, xpL_s, xpV_s, xpQ_n, xpQ_r, yl_0, yl_1, yl_2, yl_3, yl_4, yl_5, yl_6, xcs_nil, xcs_i, xcs_a, xcs_l, xcs_n, xNl_z, xNl_s, xNl_i, xNl_a, xNl_n, xNl_d, cat_i, cat_a, cat_n, List.getElem?_cons_zero, List.getElem?_cons_succ, List.set_cons_zero, List.set_cons_succ, List.length_cons, List.length_nil, true_and, and_true, eq_self, ite_true, ite_false, if_true, if_false, or_true, true_or, or_false, false_or, Nat.reduceAdd, Nat.reduceLT, Nat.reduceLeDiff, Nat.reduceEqDiff, Nat.reduceSub, ↓reduceIte, reduceCtorEq, not_false_eq_true, not_true_eq_false, false_implies, true_implies, forall_const, imp_self, implies_true, Nat.add_left_cancel_iff, Nat.left_eq_add, Nat.add_eq_left, Nat.zero_lt_succ, Nat.lt_add_left_iff_pos, one_ne_zero_n, zero_ne_one_n, zero_ne_one_i, one_ne_zero_i, z2, xAi_r hg, xLn_r hg, ei, v1, v2, v3, z3]
    exact k2
  · have k3 := hK3 hn2 z3
    try simp only [s_Mo_refusesMove_0, s_Mo_refusesMove_1, s_Mo_refusesMove_2, s_Mo_refusesMove_5, s_Mo_refusesMove_8, s_Mo_refusesMove_9, s_Mo_refusesMove_10, s_Mo_refusesMove_13, s_Mo_refusesMove_16, s_Mo_refusesMove_17, s_Mo_refusesMove_18, s_Mo_refusesMove_19, s_Mo_refusesMove_21, s_Mo_refusesMove_22, s_Mo_refusesMove_23, s_Mo_refusesMove_24, s_Mo_refusesMove_25, s_Mo_refusesMove_28, s_Mo_refusesMove_30, s_Mo_refusesMove_33, s_Mo_refusesMove_34, xg_0, xg_s, xF_up, xPf_up, xO_up, xAi_up, xAl_up, xLn_up, xup_xup, ty_i, ty_b, ty_z, ty_l, ty_q, tb_b, tb_z, xup_2, xpI_s, xpL_s, xpV_s, xpQ_n, xpQ_r, yl_0, yl_1, yl_2, yl_3, yl_4, yl_5, yl_6, xcs_nil, xcs_i, xcs_a, xcs_l, xcs_n, xNl_z, xNl_s, xNl_i, xNl_a, xNl_n, xNl_d, cat_i, cat_a, cat_n, List.getElem?_cons_zero, List.getElem?_cons_succ, List.set_cons_zero, List.set_cons_succ, List.length_cons, List.length_nil, true_and, and_true, eq_self, ite_true, ite_false, if_true, if_false, or_true, true_or, or_false, false_or, Nat.reduceAdd, Nat.reduceLT, Nat.reduceLeDiff, Nat.reduceEqDiff, Nat.reduceSub, ↓reduceIte, reduceCtorEq, not_false_eq_true, not_true_eq_false, false_implies, true_implies, forall_const, imp_self, implies_true, Nat.add_left_cancel_iff, Nat.left_eq_add, Nat.add_eq_left, Nat.zero_lt_succ, Nat.lt_add_left_iff_pos, one_ne_zero_n, zero_ne_one_n, zero_ne_one_i, one_ne_zero_i, z2, xAi_r hg, xLn_r hg, ei, v1, v2, v3, z3]
    exact k3
theorem m_moves {K : Int32 → xHp → Prop} (h : isMM hp x s) (hr7 : ∀ j, j < s.ac → (ringAt s j).n ≤ 7)
    (hK1 : yhas one (nI s.now.n) = 0 ∨ yhas spot (nI s.nl) = 0 → ∀ hq y, xAg hp hq mcl → isMM hq y s → K (-1) hq)
    (hK2 : ¬ (yhas one (nI s.now.n) = 0 ∨ yhas spot (nI s.nl) = 0) → yat 7 s.now.P one = spot → ∀ hq y, xAg hp hq mcl → isMM hq y s → K (-2) hq)
    (hK3 : ¬ (yhas one (nI s.now.n) = 0 ∨ yhas spot (nI s.nl) = 0) → ¬ yat 7 s.now.P one = spot → ∀ hq y, xAg hp hq mcl → (∀ q, fkE q s.now → isMM hq y ((s.wNow (s.now.A, yput 7 s.now.P one spot, s.now.S, s.now.n, s.now.day)).push q)) → K (10 + yat 7 s.now.P one) hq) : xMi l (d + 3) b lo gz m_Mo_moves [.ref 103, .int one, .int spot] hp K := by
  have h7 := h.me.2.1.2
  obtain ⟨rd, le, tp, at2, wr, o1⟩ := isO_raw h.me.1
  have hgo : ∀ hq y, xAg hp hq [103] → isMM hq y s → y.th = 0 → xV k_Mo_moves (l, d + 3, b, lo, gz, hp.2.1, hp.2.2, m_Mo_moves, xpI K) 5 [.ref 103, .int one, .int spot, .retAddr 0, .retAddr 0] [] hq := by
    intro hq y ha hM hth
    obtain ⟨rd, le, tp, at2, wr, o1⟩ := isO_raw hM.me.1
    have ha1 : xAg hp hq mcl := xAg_tr (xAg_rf _ _) ha (by decide)
    try simp only [s_Mo_moves_0, s_Mo_moves_1, s_Mo_moves_2, s_Mo_moves_5, s_Mo_moves_6, s_Mo_moves_7, s_Mo_moves_10, s_Mo_moves_11, s_Mo_moves_12, s_Mo_moves_15, s_Mo_moves_16, s_Mo_moves_17, s_Mo_moves_20, s_Mo_moves_21, s_Mo_moves_22, s_Mo_moves_23, s_Mo_moves_24, s_Mo_moves_27, s_Mo_moves_30, s_Mo_moves_31, s_Mo_moves_34, s_Mo_moves_36, s_Mo_moves_37, s_Mo_moves_38, s_Mo_moves_39, s_Mo_moves_41, s_Mo_moves_42, s_Mo_moves_45, s_Mo_moves_47, s_Mo_moves_48, s_Mo_moves_49, s_Mo_moves_50, s_Mo_moves_51, s_Mo_moves_53, s_Mo_moves_55, s_Mo_moves_56, xg_0, xg_s, xF_up, xPf_up, xO_up, xAi_up, xAl_up, xLn_up, xup_xup, ty_i, ty_b, ty_z, ty_l, ty_q, tb_b, tb_z, xup_2, xpI_s, xpL_s, xpV_s, xpQ_n, xpQ_r, yl_0, yl_1, yl_2, yl_3, yl_4, yl_5, yl_6, xcs_nil, xcs_i, xcs_a, xcs_l, xcs_n, xNl_z, xNl_s, xNl_i, xNl_a, xNl_n, xNl_d, cat_i, cat_a, cat_n, List.getElem?_cons_zero, List.getElem?_cons_succ, List.set_cons_zero, List.set_cons_succ, List.length_cons, List.length_nil, true_and, and_true, eq_self, ite_true, ite_false, if_true, if_false, or_true, true_or, or_false, false_or, Nat.reduceAdd, Nat.reduceLT, Nat.reduceLeDiff, Nat.reduceEqDiff, Nat.reduceSub, ↓reduceIte, reduceCtorEq, not_false_eq_true, not_true_eq_false, false_implies, true_implies, forall_const, imp_self, implies_true, Nat.add_left_cancel_iff, Nat.left_eq_add, Nat.add_eq_left, Nat.zero_lt_succ, Nat.lt_add_left_iff_pos, one_ne_zero_n, zero_ne_one_n, zero_ne_one_i, one_ne_zero_i, xF_r o1, xPf_r o1, xO_r o1]
    refine m_refusesMove hM.me hM.nw rfl (fun z => ?_) (fun z z2 => ?_) (fun z z2 => ?_)
    · try simp only [s_Mo_moves_0, s_Mo_moves_1, s_Mo_moves_2, s_Mo_moves_5, s_Mo_moves_6, s_Mo_moves_7, s_Mo_moves_10, s_Mo_moves_11, s_Mo_moves_12, s_Mo_moves_15, s_Mo_moves_16, s_Mo_moves_17, s_Mo_moves_20, s_Mo_moves_21, s_Mo_moves_22, s_Mo_moves_23, s_Mo_moves_24, s_Mo_moves_27, s_Mo_moves_30, s_Mo_moves_31, s_Mo_moves_34, s_Mo_moves_36, s_Mo_moves_37, s_Mo_moves_38, s_Mo_moves_39, s_Mo_moves_41, s_Mo_moves_42, s_Mo_moves_45, s_Mo_moves_47, s_Mo_moves_48, s_Mo_moves_49, s_Mo_moves_50, s_Mo_moves_51, s_Mo_moves_53, s_Mo_moves_55, s_Mo_moves_56, xg_0, xg_s, xF_up, xPf_up, xO_up, xAi_up, xAl_up, xLn_up, xup_xup, ty_i, ty_b, ty_z, ty_l, ty_q, tb_b, tb_z, xup_2, xpI_s, xpL_s, xpV_s, xpQ_n, xpQ_r, yl_0, yl_1, yl_2, yl_3, yl_4, yl_5, yl_6, xcs_nil, xcs_i, xcs_a, xcs_l, xcs_n, xNl_z, xNl_s, xNl_i, xNl_a, xNl_n, xNl_d, cat_i, cat_a, cat_n, List.getElem?_cons_zero, List.getElem?_cons_succ, List.set_cons_zero, List.set_cons_succ, List.length_cons, List.length_nil, true_and, and_true, eq_self, ite_true, ite_false, if_true, if_false, or_true, true_or, or_false, false_or, Nat.reduceAdd, Nat.reduceLT, Nat.reduceLeDiff, Nat.reduceEqDiff, Nat.reduceSub, ↓reduceIte, reduceCtorEq, not_false_eq_true, not_true_eq_false, false_implies, true_implies, forall_const, imp_self, implies_true, Nat.add_left_cancel_iff, Nat.left_eq_add, Nat.add_eq_left, Nat.zero_lt_succ, Nat.lt_add_left_iff_pos, one_ne_zero_n, zero_ne_one_n, zero_ne_one_i, one_ne_zero_i, le0n1]
      exact hK1 z hq y ha1 hM
    · try simp only [s_Mo_moves_0, s_Mo_moves_1, s_Mo_moves_2, s_Mo_moves_5, s_Mo_moves_6, s_Mo_moves_7, s_Mo_moves_10, s_Mo_moves_11, s_Mo_moves_12, s_Mo_moves_15, s_Mo_moves_16, s_Mo_moves_17, s_Mo_moves_20, s_Mo_moves_21, s_Mo_moves_22, s_Mo_moves_23, s_Mo_moves_24, s_Mo_moves_27, s_Mo_moves_30, s_Mo_moves_31, s_Mo_moves_34, s_Mo_moves_36, s_Mo_moves_37, s_Mo_moves_38, s_Mo_moves_39, s_Mo_moves_41, s_Mo_moves_42, s_Mo_moves_45, s_Mo_moves_47, s_Mo_moves_48, s_Mo_moves_49, s_Mo_moves_50, s_Mo_moves_51, s_Mo_moves_53, s_Mo_moves_55, s_Mo_moves_56, xg_0, xg_s, xF_up, xPf_up, xO_up, xAi_up, xAl_up, xLn_up, xup_xup, ty_i, ty_b, ty_z, ty_l, ty_q, tb_b, tb_z, xup_2, xpI_s, xpL_s, xpV_s, xpQ_n, xpQ_r, yl_0, yl_1, yl_2, yl_3, yl_4, yl_5, yl_6, xcs_nil, xcs_i, xcs_a, xcs_l, xcs_n, xNl_z, xNl_s, xNl_i, xNl_a, xNl_n, xNl_d, cat_i, cat_a, cat_n, List.getElem?_cons_zero, List.getElem?_cons_succ, List.set_cons_zero, List.set_cons_succ, List.length_cons, List.length_nil, true_and, and_true, eq_self, ite_true, ite_false, if_true, if_false, or_true, true_or, or_false, false_or, Nat.reduceAdd, Nat.reduceLT, Nat.reduceLeDiff, Nat.reduceEqDiff, Nat.reduceSub, ↓reduceIte, reduceCtorEq, not_false_eq_true, not_true_eq_false, false_implies, true_implies, forall_const, imp_self, implies_true, Nat.add_left_cancel_iff, Nat.left_eq_add, Nat.add_eq_left, Nat.zero_lt_succ, Nat.lt_add_left_iff_pos, one_ne_zero_n, zero_ne_one_n, zero_ne_one_i, one_ne_zero_i, le0n2]
      exact hK2 z z2 hq y ha1 hM
    · try simp only [s_Mo_moves_0, s_Mo_moves_1, s_Mo_moves_2, s_Mo_moves_5, s_Mo_moves_6, s_Mo_moves_7, s_Mo_moves_10, s_Mo_moves_11, s_Mo_moves_12, s_Mo_moves_15, s_Mo_moves_16, s_Mo_moves_17, s_Mo_moves_20, s_Mo_moves_21, s_Mo_moves_22, s_Mo_moves_23, s_Mo_moves_24, s_Mo_moves_27, s_Mo_moves_30, s_Mo_moves_31, s_Mo_moves_34, s_Mo_moves_36, s_Mo_moves_37, s_Mo_moves_38, s_Mo_moves_39, s_Mo_moves_41, s_Mo_moves_42, s_Mo_moves_45, s_Mo_moves_47, s_Mo_moves_48, s_Mo_moves_49, s_Mo_moves_50, s_Mo_moves_51, s_Mo_moves_53, s_Mo_moves_55, s_Mo_moves_56, xg_0, xg_s, xF_up, xPf_up, xO_up, xAi_up, xAl_up, xLn_up, xup_xup, ty_i, ty_b, ty_z, ty_l, ty_q, tb_b, tb_z, xup_2, xpI_s, xpL_s, xpV_s, xpQ_n, xpQ_r, yl_0, yl_1, yl_2, yl_3, yl_4, yl_5, yl_6, xcs_nil, xcs_i, xcs_a, xcs_l, xcs_n, xNl_z, xNl_s, xNl_i, xNl_a, xNl_n, xNl_d, cat_i, cat_a, cat_n, List.getElem?_cons_zero, List.getElem?_cons_succ, List.set_cons_zero, List.set_cons_succ, List.length_cons, List.length_nil, true_and, and_true, eq_self, ite_true, ite_false, if_true, if_false, or_true, true_or, or_false, false_or, Nat.reduceAdd, Nat.reduceLT, Nat.reduceLeDiff, Nat.reduceEqDiff, Nat.reduceSub, ↓reduceIte, reduceCtorEq, not_false_eq_true, not_true_eq_false, false_implies, true_implies, forall_const, imp_self, implies_true, Nat.add_left_cancel_iff, Nat.left_eq_add, Nat.add_eq_left, Nat.zero_lt_succ, Nat.lt_add_left_iff_pos, one_ne_zero_n, zero_ne_one_n, zero_ne_one_i, one_ne_zero_i, xF_r o1, xPf_r o1, xO_r o1, le00]
      refine m_remember hM (Or.inl rfl) hM.nw h7 hr7 fun hr y2 ha2 hp2 _ => ?_
      have k3 := hK3 z z2
      obtain ⟨i, hi, rfl⟩ := yhas_of (by omega) (fun e => z (Or.inl e))
      rw [yat_nI (show i < 7 by omega) y7', yput_nI (show i < 7 by omega) y7'] at k3
      have hM2 := hp2 s.now (fkE_rf _)
      obtain ⟨rd2, le2, tp2, at22, wr2, p1⟩ := isO_raw hM2.me.1
      obtain ⟨g, hg, hgk⟩ := id hM2.nw
      have ei : (7 : Int32) + nI i = nI (7 + i) := nI_ad 7 i
      obtain ⟨v1, v2⟩ := ix7 (show i < 7 by omega) 7 (by decide)
      have v3 : g (7 + i) = s.now.P i := (hgk.1 i hi).2.1
      try simp only [s_Mo_moves_0, s_Mo_moves_1, s_Mo_moves_2, s_Mo_moves_5, s_Mo_moves_6, s_Mo_moves_7, s_Mo_moves_10, s_Mo_moves_11, s_Mo_moves_12, s_Mo_moves_15, s_Mo_moves_16, s_Mo_moves_17, s_Mo_moves_20, s_Mo_moves_21, s_Mo_moves_22, s_Mo_moves_23, s_Mo_moves_24, s_Mo_moves_27, s_Mo_moves_30, s_Mo_moves_31, s_Mo_moves_34, s_Mo_moves_36, s_Mo_moves_37, s_Mo_moves_38, s_Mo_moves_39, s_Mo_moves_41, s_Mo_moves_42, s_Mo_moves_45, s_Mo_moves_47, s_Mo_moves_48, s_Mo_moves_49, s_Mo_moves_50, s_Mo_moves_51, s_Mo_moves_53, s_Mo_moves_55, s_Mo_moves_56, xg_0, xg_s, xF_up, xPf_up, xO_up, xAi_up, xAl_up, xLn_up, xup_xup, ty_i, ty_b, ty_z, ty_l, ty_q, tb_b, tb_z, xup_2, xpI_s, xpL_s, xpV_s, xpQ_n, xpQ_r, yl_0, yl_1, yl_2, yl_3, yl_4, yl_5, yl_6, xcs_nil, xcs_i, xcs_a, xcs_l, xcs_n, xNl_z, xNl_s, xNl_i, xNl_a, xNl_n, xNl_d, cat_i, cat_a, cat_n, List.getElem?_cons_zero, List.getElem?_cons_succ, List.set_cons_zero, List.set_cons_succ, List.length_cons, List.length_nil, true_and, and_true, eq_self, ite_true, ite_false, if_true, if_false, or_true, true_or, or_false, false_or, Nat.reduceAdd, Nat.reduceLT, Nat.reduceLeDiff, Nat.reduceEqDiff, Nat.reduceSub, ↓reduceIte, reduceCtorEq, not_false_eq_true, not_true_eq_false, false_implies, true_implies, forall_const, imp_self, implies_true, Nat.add_left_cancel_iff, Nat.left_eq_add, Nat.add_eq_left, Nat.zero_lt_succ, Nat.lt_add_left_iff_pos, one_ne_zero_n, zero_ne_one_n, zero_ne_one_i, one_ne_zero_i, xF_r p1, xPf_r p1, xO_r p1, xAi_r hg, xLn_r hg, ei, v1, v2, v3, xup_s]
      have hv : xAg hr (xup hr 104 (.inl (.int, 22, .inl (upd g (7 + i) spot)))) [104] := xAg_up (xAg_rf _ _) (by simp)
      exact k3 _ y2 (xAg_tr (xAg_tr ha1 ha2 (by decide)) hv (by decide)) fun q he => isMM_now (hp2 q he) hv (isMk_P xup_s hgk hi h7) rfl
  refine xMC_V ok_Mo_moves (by decide) (L0 := [.ref 103, .int one, .int spot, .retAddr 0, .retAddr 0]) rfl rfl ?_
  try simp only [s_Mo_moves_0, s_Mo_moves_1, s_Mo_moves_2, s_Mo_moves_6, s_Mo_moves_7, s_Mo_moves_10, s_Mo_moves_11, s_Mo_moves_12, s_Mo_moves_15, s_Mo_moves_16, s_Mo_moves_17, s_Mo_moves_20, s_Mo_moves_21, s_Mo_moves_22, s_Mo_moves_23, s_Mo_moves_24, s_Mo_moves_27, s_Mo_moves_30, s_Mo_moves_31, s_Mo_moves_34, s_Mo_moves_36, s_Mo_moves_37, s_Mo_moves_38, s_Mo_moves_39, s_Mo_moves_41, s_Mo_moves_42, s_Mo_moves_45, s_Mo_moves_47, s_Mo_moves_48, s_Mo_moves_49, s_Mo_moves_50, s_Mo_moves_51, s_Mo_moves_53, s_Mo_moves_55, s_Mo_moves_56, xg_0, xg_s, xF_up, xPf_up, xO_up, xAi_up, xAl_up, xLn_up, xup_xup, ty_i, ty_b, ty_z, ty_l, ty_q, tb_b, tb_z, xup_2, xpI_s, xpL_s, xpV_s, xpQ_n, xpQ_r, yl_0, yl_1, yl_2, yl_3, yl_4, yl_5, yl_6, xcs_nil, xcs_i, xcs_a, xcs_l, xcs_n, xNl_z, xNl_s, xNl_i, xNl_a, xNl_n, xNl_d, cat_i, cat_a, cat_n, List.getElem?_cons_zero, List.getElem?_cons_succ, List.set_cons_zero, List.set_cons_succ, List.length_cons, List.length_nil, true_and, and_true, eq_self, ite_true, ite_false, if_true, if_false, or_true, true_or, or_false, false_or, Nat.reduceAdd, Nat.reduceLT, Nat.reduceLeDiff, Nat.reduceEqDiff, Nat.reduceSub, ↓reduceIte, reduceCtorEq, not_false_eq_true, not_true_eq_false, false_implies, true_implies, forall_const, imp_self, implies_true, Nat.add_left_cancel_iff, Nat.left_eq_add, Nat.add_eq_left, Nat.zero_lt_succ, Nat.lt_add_left_iff_pos, one_ne_zero_n, zero_ne_one_n, zero_ne_one_i, one_ne_zero_i, xF_r o1, xPf_r o1, xO_r o1]
  obtain ⟨y, ha, hM, hth⟩ := isMM_th (rd := rd) (le := le) (tp := tp) (at2 := at2) (wr := wr) h
  exact hgo _ y ha hM hth
theorem m_refusesSwap {K : Int32 → xHp → Prop} (h : isMM hp x s)
    (hK1 : yhas one (nI s.now.n) = 0 ∨ yhas other (nI s.now.n) = 0 ∨ one = other → K (-1) hp)
    (hK2 : ¬ (yhas one (nI s.now.n) = 0 ∨ yhas other (nI s.now.n) = 0 ∨ one = other) → yat 7 s.now.P one = yat 7 s.now.P other → K (-2) hp)
    (hK3 : ¬ (yhas one (nI s.now.n) = 0 ∨ yhas other (nI s.now.n) = 0 ∨ one = other) → ¬ yat 7 s.now.P one = yat 7 s.now.P other → K 0 hp) : xMi l (d + 3) b lo gz m_Mo_refusesSwap [.ref 103, .int one, .int other] hp K := by
  have h7 := h.me.2.1.2
  obtain ⟨rd, le, tp, at2, wr, o1⟩ := isO_raw h.me.1
  obtain ⟨g, hg, hgk, hd⟩ := id h.nw
  refine xMC_V ok_Mo_refusesSwap (by decide) (L0 := [.ref 103, .int one, .int other]) rfl rfl ?_
  try simp only [s_Mo_refusesSwap_0, s_Mo_refusesSwap_1, s_Mo_refusesSwap_2, s_Mo_refusesSwap_3, s_Mo_refusesSwap_6, s_Mo_refusesSwap_9, s_Mo_refusesSwap_10, s_Mo_refusesSwap_11, s_Mo_refusesSwap_12, s_Mo_refusesSwap_15, s_Mo_refusesSwap_17, s_Mo_refusesSwap_18, s_Mo_refusesSwap_19, s_Mo_refusesSwap_20, s_Mo_refusesSwap_21, s_Mo_refusesSwap_24, s_Mo_refusesSwap_26, s_Mo_refusesSwap_27, s_Mo_refusesSwap_28, s_Mo_refusesSwap_29, s_Mo_refusesSwap_32, s_Mo_refusesSwap_34, s_Mo_refusesSwap_37, s_Mo_refusesSwap_38, xg_0, xg_s, xF_up, xPf_up, xO_up, xAi_up, xAl_up, xLn_up, xup_xup, ty_i, ty_b, ty_z, ty_l, ty_q, tb_b, tb_z, xup_2, xpI_s, xpL_s, xpV_s, xpQ_n, xpQ_r, yl_0, yl_1, yl_2, yl_3, yl_4, yl_5, yl_6, xcs_nil, xcs_i, xcs_a, xcs_l, xcs_n, xNl_z, xNl_s, xNl_i, xNl_a, xNl_n, xNl_d, cat_i, cat_a, cat_n, List.getElem?_cons_zero, List.getElem?_cons_succ, List.set_cons_zero, List.set_cons_succ, List.length_cons, List.length_nil, true_and, and_true, eq_self, ite_true, ite_false, if_true, if_false, or_true, true_or, or_false, false_or, Nat.reduceAdd, Nat.reduceLT, Nat.reduceLeDiff, Nat.reduceEqDiff, Nat.reduceSub, ↓reduceIte, reduceCtorEq, not_false_eq_true, not_true_eq_false, false_implies, true_implies, forall_const, imp_self, implies_true, Nat.add_left_cancel_iff, Nat.left_eq_add, Nat.add_eq_left, Nat.zero_lt_succ, Nat.lt_add_left_iff_pos, one_ne_zero_n, zero_ne_one_n, zero_ne_one_i, one_ne_zero_i, xF_r o1, xPf_r o1, xO_r o1]
  refine m_areTwo h.me.1 h.me.2.1.1 (by omega) (fun z => ?_) (fun z => ?_)
  · try simp only [s_Mo_refusesSwap_0, s_Mo_refusesSwap_1, s_Mo_refusesSwap_2, s_Mo_refusesSwap_3, s_Mo_refusesSwap_6, s_Mo_refusesSwap_9, s_Mo_refusesSwap_10, s_Mo_refusesSwap_11, s_Mo_refusesSwap_12, s_Mo_refusesSwap_15, s_Mo_refusesSwap_17, s_Mo_refusesSwap_18, s_Mo_refusesSwap_19, s_Mo_refusesSwap_20, s_Mo_refusesSwap_21, s_Mo_refusesSwap_24, s_Mo_refusesSwap_26, s_Mo_refusesSwap_27, s_Mo_refusesSwap_28, s_Mo_refusesSwap_29, s_Mo_refusesSwap_32, s_Mo_refusesSwap_34, s_Mo_refusesSwap_37, s_Mo_refusesSwap_38, xg_0, xg_s, xF_up, xPf_up, xO_up, xAi_up, xAl_up, xLn_up, xup_xup, ty_i, ty_b, ty_z, ty_l, ty_q, tb_b, tb_z, xup_2, xpI_s, xpL_s, xpV_s, xpQ_n, xpQ_r, yl_0, yl_1, yl_2, yl_3, yl_4, yl_5, yl_6, xcs_nil, xcs_i, xcs_a, xcs_l, xcs_n, xNl_z, xNl_s, xNl_i, xNl_a, xNl_n, xNl_d, cat_i, cat_a, cat_n, List.getElem?_cons_zero, List.getElem?_cons_succ, List.set_cons_zero, List.set_cons_succ, List.length_cons, List.length_nil, true_and, and_true, eq_self, ite_true, ite_false, if_true, if_false, or_true, true_or, or_false, false_or, Nat.reduceAdd, Nat.reduceLT, Nat.reduceLeDiff, Nat.reduceEqDiff, Nat.reduceSub, ↓reduceIte, reduceCtorEq, not_false_eq_true, not_true_eq_false, false_implies, true_implies, forall_const, imp_self, implies_true, Nat.add_left_cancel_iff, Nat.left_eq_add, Nat.add_eq_left, Nat.zero_lt_succ, Nat.lt_add_left_iff_pos, one_ne_zero_n, zero_ne_one_n, zero_ne_one_i, one_ne_zero_i]
    exact hK1 z
  · have k2 := hK2 z
    have k3 := hK3 z
    obtain ⟨i, hi, rfl⟩ := yhas_of (by omega) (fun e => z (Or.inl e))
    obtain ⟨j, hj, rfl⟩ := yhas_of (by omega) (fun e => z (Or.inr (Or.inl e)))
    rw [yat_nI (show i < 7 by omega) y7', yat_nI (show j < 7 by omega) y7'] at k2 k3
    have ei : (7 : Int32) + nI i = nI (7 + i) := nI_ad 7 i
    have ej : (7 : Int32) + nI j = nI (7 + j) := nI_ad 7 j
    obtain ⟨v1, v2⟩ := ix7 (show i < 7 by omega) 7 (by decide)
    obtain ⟨w1, w2⟩ := ix7 (show j < 7 by omega) 7 (by decide)
    have v3 := (hgk i hi).2.1
    have w3 := (hgk j hj).2.1
    by_cases z3 : s.now.P i = s.now.P j
    · have k4 := k2 z3
      try simp only [s_Mo_refusesSwap_0, s_Mo_refusesSwap_1, s_Mo_refusesSwap_2, s_Mo_refusesSwap_3, s_Mo_refusesSwap_6, s_Mo_refusesSwap_9, s_Mo_refusesSwap_10, s_Mo_refusesSwap_11, s_Mo_refusesSwap_12, s_Mo_refusesSwap_15, s_Mo_refusesSwap_17, s_Mo_refusesSwap_18, s_Mo_refusesSwap_19, s_Mo_refusesSwap_20, s_Mo_refusesSwap_21, s_Mo_refusesSwap_24, s_Mo_refusesSwap_26, s_Mo_refusesSwap_27, s_Mo_refusesSwap_28, s_Mo_refusesSwap_29, s_Mo_refusesSwap_32, s_Mo_refusesSwap_34, s_Mo_refusesSwap_37, s_Mo_refusesSwap_38, xg_0, xg_s, xF_up, xPf_up, xO_up, xAi_up, xAl_up, xLn_up, xup_xup, ty_i, ty_b, ty_z, ty_l, ty_q, tb_b, tb_z, xup_2, xpI_s, xpL_s, xpV_s, xpQ_n, xpQ_r, yl_0, yl_1, yl_2, yl_3, yl_4, yl_5, yl_6, xcs_nil, xcs_i, xcs_a, xcs_l, xcs_n, xNl_z, xNl_s, xNl_i, xNl_a, xNl_n, xNl_d, cat_i, cat_a, cat_n, List.getElem?_cons_zero, List.getElem?_cons_succ, List.set_cons_zero, List.set_cons_succ, List.length_cons, List.length_nil, true_and, and_true, eq_self, ite_true, ite_false, if_true, if_false, or_true, true_or, or_false, false_or, Nat.reduceAdd, Nat.reduceLT, Nat.reduceLeDiff, Nat.reduceEqDiff, Nat.reduceSub, ↓reduceIte, reduceCtorEq, not_false_eq_true, not_true_eq_false, false_implies, true_implies, forall_const, imp_self, implies_true, Nat.add_left_cancel_iff, Nat.left_eq_add, Nat.add_eq_left, Nat.zero_lt_succ, Nat.lt_add_left_iff_pos, one_ne_zero_n, zero_ne_one_n, zero_ne_one_i, one_ne_zero_i, xF_r o1, xPf_r o1, xO_r o1, xAi_r hg, xLn_r hg, ei, ej, v1, v2, w1, w2, v3, w3, z3]
      exact k4
    · have k4 := k3 z3
      try simp only [s_Mo_refusesSwap_0, s_Mo_refusesSwap_1, s_Mo_refusesSwap_2, s_Mo_refusesSwap_3, s_Mo_refusesSwap_6, s_Mo_refusesSwap_9, s_Mo_refusesSwap_10, s_Mo_refusesSwap_11, s_Mo_refusesSwap_12, s_Mo_refusesSwap_15, s_Mo_refusesSwap_17, s_Mo_refusesSwap_18, s_Mo_refusesSwap_19, s_Mo_refusesSwap_20, s_Mo_refusesSwap_21, s_Mo_refusesSwap_24, s_Mo_refusesSwap_26, s_Mo_refusesSwap_27, s_Mo_refusesSwap_28, s_Mo_refusesSwap_29, s_Mo_refusesSwap_32, s_Mo_refusesSwap_34, s_Mo_refusesSwap_37, s_Mo_refusesSwap_38, xg_0, xg_s, xF_up, xPf_up, xO_up, xAi_up, xAl_up, xLn_up, xup_xup, ty_i, ty_b, ty_z, ty_l, ty_q, tb_b, tb_z, xup_2, xpI_s, xpL_s, xpV_s, xpQ_n, xpQ_r, yl_0, yl_1, yl_2, yl_3, yl_4, yl_5, yl_6, xcs_nil, xcs_i, xcs_a, xcs_l, xcs_n, xNl_z, xNl_s, xNl_i, xNl_a, xNl_n, xNl_d, cat_i, cat_a, cat_n, List.getElem?_cons_zero, List.getElem?_cons_succ, List.set_cons_zero, List.set_cons_succ, List.length_cons, List.length_nil, true_and, and_true, eq_self, ite_true, ite_false, if_true, if_false, or_true, true_or, or_false, false_or, Nat.reduceAdd, Nat.reduceLT, Nat.reduceLeDiff, Nat.reduceEqDiff, Nat.reduceSub, ↓reduceIte, reduceCtorEq, not_false_eq_true, not_true_eq_false, false_implies, true_implies, forall_const, imp_self, implies_true, Nat.add_left_cancel_iff, Nat.left_eq_add, Nat.add_eq_left, Nat.zero_lt_succ, Nat.lt_add_left_iff_pos, one_ne_zero_n, zero_ne_one_n, zero_ne_one_i, one_ne_zero_i, xF_r o1, xPf_r o1, xO_r o1, xAi_r hg, xLn_r hg, ei, ej, v1, v2, w1, w2, v3, w3, z3]
      exact k4
theorem isMk_PP {j : Nat} (hg : hp.1 a = .inl (.int, 22, .inl (upd (upd g (7 + i) (q.P j)) (7 + j) (q.P i)))) (hgk : (∀ j, j < q.n → g j = q.A j ∧ g (7 + j) = q.P j ∧ g (14 + j) = q.S j) ∧ g 21 = q.day) (hi : i < q.n) (hj : j < q.n) (h7 : q.n ≤ 7) : isMk hp a (q.A, upd (upd q.P i (q.P j)) j (q.P i), q.S, q.n, q.day) := by
  have hu : (∀ k, k < q.n → upd g (7 + i) (q.P j) k = q.A k ∧ upd g (7 + i) (q.P j) (7 + k) = upd q.P i (q.P j) k ∧ upd g (7 + i) (q.P j) (14 + k) = q.S k) ∧ upd g (7 + i) (q.P j) 21 = q.day := by
    obtain ⟨g2, e, h1⟩ := isMk_P (hp := xup hp a (.inl (.int, 22, .inl (upd g (7 + i) (q.P j))))) (a := a) (q := q) xup_s hgk hi h7
    rw [xup_s] at e
    cases e
    exact h1
  exact isMk_P (q := (q.A, upd q.P i (q.P j), q.S, q.n, q.day)) hg hu hj h7
theorem m_goSwap {K : xHp → Prop} {j : Nat} (h : isMM hp x s) (hi : i < s.now.n) (hj : j < s.now.n) (hK : ∀ hq, xAg hp hq [104] → isMk hq 104 (s.now.A, upd (upd s.now.P i (s.now.P j)) j (s.now.P i), s.now.S, s.now.n, s.now.day) → K hq) : xMv l d b lo gz m_Mo_goSwap [.ref 103, .int (nI i), .int (nI j)] hp K := by
  have h7 := h.me.2.1.2
  obtain ⟨rd, le, tp, at2, wr, o1⟩ := isO_raw h.me.1
  obtain ⟨g, hg, hgk⟩ := id h.nw
  have ei : (7 : Int32) + nI i = nI (7 + i) := nI_ad 7 i
  have ej : (7 : Int32) + nI j = nI (7 + j) := nI_ad 7 j
  obtain ⟨v1, v2⟩ := ix7 (show i < 7 by omega) 7 (by decide)
  obtain ⟨w1, w2⟩ := ix7 (show j < 7 by omega) 7 (by decide)
  have v3 := (hgk.1 i hi).2.1
  have w3 := (hgk.1 j hj).2.1
  refine xMC_V ok_Mo_goSwap (by decide) (L0 := [.ref 103, .int (nI i), .int (nI j), .retAddr 0]) rfl rfl ?_
  try simp only [s_Mo_goSwap_0, s_Mo_goSwap_1, s_Mo_goSwap_4, s_Mo_goSwap_6, s_Mo_goSwap_7, s_Mo_goSwap_8, s_Mo_goSwap_9, s_Mo_goSwap_10, s_Mo_goSwap_11, s_Mo_goSwap_14, s_Mo_goSwap_16, s_Mo_goSwap_17, s_Mo_goSwap_18, s_Mo_goSwap_19, s_Mo_goSwap_22, s_Mo_goSwap_24, s_Mo_goSwap_25, s_Mo_goSwap_26, s_Mo_goSwap_27, s_Mo_goSwap_28, s_Mo_goSwap_29, s_Mo_goSwap_32, s_Mo_goSwap_34, s_Mo_goSwap_35, s_Mo_goSwap_36, s_Mo_goSwap_37, s_Mo_goSwap_38, xg_0, xg_s, xF_up, xPf_up, xO_up, xAi_up, xAl_up, xLn_up, xup_xup, ty_i, ty_b, ty_z, ty_l, ty_q, tb_b, tb_z, xup_2, xpI_s, xpL_s, xpV_s, xpQ_n, xpQ_r, yl_0, yl_1, yl_2, yl_3, yl_4, yl_5, yl_6, xcs_nil, xcs_i, xcs_a, xcs_l, xcs_n, xNl_z, xNl_s, xNl_i, xNl_a, xNl_n, xNl_d, cat_i, cat_a, cat_n, List.getElem?_cons_zero, List.getElem?_cons_succ, List.set_cons_zero, List.set_cons_succ, List.length_cons, List.length_nil, true_and, and_true, eq_self, ite_true, ite_false, if_true, if_false, or_true, true_or, or_false, false_or, Nat.reduceAdd, Nat.reduceLT, Nat.reduceLeDiff, Nat.reduceEqDiff, Nat.reduceSub, ↓reduceIte, reduceCtorEq, not_false_eq_true, not_true_eq_false, false_implies, true_implies, forall_const, imp_self, implies_true, Nat.add_left_cancel_iff, Nat.left_eq_add, Nat.add_eq_left, Nat.zero_lt_succ, Nat.lt_add_left_iff_pos, one_ne_zero_n, zero_ne_one_n, zero_ne_one_i, one_ne_zero_i, xF_r o1, xPf_r o1, xO_r o1, xAi_r hg, xLn_r hg, ei, ej, v1, v2, w1, w2, v3, w3, xup_s, show ((103 : Nat) = 104) = False by decide]
  exact hK _ (xAg_up (xAg_rf _ _) (by simp)) (isMk_PP xup_s hgk hi hj h7)
end MO11
