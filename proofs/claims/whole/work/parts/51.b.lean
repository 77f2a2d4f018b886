/-! ===== calls: who is there, what is kept ===== -/
def fkc (q r : Fk) : Fk := (fcp q.A r.A r.n, fcp q.P r.P r.n, fcp q.S r.S r.n, r.n, r.day)
def updF (g : Nat → Fk) (k : Nat) (q : Fk) : Nat → Fk := fun i => if i = k then q else g i
def St.push (s : St) (q : Fk) : St := s.wPast (updF s.ring s.nx (fkc (s.ring s.nx) q)) (if s.nx + 1 < 12 then s.nx + 1 else 0) (if s.ac + 1 ≤ 12 then s.ac + 1 else 12)
section SO2
variable {l : Launch} {d b lo gz : Nat} {hp : xHp} {s : St} {q : Fk} {v n one x : Int32}
theorem c_So_has {K : Int32 → xHp → Prop} (h : isCl hp s) (hK : K (yhas one (nI s.now.n)) hp) : xMi l (d + 1) b lo gz m_So_has [.ref 0, .int one] hp K := by
  obtain ⟨lot, o0⟩ := h.so
  have o1 : hp.1 0 = _ := o0
  have t0 := h.nw.1.1
  unfold yhas at hK
  refine xMC_V ok_So_has (by decide) (L0 := [.ref 0, .int one]) rfl rfl ?_
  simp only [s_So_has_0, s_So_has_1, s_So_has_4, s_So_has_5, s_So_has_6, s_So_has_9, s_So_has_12, s_So_has_15, s_So_has_16, s_So_has_19, s_So_has_20, xg_0, xg_s, xF_up, xPf_up, xO_up, xAi_up, xAl_up, xLn_up, xup_xup, ty_i, ty_b, ty_z, ty_l, ty_q, tb_b, tb_z, xup_2, xpI_s, xpL_s, xpV_s, xpQ_n, xpQ_r, yl_0, yl_1, yl_2, yl_3, yl_4, yl_5, yl_6, xcs_nil, xcs_i, xcs_a, xcs_l, xcs_n, xNl_z, xNl_s, xNl_i, xNl_a, xNl_n, xNl_d, cat_i, cat_a, cat_n, List.getElem?_cons_zero, List.getElem?_cons_succ, List.set_cons_zero, List.set_cons_succ, List.length_cons, List.length_nil, true_and, and_true, eq_self, ite_true, ite_false, if_true, if_false, or_true, true_or, or_false, false_or, Nat.reduceAdd, Nat.reduceLT, Nat.reduceLeDiff, Nat.reduceEqDiff, Nat.reduceSub, ↓reduceIte, reduceCtorEq, not_false_eq_true, not_true_eq_false, false_implies, true_implies, forall_const, imp_self, implies_true, Nat.add_left_cancel_iff, Nat.left_eq_add, Nat.add_eq_left, Nat.zero_lt_succ, Nat.lt_add_left_iff_pos, one_ne_zero_n, zero_ne_one_n, zero_ne_one_i, one_ne_zero_i, xF_r o1, xPf_r o1, xO_r o1, xF_r t0, xPf_r t0, xO_r t0]
  refine ⟨fun zz1 => ?_, fun zz1 => c_Folk_size h.nw.1 ?_⟩
  · rw [if_pos zz1] at hK; exact hK
  · rw [if_neg zz1] at hK
    try simp only [s_So_has_0, s_So_has_1, s_So_has_4, s_So_has_5, s_So_has_6, s_So_has_9, s_So_has_12, s_So_has_15, s_So_has_16, s_So_has_19, s_So_has_20, xg_0, xg_s, xF_up, xPf_up, xO_up, xAi_up, xAl_up, xLn_up, xup_xup, ty_i, ty_b, ty_z, ty_l, ty_q, tb_b, tb_z, xup_2, xpI_s, xpL_s, xpV_s, xpQ_n, xpQ_r, yl_0, yl_1, yl_2, yl_3, yl_4, yl_5, yl_6, xcs_nil, xcs_i, xcs_a, xcs_l, xcs_n, xNl_z, xNl_s, xNl_i, xNl_a, xNl_n, xNl_d, cat_i, cat_a, cat_n, List.getElem?_cons_zero, List.getElem?_cons_succ, List.set_cons_zero, List.set_cons_succ, List.length_cons, List.length_nil, true_and, and_true, eq_self, ite_true, ite_false, if_true, if_false, or_true, true_or, or_false, false_or, Nat.reduceAdd, Nat.reduceLT, Nat.reduceLeDiff, Nat.reduceEqDiff, Nat.reduceSub, ↓reduceIte, reduceCtorEq, not_false_eq_true, not_true_eq_false, false_implies, true_implies, forall_const, imp_self, implies_true, Nat.add_left_cancel_iff, Nat.left_eq_add, Nat.add_eq_left, Nat.zero_lt_succ, Nat.lt_add_left_iff_pos, one_ne_zero_n, zero_ne_one_n, zero_ne_one_i, one_ne_zero_i]
    refine ⟨fun zz2 => ?_, fun zz2 => ?_⟩
    · rw [if_pos zz2] at hK; exact hK
    · rw [if_neg zz2] at hK; exact hK
theorem c_So_done {K : Int32 → xHp → Prop} (h : isCl hp s) (hb : isFk hp 24 q)
    (hK0 : x < 0 → K x hp)
    (hK : ¬ x < 0 → ∀ hq, xAg hp hq (List.range 103) → isCl hq (s.push q) → K x hq) : xMi l (d + 3) b lo gz m_So_done [.ref 0, .int x] hp K := by
  obtain ⟨lot, o0⟩ := h.so
  have o1 : hp.1 0 = _ := o0
  have t0 := h.pa.1.1
  have hnx := h.pa.2.1
  refine xMC_V ok_So_done (by decide) (L0 := [.ref 0, .int x]) rfl rfl ?_
  simp only [s_So_done_0, s_So_done_1, s_So_done_4, s_So_done_5, s_So_done_8, s_So_done_9, s_So_done_12, s_So_done_15, s_So_done_16, xg_0, xg_s, xF_up, xPf_up, xO_up, xAi_up, xAl_up, xLn_up, xup_xup, ty_i, ty_b, ty_z, ty_l, ty_q, tb_b, tb_z, xup_2, xpI_s, xpL_s, xpV_s, xpQ_n, xpQ_r, yl_0, yl_1, yl_2, yl_3, yl_4, yl_5, yl_6, xcs_nil, xcs_i, xcs_a, xcs_l, xcs_n, xNl_z, xNl_s, xNl_i, xNl_a, xNl_n, xNl_d, cat_i, cat_a, cat_n, List.getElem?_cons_zero, List.getElem?_cons_succ, List.set_cons_zero, List.set_cons_succ, List.length_cons, List.length_nil, true_and, and_true, eq_self, ite_true, ite_false, if_true, if_false, or_true, true_or, or_false, false_or, Nat.reduceAdd, Nat.reduceLT, Nat.reduceLeDiff, Nat.reduceEqDiff, Nat.reduceSub, ↓reduceIte, reduceCtorEq, not_false_eq_true, not_true_eq_false, false_implies, true_implies, forall_const, imp_self, implies_true, Nat.add_left_cancel_iff, Nat.left_eq_add, Nat.add_eq_left, Nat.zero_lt_succ, Nat.lt_add_left_iff_pos, one_ne_zero_n, zero_ne_one_n, zero_ne_one_i, one_ne_zero_i, xF_r o1, xPf_r o1, xO_r o1, xF_r t0, xPf_r t0, xO_r t0]
  refine ⟨fun zz => hK0 zz, fun zz => ?_⟩
  refine c_Past_push h.pa.1 hnx h.pa.2.2 (h.rg s.nx hnx).1 hb.1 (by omega) rfl hb.2 fun hq ha hs hP => ?_
  try simp only [s_So_done_0, s_So_done_1, s_So_done_4, s_So_done_5, s_So_done_8, s_So_done_9, s_So_done_12, s_So_done_15, s_So_done_16, xg_0, xg_s, xF_up, xPf_up, xO_up, xAi_up, xAl_up, xLn_up, xup_xup, ty_i, ty_b, ty_z, ty_l, ty_q, tb_b, tb_z, xup_2, xpI_s, xpL_s, xpV_s, xpQ_n, xpQ_r, yl_0, yl_1, yl_2, yl_3, yl_4, yl_5, yl_6, xcs_nil, xcs_i, xcs_a, xcs_l, xcs_n, xNl_z, xNl_s, xNl_i, xNl_a, xNl_n, xNl_d, cat_i, cat_a, cat_n, List.getElem?_cons_zero, List.getElem?_cons_succ, List.set_cons_zero, List.set_cons_succ, List.length_cons, List.length_nil, true_and, and_true, eq_self, ite_true, ite_false, if_true, if_false, or_true, true_or, or_false, false_or, Nat.reduceAdd, Nat.reduceLT, Nat.reduceLeDiff, Nat.reduceEqDiff, Nat.reduceSub, ↓reduceIte, reduceCtorEq, not_false_eq_true, not_true_eq_false, false_implies, true_implies, forall_const, imp_self, implies_true, Nat.add_left_cancel_iff, Nat.left_eq_add, Nat.add_eq_left, Nat.zero_lt_succ, Nat.lt_add_left_iff_pos, one_ne_zero_n, zero_ne_one_n, zero_ne_one_i, one_ne_zero_i]
  have ha2 : xAg hp hq (List.range 103) := xAg_tr (xAg_rf _ _) ha (by simp <;> omega)
  refine hK zz hq ha2 (isCl_mk (so_ag ha (by simp <;> omega) h.so) (tx_ag ha (by simp <;> omega) h.tx) (rw_ag ha (by simp <;> omega) h.rw) (isEnv_ag ha (by simp <;> omega) h.ev) (pr_ag ha (by simp <;> omega) h.pr) (isFk_ag ha (by simp <;> omega) h.nw) (fk_ag ha (by simp <;> omega) h.th) (fk_ag ha (by simp <;> omega) h.be) (⟨hP, by show (if s.nx + 1 < 12 then s.nx + 1 else 0) < 12; split <;> omega, by show (if s.ac + 1 ≤ 12 then s.ac + 1 else 12) ≤ 12; split <;> omega⟩) (fun i hi => ?_) (sh_ag ha (by simp <;> omega) h.sh) (cl_ag ha (by simp <;> omega) h.se) (cl_ag ha (by simp <;> omega) h.ru) (wk_ag ha (by simp <;> omega) h.wk) (rm_ag ha (by simp <;> omega) h.rm) (ch_ag ha (by simp <;> omega) h.ch) (ta_ag ha (by simp <;> omega) h.ta))
  show isFk hq (32 + 4 * i) (updF s.ring s.nx (fkc (s.ring s.nx) q) i)
  unfold updF
  by_cases e : i = s.nx
  · rw [if_pos e, e]
    exact ⟨hs, hb.2⟩
  · rw [if_neg e]
    exact isFk_ag ha (by simp <;> omega) (h.rg i hi)
end SO2
