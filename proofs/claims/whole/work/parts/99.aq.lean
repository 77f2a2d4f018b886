/-! ===== the model's calls: rooms, cellars (2) ===== -/
def hlZ (s : St) (o p : Nat) : Int := (hal s.V s.lg s.sk s.now.A s.tu s.now.day o p).toInt
theorem hlZ_bd (s : St) (o p : Nat) : 0 ≤ hlZ s o p ∧ hlZ s o p ≤ 9 := by
  obtain ⟨x, hx, e⟩ := ywith09 (s.V (ylet (yat 6 s.lg (nI p)) (ysky s.sk s.tu s.now.day) (ymod (yat 7 s.now.A (nI o)) 10) 0 (nI p) (nI o) (ymod s.now.day 7)))
  have e2 : hal s.V s.lg s.sk s.now.A s.tu s.now.day o p = nI x := e
  unfold hlZ
  rw [e2, nI_toInt (by omega)]
  omega
theorem hlZ_hh (s : St) (o p : Nat) : hal s.V s.lg s.sk s.now.A s.tu s.now.day o p = iI (hlZ s o p) := (Int32.ofInt_toInt _).symm
theorem rbst_dp {s : St} {mo : Int32} {sg : Int} (hm : moSg mo sg) (hl6 : s.nl ≤ 6) (h7 : s.now.n ≤ 7) (hn : s.now.n ≤ s.nl) : rbst s mo = some (iI (sg * dpZ (hlZ s) sg s.nl s.now.n 0 0), (pthZ (hlZ s) sg s.nl s.now.n 0 0).map nI) := by
  have h := rall_dp (hf := hal s.V s.lg s.sk s.now.A s.tu s.now.day) (hN := hlZ s) (nl := s.nl) hm hl6 (hlZ_bd s) (hlZ_hh s) s.now.n 0 0 0 [] h7 (Nat.two_pow_pos _) (by rw [frc_0]; exact hn) (by decide) (by omega)
  rw [Int.zero_add, List.nil_append] at h
  exact h
theorem best_dp {s : St} {mo : Int32} {sg : Int} {B2 : Nat → Int32} {bs2 an2 : Int32} (hm : moSg mo sg) (hl6 : s.nl ≤ 6) (h7 : s.now.n ≤ 7) (hn : s.now.n ≤ s.nl) (h : isBest B2 bs2 an2 (rbst s mo)) : bs2 = iI (sg * dpZ (hlZ s) sg s.nl s.now.n 0 0) ∧ ∀ i, i < s.now.n → B2 i = nI (ccZ (hlZ s) sg s.nl s.now.n i) := by
  rw [rbst_dp hm hl6 h7 hn] at h
  obtain ⟨-, h2, h3⟩ := h
  refine ⟨h2, fun i hi => ?_⟩
  have e1 := ypath_at _ 0 h3 i (by rw [List.length_map, pth_len]; exact hi)
  have e2 := pth_cc (hN := hlZ s) (sg := sg) (nl := s.nl) (n := s.now.n) i 0 (by omega)
  have e3 : (pthZ (hlZ s) sg s.nl s.now.n 0 0)[i]? = some (ccZ (hlZ s) sg s.nl s.now.n (0 + i)) := e2
  rw [List.getElem?_map, e3, Nat.zero_add] at e1
  exact (Option.some.inj e1).symm
section MO35
variable {l : Launch} {d b lo gz f t B i n nl : Nat} {hp hq : xHp} {x y : SO} {s : St} {q : Fk} {one other v sky ot k hh spot z a day g bits w te go sgn : Int32} {G T : Nat → Int32}
theorem m_rooms {K : Int32 → xHp → Prop} (h : isMM hp x s) (hP : wfP s.now s.nl) (hd : dyF s.now B) (hB : B + 400 < 2 ^ 31)
    (hK0 : s.now.n = 0 ∨ s.nl < s.now.n → ∀ hq y, xAg hp hq mcl → isMM hq y s → K (-2) hq)
    (hK : ¬ (s.now.n = 0 ∨ s.nl < s.now.n) → ∀ hq y v, xAg hp hq mcl → (∀ B2 bs2 an2 R2, (∀ i, i < s.now.n → R2 i = (B2 i : Int32).toInt64) → isBest B2 bs2 an2 (rbst s 1) → bs2 = v ∧ isMM hq y (s.wRow R2 s.now.n)) → K v hq) : xMi l (d + 69) b lo gz m_Mo_rooms [.ref 103] hp K := by
  have h7 := h.me.2.1.2
  have hl6 := h.me.2.2.1.2
  obtain ⟨rd, le, tp, at2, wr, o1⟩ := isO_raw h.me.1
  have hgo : ∀ hq y, xAg hp hq [103] → isMM hq y s → y.th = 0 → xV k_Mo_rooms (l, d + 69, b, lo, gz, hp.2.1, hp.2.2, m_Mo_rooms, xpI K) 5 [.ref 103] [] hq := by
    intro hq y ha hM hth
    obtain ⟨rd, le, tp, at2, wr, o1⟩ := isO_raw hM.me.1
    have ha1 : xAg hp hq mcl := xAg_tr (xAg_rf _ _) ha (by decide)
    have hs : (1 : Int) = 1 ∨ (1 : Int) = -1 := Or.inl rfl
    try simp only [s_Mo_rooms_0, s_Mo_rooms_1, s_Mo_rooms_2, s_Mo_rooms_5, s_Mo_rooms_6, s_Mo_rooms_7, s_Mo_rooms_10, xg_0, xg_s, xF_up, xPf_up, xO_up, xAi_up, xAl_up, xLn_up, xup_xup, ty_i, ty_b, ty_z, ty_l, ty_q, tb_b, tb_z, xup_2, xpI_s, xpL_s, xpV_s, xpQ_n, xpQ_r, yl_0, yl_1, yl_2, yl_3, yl_4, yl_5, yl_6, xcs_nil, xcs_i, xcs_a, xcs_l, xcs_n, xNl_z, xNl_s, xNl_i, xNl_a, xNl_n, xNl_d, cat_i, cat_a, cat_n, List.getElem?_cons_zero, List.getElem?_cons_succ, List.set_cons_zero, List.set_cons_succ, List.length_cons, List.length_nil, true_and, and_true, eq_self, ite_true, ite_false, if_true, if_false, or_true, true_or, or_false, false_or, Nat.reduceAdd, Nat.reduceLT, Nat.reduceLeDiff, Nat.reduceEqDiff, Nat.reduceSub, ↓reduceIte, reduceCtorEq, not_false_eq_true, not_true_eq_false, false_implies, true_implies, forall_const, imp_self, implies_true, Nat.add_left_cancel_iff, Nat.left_eq_add, Nat.add_eq_left, Nat.zero_lt_succ, Nat.lt_add_left_iff_pos, one_ne_zero_n, zero_ne_one_n, zero_ne_one_i, one_ne_zero_i, xF_r o1, xPf_r o1, xO_r o1]
    rw [show (1 : Int32) = iI 1 from rfl]
    refine m_roomsBy (B := B) hM hP hd hB hs (hlZ_bd s) (hlZ_hh s) (fun z h3 y3 ha3 hM3 => ?_) (fun z h3 y3 ha3 hM3 => ?_)
    · try simp only [s_Mo_rooms_0, s_Mo_rooms_1, s_Mo_rooms_2, s_Mo_rooms_5, s_Mo_rooms_6, s_Mo_rooms_7, s_Mo_rooms_10, xg_0, xg_s, xF_up, xPf_up, xO_up, xAi_up, xAl_up, xLn_up, xup_xup, ty_i, ty_b, ty_z, ty_l, ty_q, tb_b, tb_z, xup_2, xpI_s, xpL_s, xpV_s, xpQ_n, xpQ_r, yl_0, yl_1, yl_2, yl_3, yl_4, yl_5, yl_6, xcs_nil, xcs_i, xcs_a, xcs_l, xcs_n, xNl_z, xNl_s, xNl_i, xNl_a, xNl_n, xNl_d, cat_i, cat_a, cat_n, List.getElem?_cons_zero, List.getElem?_cons_succ, List.set_cons_zero, List.set_cons_succ, List.length_cons, List.length_nil, true_and, and_true, eq_self, ite_true, ite_false, if_true, if_false, or_true, true_or, or_false, false_or, Nat.reduceAdd, Nat.reduceLT, Nat.reduceLeDiff, Nat.reduceEqDiff, Nat.reduceSub, ↓reduceIte, reduceCtorEq, not_false_eq_true, not_true_eq_false, false_implies, true_implies, forall_const, imp_self, implies_true, Nat.add_left_cancel_iff, Nat.left_eq_add, Nat.add_eq_left, Nat.zero_lt_succ, Nat.lt_add_left_iff_pos, one_ne_zero_n, zero_ne_one_n, zero_ne_one_i, one_ne_zero_i]
      exact hK0 z h3 y3 (xAg_tr ha1 ha3 (by decide)) hM3
    · try simp only [s_Mo_rooms_0, s_Mo_rooms_1, s_Mo_rooms_2, s_Mo_rooms_5, s_Mo_rooms_6, s_Mo_rooms_7, s_Mo_rooms_10, xg_0, xg_s, xF_up, xPf_up, xO_up, xAi_up, xAl_up, xLn_up, xup_xup, ty_i, ty_b, ty_z, ty_l, ty_q, tb_b, tb_z, xup_2, xpI_s, xpL_s, xpV_s, xpQ_n, xpQ_r, yl_0, yl_1, yl_2, yl_3, yl_4, yl_5, yl_6, xcs_nil, xcs_i, xcs_a, xcs_l, xcs_n, xNl_z, xNl_s, xNl_i, xNl_a, xNl_n, xNl_d, cat_i, cat_a, cat_n, List.getElem?_cons_zero, List.getElem?_cons_succ, List.set_cons_zero, List.set_cons_succ, List.length_cons, List.length_nil, true_and, and_true, eq_self, ite_true, ite_false, if_true, if_false, or_true, true_or, or_false, false_or, Nat.reduceAdd, Nat.reduceLT, Nat.reduceLeDiff, Nat.reduceEqDiff, Nat.reduceSub, ↓reduceIte, reduceCtorEq, not_false_eq_true, not_true_eq_false, false_implies, true_implies, forall_const, imp_self, implies_true, Nat.add_left_cancel_iff, Nat.left_eq_add, Nat.add_eq_left, Nat.zero_lt_succ, Nat.lt_add_left_iff_pos, one_ne_zero_n, zero_ne_one_n, zero_ne_one_i, one_ne_zero_i]
      refine hK z h3 y3 _ (xAg_tr ha1 ha3 (by decide)) fun B2 bs2 an2 R2 hR hb => ?_
      obtain ⟨e1, e2⟩ := best_dp (sg := 1) (Or.inl ⟨rfl, rfl⟩) hl6 h7 (by omega) hb
      refine ⟨e1, isMM_row hM3 fun i hi => ?_⟩
      rw [tlR_at _ _ _ i hi, hR i hi, e2 i hi]
  refine xMC_V ok_Mo_rooms (by decide) (L0 := [.ref 103]) rfl rfl ?_
  try simp only [s_Mo_rooms_0, s_Mo_rooms_1, s_Mo_rooms_2, s_Mo_rooms_6, s_Mo_rooms_7, s_Mo_rooms_10, xg_0, xg_s, xF_up, xPf_up, xO_up, xAi_up, xAl_up, xLn_up, xup_xup, ty_i, ty_b, ty_z, ty_l, ty_q, tb_b, tb_z, xup_2, xpI_s, xpL_s, xpV_s, xpQ_n, xpQ_r, yl_0, yl_1, yl_2, yl_3, yl_4, yl_5, yl_6, xcs_nil, xcs_i, xcs_a, xcs_l, xcs_n, xNl_z, xNl_s, xNl_i, xNl_a, xNl_n, xNl_d, cat_i, cat_a, cat_n, List.getElem?_cons_zero, List.getElem?_cons_succ, List.set_cons_zero, List.set_cons_succ, List.length_cons, List.length_nil, true_and, and_true, eq_self, ite_true, ite_false, if_true, if_false, or_true, true_or, or_false, false_or, Nat.reduceAdd, Nat.reduceLT, Nat.reduceLeDiff, Nat.reduceEqDiff, Nat.reduceSub, ↓reduceIte, reduceCtorEq, not_false_eq_true, not_true_eq_false, false_implies, true_implies, forall_const, imp_self, implies_true, Nat.add_left_cancel_iff, Nat.left_eq_add, Nat.add_eq_left, Nat.zero_lt_succ, Nat.lt_add_left_iff_pos, one_ne_zero_n, zero_ne_one_n, zero_ne_one_i, one_ne_zero_i, xF_r o1, xPf_r o1, xO_r o1]
  obtain ⟨y, ha, hM, hth⟩ := isMM_th (rd := rd) (le := le) (tp := tp) (at2 := at2) (wr := wr) h
  exact hgo _ y ha hM hth
theorem m_cellars {K : Int32 → xHp → Prop} (h : isMM hp x s) (hP : wfP s.now s.nl) (hd : dyF s.now B) (hB : B + 400 < 2 ^ 31)
    (hK0 : s.now.n = 0 ∨ s.nl < s.now.n → ∀ hq y, xAg hp hq mcl → isMM hq y s → K (-2) hq)
    (hK : ¬ (s.now.n = 0 ∨ s.nl < s.now.n) → ∀ hq y v, xAg hp hq mcl → (∀ B2 bs2 an2 R2, (∀ i, i < s.now.n → R2 i = (B2 i : Int32).toInt64) → isBest B2 bs2 an2 (rbst s 0) → bs2 = v ∧ isMM hq y (s.wRow R2 s.now.n)) → K v hq) : xMi l (d + 69) b lo gz m_Mo_cellars [.ref 103] hp K := by
  have h7 := h.me.2.1.2
  have hl6 := h.me.2.2.1.2
  obtain ⟨rd, le, tp, at2, wr, o1⟩ := isO_raw h.me.1
  have hgo : ∀ hq y, xAg hp hq [103] → isMM hq y s → y.th = 0 → xV k_Mo_cellars (l, d + 69, b, lo, gz, hp.2.1, hp.2.2, m_Mo_cellars, xpI K) 5 [.ref 103] [] hq := by
    intro hq y ha hM hth
    obtain ⟨rd, le, tp, at2, wr, o1⟩ := isO_raw hM.me.1
    have ha1 : xAg hp hq mcl := xAg_tr (xAg_rf _ _) ha (by decide)
    have hs : (-1 : Int) = 1 ∨ (-1 : Int) = -1 := Or.inr rfl
    try simp only [s_Mo_cellars_0, s_Mo_cellars_1, s_Mo_cellars_2, s_Mo_cellars_5, s_Mo_cellars_6, s_Mo_cellars_7, s_Mo_cellars_10, xg_0, xg_s, xF_up, xPf_up, xO_up, xAi_up, xAl_up, xLn_up, xup_xup, ty_i, ty_b, ty_z, ty_l, ty_q, tb_b, tb_z, xup_2, xpI_s, xpL_s, xpV_s, xpQ_n, xpQ_r, yl_0, yl_1, yl_2, yl_3, yl_4, yl_5, yl_6, xcs_nil, xcs_i, xcs_a, xcs_l, xcs_n, xNl_z, xNl_s, xNl_i, xNl_a, xNl_n, xNl_d, cat_i, cat_a, cat_n, List.getElem?_cons_zero, List.getElem?_cons_succ, List.set_cons_zero, List.set_cons_succ, List.length_cons, List.length_nil, true_and, and_true, eq_self, ite_true, ite_false, if_true, if_false, or_true, true_or, or_false, false_or, Nat.reduceAdd, Nat.reduceLT, Nat.reduceLeDiff, Nat.reduceEqDiff, Nat.reduceSub, ↓reduceIte, reduceCtorEq, not_false_eq_true, not_true_eq_false, false_implies, true_implies, forall_const, imp_self, implies_true, Nat.add_left_cancel_iff, Nat.left_eq_add, Nat.add_eq_left, Nat.zero_lt_succ, Nat.lt_add_left_iff_pos, one_ne_zero_n, zero_ne_one_n, zero_ne_one_i, one_ne_zero_i, xF_r o1, xPf_r o1, xO_r o1]
    rw [show (-1 : Int32) = iI (-1) from by decide]
    refine m_roomsBy (B := B) hM hP hd hB hs (hlZ_bd s) (hlZ_hh s) (fun z h3 y3 ha3 hM3 => ?_) (fun z h3 y3 ha3 hM3 => ?_)
    · try simp only [s_Mo_cellars_0, s_Mo_cellars_1, s_Mo_cellars_2, s_Mo_cellars_5, s_Mo_cellars_6, s_Mo_cellars_7, s_Mo_cellars_10, xg_0, xg_s, xF_up, xPf_up, xO_up, xAi_up, xAl_up, xLn_up, xup_xup, ty_i, ty_b, ty_z, ty_l, ty_q, tb_b, tb_z, xup_2, xpI_s, xpL_s, xpV_s, xpQ_n, xpQ_r, yl_0, yl_1, yl_2, yl_3, yl_4, yl_5, yl_6, xcs_nil, xcs_i, xcs_a, xcs_l, xcs_n, xNl_z, xNl_s, xNl_i, xNl_a, xNl_n, xNl_d, cat_i, cat_a, cat_n, List.getElem?_cons_zero, List.getElem?_cons_succ, List.set_cons_zero, List.set_cons_succ, List.length_cons, List.length_nil, true_and, and_true, eq_self, ite_true, ite_false, if_true, if_false, or_true, true_or, or_false, false_or, Nat.reduceAdd, Nat.reduceLT, Nat.reduceLeDiff, Nat.reduceEqDiff, Nat.reduceSub, ↓reduceIte, reduceCtorEq, not_false_eq_true, not_true_eq_false, false_implies, true_implies, forall_const, imp_self, implies_true, Nat.add_left_cancel_iff, Nat.left_eq_add, Nat.add_eq_left, Nat.zero_lt_succ, Nat.lt_add_left_iff_pos, one_ne_zero_n, zero_ne_one_n, zero_ne_one_i, one_ne_zero_i]
      exact hK0 z h3 y3 (xAg_tr ha1 ha3 (by decide)) hM3
    · try simp only [s_Mo_cellars_0, s_Mo_cellars_1, s_Mo_cellars_2, s_Mo_cellars_5, s_Mo_cellars_6, s_Mo_cellars_7, s_Mo_cellars_10, xg_0, xg_s, xF_up, xPf_up, xO_up, xAi_up, xAl_up, xLn_up, xup_xup, ty_i, ty_b, ty_z, ty_l, ty_q, tb_b, tb_z, xup_2, xpI_s, xpL_s, xpV_s, xpQ_n, xpQ_r, yl_0, yl_1, yl_2, yl_3, yl_4, yl_5, yl_6, xcs_nil, xcs_i, xcs_a, xcs_l, xcs_n, xNl_z, xNl_s, xNl_i, xNl_a, xNl_n, xNl_d, cat_i, cat_a, cat_n, List.getElem?_cons_zero, List.getElem?_cons_succ, List.set_cons_zero, List.set_cons_succ, List.length_cons, List.length_nil, true_and, and_true, eq_self, ite_true, ite_false, if_true, if_false, or_true, true_or, or_false, false_or, Nat.reduceAdd, Nat.reduceLT, Nat.reduceLeDiff, Nat.reduceEqDiff, Nat.reduceSub, ↓reduceIte, reduceCtorEq, not_false_eq_true, not_true_eq_false, false_implies, true_implies, forall_const, imp_self, implies_true, Nat.add_left_cancel_iff, Nat.left_eq_add, Nat.add_eq_left, Nat.zero_lt_succ, Nat.lt_add_left_iff_pos, one_ne_zero_n, zero_ne_one_n, zero_ne_one_i, one_ne_zero_i]
      refine hK z h3 y3 _ (xAg_tr ha1 ha3 (by decide)) fun B2 bs2 an2 R2 hR hb => ?_
      obtain ⟨e1, e2⟩ := best_dp (sg := -1) (Or.inr ⟨rfl, rfl⟩) hl6 h7 (by omega) hb
      refine ⟨e1, isMM_row hM3 fun i hi => ?_⟩
      rw [tlR_at _ _ _ i hi, hR i hi, e2 i hi]
  refine xMC_V ok_Mo_cellars (by decide) (L0 := [.ref 103]) rfl rfl ?_
  try simp only [s_Mo_cellars_0, s_Mo_cellars_1, s_Mo_cellars_2, s_Mo_cellars_6, s_Mo_cellars_7, s_Mo_cellars_10, xg_0, xg_s, xF_up, xPf_up, xO_up, xAi_up, xAl_up, xLn_up, xup_xup, ty_i, ty_b, ty_z, ty_l, ty_q, tb_b, tb_z, xup_2, xpI_s, xpL_s, xpV_s, xpQ_n, xpQ_r, yl_0, yl_1, yl_2, yl_3, yl_4, yl_5, yl_6, xcs_nil, xcs_i, xcs_a, xcs_l, xcs_n, xNl_z, xNl_s, xNl_i, xNl_a, xNl_n, xNl_d, cat_i, cat_a, cat_n, List.getElem?_cons_zero, List.getElem?_cons_succ, List.set_cons_zero, List.set_cons_succ, List.length_cons, List.length_nil, true_and, and_true, eq_self, ite_true, ite_false, if_true, if_false, or_true, true_or, or_false, false_or, Nat.reduceAdd, Nat.reduceLT, Nat.reduceLeDiff, Nat.reduceEqDiff, Nat.reduceSub, ↓reduceIte, reduceCtorEq, not_false_eq_true, not_true_eq_false, false_implies, true_implies, forall_const, imp_self, implies_true, Nat.add_left_cancel_iff, Nat.left_eq_add, Nat.add_eq_left, Nat.zero_lt_succ, Nat.lt_add_left_iff_pos, one_ne_zero_n, zero_ne_one_n, zero_ne_one_i, one_ne_zero_i, xF_r o1, xPf_r o1, xO_r o1]
  obtain ⟨y, ha, hM, hth⟩ := isMM_th (rd := rd) (le := le) (tp := tp) (at2 := at2) (wr := wr) h
  exact hgo _ y ha hM hth
end MO35
