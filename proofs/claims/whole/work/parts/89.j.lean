/-! ===== the model's calls: what can be undone, moving ===== -/
def shG (G : Nat → Int32) (j : Nat) : Nat → Int32 := fun i => if i < j then G (i + 22) else G i
theorem shG_s (G : Nat → Int32) (j : Nat) : upd (shG G j) j (G (j + 22)) = shG G (j + 1) := by
  funext i
  unfold upd shG
  by_cases e : i = j
  · rw [if_pos e, if_pos (by omega), e]
  · rw [if_neg e]
    by_cases e2 : i < j
    · rw [if_pos e2, if_pos (by omega)]
    · rw [if_neg e2, if_neg (by omega)]
theorem shG_0 (G : Nat → Int32) : shG G 0 = G := by
  funext i
  unfold shG
  rw [if_neg (Nat.not_lt_zero i)]
theorem mkR_E {g : Nat → Int32} {off : Nat} {q r : Fk} (h : mkR g off q) (he : fkE r q) : mkR g off r := by
  refine ⟨fun i hi => ?_, h.2.trans he.2.1.symm⟩
  have hi2 : i < q.n := by rw [← he.1]; exact hi
  rw [he.2.2.1 i hi2, he.2.2.2.1 i hi2, he.2.2.2.2 i hi2]
  exact h.1 i hi2
theorem mkR_lay {G g : Nat → Int32} {k : Nat} {q : Fk} (hq : (∀ j, j < q.n → g j = q.A j ∧ g (7 + j) = q.P j ∧ g (14 + j) = q.S j) ∧ g 21 = q.day) (h7 : q.n ≤ 7) : mkR (lyG G g k 22) k q := by
  refine ⟨fun i hi => ?_, ?_⟩
  · obtain ⟨h1, h2, h3⟩ := hq.1 i hi
    rw [lyG_in G g k (show i < 22 by omega), Nat.add_assoc, lyG_in G g k (show 7 + i < 22 by omega), Nat.add_assoc, lyG_in G g k (show 14 + i < 22 by omega)]
    exact ⟨h1, h2, h3⟩
  · rw [lyG_in G g k (show 21 < 22 by omega)]
    exact hq.2
theorem mkR_cg {G G2 : Nat → Int32} {a c : Nat} {q : Fk} (h : mkR G a q) (h7 : q.n ≤ 7) (e : ∀ i, i < 22 → G2 (c + i) = G (a + i)) : mkR G2 c q := by
  refine ⟨fun i hi => ?_, ?_⟩
  · rw [e i (by omega), Nat.add_assoc, e (7 + i) (by omega), Nat.add_assoc, e (14 + i) (by omega), ← Nat.add_assoc, ← Nat.add_assoc]
    exact h.1 i hi
  · rw [e 21 (by omega)]
    exact h.2
/-- the rings of a state before and behind a push -/
theorem ring_push (s : St) (q : Fk) (hac : s.ac ≤ 12) (hnx : s.nx < 12) : (s.push q).ac = (if s.ac < 12 then s.ac + 1 else 12) ∧ (s.push q).nx < 12 ∧ (∀ j, j + 1 < (s.push q).ac → ringAt (s.push q) j = ringAt s (if s.ac < 12 then j else j + 1)) ∧ ringAt (s.push q) ((s.push q).ac - 1) = fkc (s.ring s.nx) q := by
  have e1 : (s.push q).ac = (if s.ac < 12 then s.ac + 1 else 12) := by
    show (if s.ac + 1 ≤ 12 then s.ac + 1 else 12) = _
    by_cases e : s.ac < 12
    · rw [if_pos e, if_pos (by omega)]
    · rw [if_neg e, if_neg (by omega)]
  have e2 : (s.push q).nx = (if s.nx + 1 < 12 then s.nx + 1 else 0) := rfl
  have e3 : ∀ i, (s.push q).ring i = if i = s.nx then fkc (s.ring s.nx) q else s.ring i := fun i => rfl
  refine ⟨e1, by rw [e2]; split <;> omega, fun j hj => ?_, ?_⟩
  · unfold ringAt
    rw [e3, e1, e2]
    rw [e1] at hj
    by_cases e : s.ac < 12
    · rw [if_pos e] at hj ⊢
      rw [if_pos e]
      have e5 : ((if s.nx + 1 < 12 then s.nx + 1 else 0) + 12 - (s.ac + 1) + j) % 12 = (s.nx + 12 - s.ac + j) % 12 := by split <;> omega
      rw [e5, if_neg (by omega)]
    · rw [if_neg e] at hj ⊢
      rw [if_neg e]
      have e5 : ((if s.nx + 1 < 12 then s.nx + 1 else 0) + 12 - 12 + j) % 12 = (s.nx + 12 - s.ac + (j + 1)) % 12 := by split <;> omega
      rw [e5, if_neg (by omega)]
  · unfold ringAt
    rw [e3, e1, e2]
    by_cases e : s.ac < 12
    · rw [if_pos e, if_pos (by split <;> omega)]
    · rw [if_neg e, if_pos (by split <;> omega)]
section MO10
variable {l : Launch} {d b lo gz f a t D B : Nat} {hp : xHp} {x : SO} {s : St} {q q0 : Fk} {n one other v sky ot k set p w hh i : Int32} {g G : Nat → Int32}
theorem isMM_push {y : SO} {hq : xHp} {G G2 : Nat → Int32} {g : Nat → Int32} (h : isMM hp x s) (ha : xAg hp hq [103, 114]) (ho : isO hq y) (e1 : y.pe = x.pe) (e2 : y.pl = x.pl) (e3 : y.sm = x.sm) (e4 : y.ru = x.ru) (e5 : y.rs = x.rs) (e6 : y.oru = x.oru) (e7 : y.ty = x.ty) (e8 : y.rm = x.rm) (e9 : y.sam = x.sam) (e10 : y.hm = x.hm) (e11 : y.cm = x.cm)
    (hum : y.um = nI (if s.ac < 12 then s.ac + 1 else 12)) (hG : hp.1 114 = .inl (.int, 264, .inl G)) (hG2 : hq.1 114 = .inl (.int, 264, .inl (lyG G2 g (22 * (if s.ac < 12 then s.ac else 11)) 22))) (hs : ∀ i, i < 242 → G2 i = if s.ac < 12 then G i else G (i + 22)) (hg : (∀ j, j < q0.n → g j = q0.A j ∧ g (7 + j) = q0.P j ∧ g (14 + j) = q0.S j) ∧ g 21 = q0.day) (h7 : q0.n ≤ 7) (hr7 : ∀ j, j < s.ac → (ringAt s j).n ≤ 7) (he : fkE q q0) : isMM hq y (s.push q) := by
  obtain ⟨u1, u2, u3, G3, u4, u5⟩ := id h.un
  rw [hG] at u4
  cases u4
  obtain ⟨p1, p2, p3, p4⟩ := ring_push s q u2 u3
  obtain ⟨c1, c2, c3⟩ := mTx_ag ha (by simp) h.tx
  obtain ⟨r1, r2, r3⟩ := mRw_ag ha (by simp) h.rw
  obtain ⟨a1, a2, a3⟩ := mSa_ag ha (by simp) h.sa
  obtain ⟨b1, b2, b3⟩ := mHe_ag ha (by simp) h.he
  obtain ⟨gk, gi, gc, c, k1, k2, k3, k4, k5⟩ := mKp_ag ha (by simp) h.kp
  refine ⟨isME_of ha (by simp) h.me ho e1 e2 e3 e4 e5 (h7_ag ha (by simp) h.me) (h8_ag ha (by simp) h.me), ⟨e4.trans h.ru.1, e6.trans h.ru.2⟩, ⟨e7.trans c1, c2, c3⟩, ⟨e8.trans r1, r2, r3⟩, isMk_ag ha (by simp) h.nw, ⟨hum.trans (by rw [p1]), by rw [p1]; split <;> omega, p2, _, hG2, fun j hj => ?_⟩, ⟨e9.trans a1, a2, a3⟩, ⟨e10.trans b1, b2, b3⟩, ⟨gk, gi, gc, c, k1, k2, k3, ⟨e11.trans k4.1, k4.2⟩, k5⟩, mSc_ag ha (by simp) h.sc⟩
  by_cases ej : j + 1 < (s.push q).ac
  · rw [p3 j ej]
    rw [p1] at ej
    by_cases e : s.ac < 12
    · rw [if_pos e] at ej ⊢
      rw [if_pos e]
      refine mkR_cg (u5 j (by omega)) (hr7 j (by omega)) fun i hi => ?_
      rw [lyG_out G2 g _ (by omega), hs _ (by omega), if_pos e]
    · rw [if_neg e] at ej ⊢
      rw [if_neg e]
      refine mkR_cg (u5 (j + 1) (by omega)) (hr7 (j + 1) (by omega)) fun i hi => ?_
      rw [lyG_out G2 g _ (by omega), hs _ (by omega), if_neg e, show 22 * j + i + 22 = 22 * (j + 1) + i by omega]
  · have ej2 : j = (s.push q).ac - 1 := by omega
    rw [ej2, p4, p1]
    have e9 : (if s.ac < 12 then s.ac + 1 else 12) - 1 = (if s.ac < 12 then s.ac else 11) := by split <;> rfl
    rw [e9]
    exact mkR_E (mkR_lay hg h7) (fkE_tr (fkE_c _ _) he)
theorem m_remember {K : xHp → Prop} (h : isMM hp x s) (ha3 : a = 104 ∨ a = 115) (hq : isMk hp a q0) (h7 : q0.n ≤ 7) (hr7 : ∀ j, j < s.ac → (ringAt s j).n ≤ 7)
    (hK : ∀ hq y, xAg hp hq [103, 114] → (∀ q, fkE q q0 → isMM hq y (s.push q)) → y.th = x.th → K hq) : xMv l (d + 1) b lo gz m_Mo_remember [.ref 103, .ref a] hp K := by
  obtain ⟨rd, le, tp, at2, wr, o1⟩ := isO_raw h.me.1
  obtain ⟨u1, u2, u3, G, u4, u5⟩ := id h.un
  obtain ⟨g, hg, hgk⟩ := id hq
  have a14 : ¬ a = 114 := by rcases ha3 with e | e <;> rw [e] <;> decide
  have a13 : ¬ a = 103 := by rcases ha3 with e | e <;> rw [e] <;> decide
  rw [u1] at o1
  have fin : ∀ m G2 (h2 : xHp), m ≤ 11 → xAg hp h2 [103, 114] → h2.1 103 = .inr (12, .ref 104 :: .int x.pe :: .int x.pl :: .ref 105 :: .ref 106 :: .int x.sm :: .ref 107 :: .int x.ty :: .ref 108 :: .int x.rm :: .int x.th :: rd :: .int le :: .int tp :: .int at2 :: .int wr :: .ref 109 :: .ref 110 :: .ref x.ru :: .ref x.oru :: .int x.rs :: .int 0 :: .ref 113 :: .ref 114 :: .int (nI m) :: .ref 115 :: .ref 116 :: .ref 117 :: .ref 118 :: .ref 119 :: .ref 120 :: .ref 121 :: .int x.wm :: .ref 122 :: .ref 123 :: .ref 124 :: .ref 125 :: .int x.sam :: .ref 126 :: .ref 127 :: .int x.hm :: .ref 128 :: .int x.dr :: .int x.cm :: .ref 129 :: .ref 130 :: .ref 131 :: []) → h2.1 114 = .inl (.int, 264, .inl G2) → m = (if s.ac < 12 then s.ac else 11) → (∀ i, i < 242 → G2 i = if s.ac < 12 then G i else G (i + 22)) → xV k_Mo_remember (l, d + 1, b, lo, gz, hp.2.1, hp.2.2, m_Mo_remember, xpV K) 49 [.ref 103, .ref a, .retAddr 0] [] h2 ∧ ∀ z, xV k_Mo_remember (l, d + 1, b, lo, gz, hp.2.1, hp.2.2, m_Mo_remember, xpV K) 49 [.ref 103, .ref a, .int z] [] h2 := by
    intro m G2 h2 hm ha o2 hG2 em hs
    have hga := xAg_at ha (by simp; exact ⟨a13, a14⟩) hg
    have e22 : (22 : Int32) * nI m = nI (22 * m) := nI_mul 22 m
    have kk : ∀ (hx : xHp), xAg hp hx [103, 114] → hx.1 103 = .inr (12, .ref 104 :: .int x.pe :: .int x.pl :: .ref 105 :: .ref 106 :: .int x.sm :: .ref 107 :: .int x.ty :: .ref 108 :: .int x.rm :: .int x.th :: rd :: .int le :: .int tp :: .int at2 :: .int wr :: .ref 109 :: .ref 110 :: .ref x.ru :: .ref x.oru :: .int x.rs :: .int 0 :: .ref 113 :: .ref 114 :: .int (nI (m + 1)) :: .ref 115 :: .ref 116 :: .ref 117 :: .ref 118 :: .ref 119 :: .ref 120 :: .ref 121 :: .int x.wm :: .ref 122 :: .ref 123 :: .ref 124 :: .ref 125 :: .int x.sam :: .ref 126 :: .ref 127 :: .int x.hm :: .ref 128 :: .int x.dr :: .int x.cm :: .ref 129 :: .ref 130 :: .ref 131 :: []) → hx.1 114 = .inl (.int, 264, .inl (lyG G2 g (22 * m) 22)) → K hx := by
      intro hx hax ox hGx
      have hum : m + 1 = (if s.ac < 12 then s.ac + 1 else 12) := by rw [em]; split <;> omega
      rw [em] at hGx
      refine hK hx (x.wUm (nI (m + 1))) hax (fun q he => isMM_push h hax (isO_um ox) rfl rfl rfl rfl rfl rfl rfl rfl rfl rfl rfl (by rw [← hum]) u4 hGx hs hgk h7 hr7 he) rfl
    have last : ∀ (hx : xHp), xAg hp hx [103, 114] → hx = xup h2 114 (.inl (.int, 264, .inl (lyG G2 g (22 * m) 22))) → hx.1 103 = .inr (12, .ref 104 :: .int x.pe :: .int x.pl :: .ref 105 :: .ref 106 :: .int x.sm :: .ref 107 :: .int x.ty :: .ref 108 :: .int x.rm :: .int x.th :: rd :: .int le :: .int tp :: .int at2 :: .int wr :: .ref 109 :: .ref 110 :: .ref x.ru :: .ref x.oru :: .int x.rs :: .int 0 :: .ref 113 :: .ref 114 :: .int (nI m) :: .ref 115 :: .ref 116 :: .ref 117 :: .ref 118 :: .ref 119 :: .ref 120 :: .ref 121 :: .int x.wm :: .ref 122 :: .ref 123 :: .ref 124 :: .ref 125 :: .int x.sam :: .ref 126 :: .ref 127 :: .int x.hm :: .ref 128 :: .int x.dr :: .int x.cm :: .ref 129 :: .ref 130 :: .ref 131 :: []) → True := fun _ _ _ _ => trivial
    have o3 : (xup h2 114 (.inl (.int, 264, .inl (lyG G2 g (22 * m) 22)))).1 103 = .inr (12, .ref 104 :: .int x.pe :: .int x.pl :: .ref 105 :: .ref 106 :: .int x.sm :: .ref 107 :: .int x.ty :: .ref 108 :: .int x.rm :: .int x.th :: rd :: .int le :: .int tp :: .int at2 :: .int wr :: .ref 109 :: .ref 110 :: .ref x.ru :: .ref x.oru :: .int x.rs :: .int 0 :: .ref 113 :: .ref 114 :: .int (nI m) :: .ref 115 :: .ref 116 :: .ref 117 :: .ref 118 :: .ref 119 :: .ref 120 :: .ref 121 :: .int x.wm :: .ref 122 :: .ref 123 :: .ref 124 :: .ref 125 :: .int x.sam :: .ref 126 :: .ref 127 :: .int x.hm :: .ref 128 :: .int x.dr :: .int x.cm :: .ref 129 :: .ref 130 :: .ref 131 :: []) := xup_o o2 (by decide)
    have hv : xAg hp (xup (xup h2 114 (.inl (.int, 264, .inl (lyG G2 g (22 * m) 22)))) 103 (.inr (12, .ref 104 :: .int x.pe :: .int x.pl :: .ref 105 :: .ref 106 :: .int x.sm :: .ref 107 :: .int x.ty :: .ref 108 :: .int x.rm :: .int x.th :: rd :: .int le :: .int tp :: .int at2 :: .int wr :: .ref 109 :: .ref 110 :: .ref x.ru :: .ref x.oru :: .int x.rs :: .int 0 :: .ref 113 :: .ref 114 :: .int (nI (m + 1)) :: .ref 115 :: .ref 116 :: .ref 117 :: .ref 118 :: .ref 119 :: .ref 120 :: .ref 121 :: .int x.wm :: .ref 122 :: .ref 123 :: .ref 124 :: .ref 125 :: .int x.sam :: .ref 126 :: .ref 127 :: .int x.hm :: .ref 128 :: .int x.dr :: .int x.cm :: .ref 129 :: .ref 130 :: .ref 131 :: []))) [103, 114] := xAg_up (xAg_up ha (by simp)) (by simp)
    have k9 := kk _ hv xup_s (xup_o xup_s (by decide))
    refine ⟨?_, fun z => ?_⟩
    · try simp only [s_Mo_remember_0, s_Mo_remember_1, s_Mo_remember_4, s_Mo_remember_6, s_Mo_remember_9, s_Mo_remember_10, s_Mo_remember_11, s_Mo_remember_12, s_Mo_remember_15, s_Mo_remember_18, s_Mo_remember_19, s_Mo_remember_22, s_Mo_remember_23, s_Mo_remember_24, s_Mo_remember_27, s_Mo_remember_28, s_Mo_remember_30, s_Mo_remember_31, s_Mo_remember_32, s_Mo_remember_33, s_Mo_remember_36, s_Mo_remember_39, s_Mo_remember_40, s_Mo_remember_41, s_Mo_remember_44, s_Mo_remember_45, s_Mo_remember_46, s_Mo_remember_49, s_Mo_remember_50, s_Mo_remember_51, s_Mo_remember_54, s_Mo_remember_56, s_Mo_remember_57, s_Mo_remember_60, s_Mo_remember_61, s_Mo_remember_64, s_Mo_remember_65, s_Mo_remember_66, s_Mo_remember_69, s_Mo_remember_70, s_Mo_remember_71, s_Mo_remember_74, xg_0, xg_s, xF_up, xPf_up, xO_up, xAi_up, xAl_up, xLn_up, xup_xup, ty_i, ty_b, ty_z, ty_l, ty_q, tb_b, tb_z, xup_2, xpI_s, xpL_s, xpV_s, xpQ_n, xpQ_r, yl_0, yl_1, yl_2, yl_3, yl_4, yl_5, yl_6, xcs_nil, xcs_i, xcs_a, xcs_l, xcs_n, xNl_z, xNl_s, xNl_i, xNl_a, xNl_n, xNl_d, cat_i, cat_a, cat_n, List.getElem?_cons_zero, List.getElem?_cons_succ, List.set_cons_zero, List.set_cons_succ, List.length_cons, List.length_nil, true_and, and_true, eq_self, ite_true, ite_false, if_true, if_false, or_true, true_or, or_false, false_or, Nat.reduceAdd, Nat.reduceLT, Nat.reduceLeDiff, Nat.reduceEqDiff, Nat.reduceSub, ↓reduceIte, reduceCtorEq, not_false_eq_true, not_true_eq_false, false_implies, true_implies, forall_const, imp_self, implies_true, Nat.add_left_cancel_iff, Nat.left_eq_add, Nat.add_eq_left, Nat.zero_lt_succ, Nat.lt_add_left_iff_pos, one_ne_zero_n, zero_ne_one_n, zero_ne_one_i, one_ne_zero_i, xF_r o2, xPf_r o2, xO_r o2, e22]
      refine c_Mo_lay hga hG2 a14 (by omega) (by decide) ?_
      try simp only [s_Mo_remember_0, s_Mo_remember_1, s_Mo_remember_4, s_Mo_remember_6, s_Mo_remember_9, s_Mo_remember_10, s_Mo_remember_11, s_Mo_remember_12, s_Mo_remember_15, s_Mo_remember_18, s_Mo_remember_19, s_Mo_remember_22, s_Mo_remember_23, s_Mo_remember_24, s_Mo_remember_27, s_Mo_remember_28, s_Mo_remember_30, s_Mo_remember_31, s_Mo_remember_32, s_Mo_remember_33, s_Mo_remember_36, s_Mo_remember_39, s_Mo_remember_40, s_Mo_remember_41, s_Mo_remember_44, s_Mo_remember_45, s_Mo_remember_46, s_Mo_remember_49, s_Mo_remember_50, s_Mo_remember_51, s_Mo_remember_54, s_Mo_remember_56, s_Mo_remember_57, s_Mo_remember_60, s_Mo_remember_61, s_Mo_remember_64, s_Mo_remember_65, s_Mo_remember_66, s_Mo_remember_69, s_Mo_remember_70, s_Mo_remember_71, s_Mo_remember_74, xg_0, xg_s, xF_up, xPf_up, xO_up, xAi_up, xAl_up, xLn_up, xup_xup, ty_i, ty_b, ty_z, ty_l, ty_q, tb_b, tb_z, xup_2, xpI_s, xpL_s, xpV_s, xpQ_n, xpQ_r, yl_0, yl_1, yl_2, yl_3, yl_4, yl_5, yl_6, xcs_nil, xcs_i, xcs_a, xcs_l, xcs_n, xNl_z, xNl_s, xNl_i, xNl_a, xNl_n, xNl_d, cat_i, cat_a, cat_n, List.getElem?_cons_zero, List.getElem?_cons_succ, List.set_cons_zero, List.set_cons_succ, List.length_cons, List.length_nil, true_and, and_true, eq_self, ite_true, ite_false, if_true, if_false, or_true, true_or, or_false, false_or, Nat.reduceAdd, Nat.reduceLT, Nat.reduceLeDiff, Nat.reduceEqDiff, Nat.reduceSub, ↓reduceIte, reduceCtorEq, not_false_eq_true, not_true_eq_false, false_implies, true_implies, forall_const, imp_self, implies_true, Nat.add_left_cancel_iff, Nat.left_eq_add, Nat.add_eq_left, Nat.zero_lt_succ, Nat.lt_add_left_iff_pos, one_ne_zero_n, zero_ne_one_n, zero_ne_one_i, one_ne_zero_i, xF_r o3, xPf_r o3, xO_r o3, nI_1, xup_s, show ((103 : Nat) = 114) = False by decide]
      exact k9
    · try simp only [s_Mo_remember_0, s_Mo_remember_1, s_Mo_remember_4, s_Mo_remember_6, s_Mo_remember_9, s_Mo_remember_10, s_Mo_remember_11, s_Mo_remember_12, s_Mo_remember_15, s_Mo_remember_18, s_Mo_remember_19, s_Mo_remember_22, s_Mo_remember_23, s_Mo_remember_24, s_Mo_remember_27, s_Mo_remember_28, s_Mo_remember_30, s_Mo_remember_31, s_Mo_remember_32, s_Mo_remember_33, s_Mo_remember_36, s_Mo_remember_39, s_Mo_remember_40, s_Mo_remember_41, s_Mo_remember_44, s_Mo_remember_45, s_Mo_remember_46, s_Mo_remember_49, s_Mo_remember_50, s_Mo_remember_51, s_Mo_remember_54, s_Mo_remember_56, s_Mo_remember_57, s_Mo_remember_60, s_Mo_remember_61, s_Mo_remember_64, s_Mo_remember_65, s_Mo_remember_66, s_Mo_remember_69, s_Mo_remember_70, s_Mo_remember_71, s_Mo_remember_74, xg_0, xg_s, xF_up, xPf_up, xO_up, xAi_up, xAl_up, xLn_up, xup_xup, ty_i, ty_b, ty_z, ty_l, ty_q, tb_b, tb_z, xup_2, xpI_s, xpL_s, xpV_s, xpQ_n, xpQ_r, yl_0, yl_1, yl_2, yl_3, yl_4, yl_5, yl_6, xcs_nil, xcs_i, xcs_a, xcs_l, xcs_n, xNl_z, xNl_s, xNl_i, xNl_a, xNl_n, xNl_d, cat_i, cat_a, cat_n, List.getElem?_cons_zero, List.getElem?_cons_succ, List.set_cons_zero, List.set_cons_succ, List.length_cons, List.length_nil, true_and, and_true, eq_self, ite_true, ite_false, if_true, if_false, or_true, true_or, or_false, false_or, Nat.reduceAdd, Nat.reduceLT, Nat.reduceLeDiff, Nat.reduceEqDiff, Nat.reduceSub, ↓reduceIte, reduceCtorEq, not_false_eq_true, not_true_eq_false, false_implies, true_implies, forall_const, imp_self, implies_true, Nat.add_left_cancel_iff, Nat.left_eq_add, Nat.add_eq_left, Nat.zero_lt_succ, Nat.lt_add_left_iff_pos, one_ne_zero_n, zero_ne_one_n, zero_ne_one_i, one_ne_zero_i, xF_r o2, xPf_r o2, xO_r o2, e22]
      refine c_Mo_lay hga hG2 a14 (by omega) (by decide) ?_
      try simp only [s_Mo_remember_0, s_Mo_remember_1, s_Mo_remember_4, s_Mo_remember_6, s_Mo_remember_9, s_Mo_remember_10, s_Mo_remember_11, s_Mo_remember_12, s_Mo_remember_15, s_Mo_remember_18, s_Mo_remember_19, s_Mo_remember_22, s_Mo_remember_23, s_Mo_remember_24, s_Mo_remember_27, s_Mo_remember_28, s_Mo_remember_30, s_Mo_remember_31, s_Mo_remember_32, s_Mo_remember_33, s_Mo_remember_36, s_Mo_remember_39, s_Mo_remember_40, s_Mo_remember_41, s_Mo_remember_44, s_Mo_remember_45, s_Mo_remember_46, s_Mo_remember_49, s_Mo_remember_50, s_Mo_remember_51, s_Mo_remember_54, s_Mo_remember_56, s_Mo_remember_57, s_Mo_remember_60, s_Mo_remember_61, s_Mo_remember_64, s_Mo_remember_65, s_Mo_remember_66, s_Mo_remember_69, s_Mo_remember_70, s_Mo_remember_71, s_Mo_remember_74, xg_0, xg_s, xF_up, xPf_up, xO_up, xAi_up, xAl_up, xLn_up, xup_xup, ty_i, ty_b, ty_z, ty_l, ty_q, tb_b, tb_z, xup_2, xpI_s, xpL_s, xpV_s, xpQ_n, xpQ_r, yl_0, yl_1, yl_2, yl_3, yl_4, yl_5, yl_6, xcs_nil, xcs_i, xcs_a, xcs_l, xcs_n, xNl_z, xNl_s, xNl_i, xNl_a, xNl_n, xNl_d, cat_i, cat_a, cat_n, List.getElem?_cons_zero, List.getElem?_cons_succ, List.set_cons_zero, List.set_cons_succ, List.length_cons, List.length_nil, true_and, and_true, eq_self, ite_true, ite_false, if_true, if_false, or_true, true_or, or_false, false_or, Nat.reduceAdd, Nat.reduceLT, Nat.reduceLeDiff, Nat.reduceEqDiff, Nat.reduceSub, ↓reduceIte, reduceCtorEq, not_false_eq_true, not_true_eq_false, false_implies, true_implies, forall_const, imp_self, implies_true, Nat.add_left_cancel_iff, Nat.left_eq_add, Nat.add_eq_left, Nat.zero_lt_succ, Nat.lt_add_left_iff_pos, one_ne_zero_n, zero_ne_one_n, zero_ne_one_i, one_ne_zero_i, xF_r o3, xPf_r o3, xO_r o3, nI_1, xup_s, show ((103 : Nat) = 114) = False by decide]
      exact k9
  refine xMC_V ok_Mo_remember (by decide) (L0 := [.ref 103, .ref a, .retAddr 0]) rfl rfl ?_
  by_cases e : s.ac = 12
  · have e1 : nI s.ac = 12 := by rw [e]; rfl
    have loop : ∀ j, j ≤ 242 → ∀ h2, xAg hp h2 [103, 114] → h2.1 103 = .inr (12, .ref 104 :: .int x.pe :: .int x.pl :: .ref 105 :: .ref 106 :: .int x.sm :: .ref 107 :: .int x.ty :: .ref 108 :: .int x.rm :: .int x.th :: rd :: .int le :: .int tp :: .int at2 :: .int wr :: .ref 109 :: .ref 110 :: .ref x.ru :: .ref x.oru :: .int x.rs :: .int 0 :: .ref 113 :: .ref 114 :: .int (nI 12) :: .ref 115 :: .ref 116 :: .ref 117 :: .ref 118 :: .ref 119 :: .ref 120 :: .ref 121 :: .int x.wm :: .ref 122 :: .ref 123 :: .ref 124 :: .ref 125 :: .int x.sam :: .ref 126 :: .ref 127 :: .int x.hm :: .ref 128 :: .int x.dr :: .int x.cm :: .ref 129 :: .ref 130 :: .ref 131 :: []) → h2.1 114 = .inl (.int, 264, .inl (shG G j)) → xV k_Mo_remember (l, d + 1, b, lo, gz, hp.2.1, hp.2.2, m_Mo_remember, xpV K) 11 [.ref 103, .ref a, .int (nI j)] [] h2 := by
      refine yloop 242 ?_ fun j hj ih => ?_
      · intro h2 ha o2 hG2
        have hv : xAg hp (xup h2 103 (.inr (12, .ref 104 :: .int x.pe :: .int x.pl :: .ref 105 :: .ref 106 :: .int x.sm :: .ref 107 :: .int x.ty :: .ref 108 :: .int x.rm :: .int x.th :: rd :: .int le :: .int tp :: .int at2 :: .int wr :: .ref 109 :: .ref 110 :: .ref x.ru :: .ref x.oru :: .int x.rs :: .int 0 :: .ref 113 :: .ref 114 :: .int (nI 11) :: .ref 115 :: .ref 116 :: .ref 117 :: .ref 118 :: .ref 119 :: .ref 120 :: .ref 121 :: .int x.wm :: .ref 122 :: .ref 123 :: .ref 124 :: .ref 125 :: .int x.sam :: .ref 126 :: .ref 127 :: .int x.hm :: .ref 128 :: .int x.dr :: .int x.cm :: .ref 129 :: .ref 130 :: .ref 131 :: []))) [103, 114] := xAg_up ha (by simp)
        have f1 := (fin 11 (shG G 242) (xup h2 103 (.inr (12, .ref 104 :: .int x.pe :: .int x.pl :: .ref 105 :: .ref 106 :: .int x.sm :: .ref 107 :: .int x.ty :: .ref 108 :: .int x.rm :: .int x.th :: rd :: .int le :: .int tp :: .int at2 :: .int wr :: .ref 109 :: .ref 110 :: .ref x.ru :: .ref x.oru :: .int x.rs :: .int 0 :: .ref 113 :: .ref 114 :: .int (nI 11) :: .ref 115 :: .ref 116 :: .ref 117 :: .ref 118 :: .ref 119 :: .ref 120 :: .ref 121 :: .int x.wm :: .ref 122 :: .ref 123 :: .ref 124 :: .ref 125 :: .int x.sam :: .ref 126 :: .ref 127 :: .int x.hm :: .ref 128 :: .int x.dr :: .int x.cm :: .ref 129 :: .ref 130 :: .ref 131 :: []))) (by decide) hv xup_s (xup_o hG2 (by decide)) (by rw [if_neg (by omega)]) (fun i hi => by unfold shG; rw [if_pos hi, if_neg (by omega)])).2 (nI 242)
        rw [s_Mo_remember_11]
        try simp only [s_Mo_remember_0, s_Mo_remember_1, s_Mo_remember_4, s_Mo_remember_6, s_Mo_remember_9, s_Mo_remember_10, s_Mo_remember_12, s_Mo_remember_15, s_Mo_remember_18, s_Mo_remember_19, s_Mo_remember_22, s_Mo_remember_23, s_Mo_remember_24, s_Mo_remember_27, s_Mo_remember_28, s_Mo_remember_30, s_Mo_remember_31, s_Mo_remember_32, s_Mo_remember_33, s_Mo_remember_36, s_Mo_remember_39, s_Mo_remember_40, s_Mo_remember_41, s_Mo_remember_44, s_Mo_remember_45, s_Mo_remember_46, s_Mo_remember_50, s_Mo_remember_51, s_Mo_remember_54, s_Mo_remember_56, s_Mo_remember_57, s_Mo_remember_60, s_Mo_remember_61, s_Mo_remember_64, s_Mo_remember_65, s_Mo_remember_66, s_Mo_remember_69, s_Mo_remember_70, s_Mo_remember_71, s_Mo_remember_74, xg_0, xg_s, xF_up, xPf_up, xO_up, xAi_up, xAl_up, xLn_up, xup_xup, ty_i, ty_b, ty_z, ty_l, ty_q, tb_b, tb_z, xup_2, xpI_s, xpL_s, xpV_s, xpQ_n, xpQ_r, yl_0, yl_1, yl_2, yl_3, yl_4, yl_5, yl_6, xcs_nil, xcs_i, xcs_a, xcs_l, xcs_n, xNl_z, xNl_s, xNl_i, xNl_a, xNl_n, xNl_d, cat_i, cat_a, cat_n, List.getElem?_cons_zero, List.getElem?_cons_succ, List.set_cons_zero, List.set_cons_succ, List.length_cons, List.length_nil, true_and, and_true, eq_self, ite_true, ite_false, if_true, if_false, or_true, true_or, or_false, false_or, Nat.reduceAdd, Nat.reduceLT, Nat.reduceLeDiff, Nat.reduceEqDiff, Nat.reduceSub, ↓reduceIte, reduceCtorEq, not_false_eq_true, not_true_eq_false, false_implies, true_implies, forall_const, imp_self, implies_true, Nat.add_left_cancel_iff, Nat.left_eq_add, Nat.add_eq_left, Nat.zero_lt_succ, Nat.lt_add_left_iff_pos, one_ne_zero_n, zero_ne_one_n, zero_ne_one_i, one_ne_zero_i, xF_r o2, xPf_r o2, xO_r o2, show nI 12 - 1 = nI 11 by decide]
        exact ⟨fun _ => f1, fun z => absurd (show (242 : Int32) ≤ nI 242 by decide) z⟩
      · intro h2 ha o2 hG2
        have v1 := vin (show j < 264 by omega) (by decide)
        have v2 := nI_clamp (show j < 2 ^ 31 by omega)
        have v3 := vin (show j + 22 < 264 by omega) (by decide)
        have v4 := nI_clamp (show j + 22 < 2 ^ 31 by omega)
        have ej : nI j + 22 = nI (j + 22) := nI_ad j 22
        have es : shG G j (j + 22) = G (j + 22) := by unfold shG; rw [if_neg (by omega)]
        rw [s_Mo_remember_11]
        try simp only [s_Mo_remember_0, s_Mo_remember_1, s_Mo_remember_4, s_Mo_remember_6, s_Mo_remember_9, s_Mo_remember_10, s_Mo_remember_12, s_Mo_remember_15, s_Mo_remember_18, s_Mo_remember_19, s_Mo_remember_22, s_Mo_remember_23, s_Mo_remember_24, s_Mo_remember_27, s_Mo_remember_28, s_Mo_remember_30, s_Mo_remember_31, s_Mo_remember_32, s_Mo_remember_33, s_Mo_remember_36, s_Mo_remember_39, s_Mo_remember_40, s_Mo_remember_41, s_Mo_remember_44, s_Mo_remember_45, s_Mo_remember_46, s_Mo_remember_50, s_Mo_remember_51, s_Mo_remember_54, s_Mo_remember_56, s_Mo_remember_57, s_Mo_remember_60, s_Mo_remember_61, s_Mo_remember_64, s_Mo_remember_65, s_Mo_remember_66, s_Mo_remember_69, s_Mo_remember_70, s_Mo_remember_71, s_Mo_remember_74, xg_0, xg_s, xF_up, xPf_up, xO_up, xAi_up, xAl_up, xLn_up, xup_xup, ty_i, ty_b, ty_z, ty_l, ty_q, tb_b, tb_z, xup_2, xpI_s, xpL_s, xpV_s, xpQ_n, xpQ_r, yl_0, yl_1, yl_2, yl_3, yl_4, yl_5, yl_6, xcs_nil, xcs_i, xcs_a, xcs_l, xcs_n, xNl_z, xNl_s, xNl_i, xNl_a, xNl_n, xNl_d, cat_i, cat_a, cat_n, List.getElem?_cons_zero, List.getElem?_cons_succ, List.set_cons_zero, List.set_cons_succ, List.length_cons, List.length_nil, true_and, and_true, eq_self, ite_true, ite_false, if_true, if_false, or_true, true_or, or_false, false_or, Nat.reduceAdd, Nat.reduceLT, Nat.reduceLeDiff, Nat.reduceEqDiff, Nat.reduceSub, ↓reduceIte, reduceCtorEq, not_false_eq_true, not_true_eq_false, false_implies, true_implies, forall_const, imp_self, implies_true, Nat.add_left_cancel_iff, Nat.left_eq_add, Nat.add_eq_left, Nat.zero_lt_succ, Nat.lt_add_left_iff_pos, one_ne_zero_n, zero_ne_one_n, zero_ne_one_i, one_ne_zero_i, xF_r o2, xPf_r o2, xO_r o2, xAi_r hG2, xLn_r hG2, ej, v1, v2, v3, v4, es, shG_s, nI_1]
        exact ⟨fun z => absurd z (nI_ge hj (by decide)), fun _ => ih _ (xAg_up ha (by simp)) (xup_o o2 (by decide)) xup_s⟩
    rw [e] at o1
    try simp only [s_Mo_remember_0, s_Mo_remember_1, s_Mo_remember_4, s_Mo_remember_6, s_Mo_remember_9, s_Mo_remember_10, s_Mo_remember_12, s_Mo_remember_15, s_Mo_remember_18, s_Mo_remember_19, s_Mo_remember_22, s_Mo_remember_23, s_Mo_remember_24, s_Mo_remember_27, s_Mo_remember_28, s_Mo_remember_30, s_Mo_remember_31, s_Mo_remember_32, s_Mo_remember_33, s_Mo_remember_36, s_Mo_remember_39, s_Mo_remember_40, s_Mo_remember_41, s_Mo_remember_44, s_Mo_remember_45, s_Mo_remember_46, s_Mo_remember_50, s_Mo_remember_51, s_Mo_remember_54, s_Mo_remember_56, s_Mo_remember_57, s_Mo_remember_60, s_Mo_remember_61, s_Mo_remember_64, s_Mo_remember_65, s_Mo_remember_66, s_Mo_remember_69, s_Mo_remember_70, s_Mo_remember_71, s_Mo_remember_74, xg_0, xg_s, xF_up, xPf_up, xO_up, xAi_up, xAl_up, xLn_up, xup_xup, ty_i, ty_b, ty_z, ty_l, ty_q, tb_b, tb_z, xup_2, xpI_s, xpL_s, xpV_s, xpQ_n, xpQ_r, yl_0, yl_1, yl_2, yl_3, yl_4, yl_5, yl_6, xcs_nil, xcs_i, xcs_a, xcs_l, xcs_n, xNl_z, xNl_s, xNl_i, xNl_a, xNl_n, xNl_d, cat_i, cat_a, cat_n, List.getElem?_cons_zero, List.getElem?_cons_succ, List.set_cons_zero, List.set_cons_succ, List.length_cons, List.length_nil, true_and, and_true, eq_self, ite_true, ite_false, if_true, if_false, or_true, true_or, or_false, false_or, Nat.reduceAdd, Nat.reduceLT, Nat.reduceLeDiff, Nat.reduceEqDiff, Nat.reduceSub, ↓reduceIte, reduceCtorEq, not_false_eq_true, not_true_eq_false, false_implies, true_implies, forall_const, imp_self, implies_true, Nat.add_left_cancel_iff, Nat.left_eq_add, Nat.add_eq_left, Nat.zero_lt_succ, Nat.lt_add_left_iff_pos, one_ne_zero_n, zero_ne_one_n, zero_ne_one_i, one_ne_zero_i, xF_r o1, xPf_r o1, xO_r o1, e1, show nI 12 = (12 : Int32) by rfl]
    exact loop 0 (Nat.zero_le _) hp (xAg_rf _ _) o1 (by rw [shG_0]; exact u4)
  · have e1 : ¬ nI s.ac = 12 := fun z => e ((nI_eq (b := 12) (by omega) (by decide)).mp z)
    have f1 := (fin s.ac G hp (by omega) (xAg_rf _ _) o1 u4 (by rw [if_pos (by omega)]) (fun i hi => by rw [if_pos (by omega)])).1
    try simp only [s_Mo_remember_0, s_Mo_remember_1, s_Mo_remember_4, s_Mo_remember_6, s_Mo_remember_9, s_Mo_remember_10, s_Mo_remember_12, s_Mo_remember_15, s_Mo_remember_18, s_Mo_remember_19, s_Mo_remember_22, s_Mo_remember_23, s_Mo_remember_24, s_Mo_remember_27, s_Mo_remember_28, s_Mo_remember_30, s_Mo_remember_31, s_Mo_remember_32, s_Mo_remember_33, s_Mo_remember_36, s_Mo_remember_39, s_Mo_remember_40, s_Mo_remember_41, s_Mo_remember_44, s_Mo_remember_45, s_Mo_remember_46, s_Mo_remember_50, s_Mo_remember_51, s_Mo_remember_54, s_Mo_remember_56, s_Mo_remember_57, s_Mo_remember_60, s_Mo_remember_61, s_Mo_remember_64, s_Mo_remember_65, s_Mo_remember_66, s_Mo_remember_69, s_Mo_remember_70, s_Mo_remember_71, s_Mo_remember_74, xg_0, xg_s, xF_up, xPf_up, xO_up, xAi_up, xAl_up, xLn_up, xup_xup, ty_i, ty_b, ty_z, ty_l, ty_q, tb_b, tb_z, xup_2, xpI_s, xpL_s, xpV_s, xpQ_n, xpQ_r, yl_0, yl_1, yl_2, yl_3, yl_4, yl_5, yl_6, xcs_nil, xcs_i, xcs_a, xcs_l, xcs_n, xNl_z, xNl_s, xNl_i, xNl_a, xNl_n, xNl_d, cat_i, cat_a, cat_n, List.getElem?_cons_zero, List.getElem?_cons_succ, List.set_cons_zero, List.set_cons_succ, List.length_cons, List.length_nil, true_and, and_true, eq_self, ite_true, ite_false, if_true, if_false, or_true, true_or, or_false, false_or, Nat.reduceAdd, Nat.reduceLT, Nat.reduceLeDiff, Nat.reduceEqDiff, Nat.reduceSub, ↓reduceIte, reduceCtorEq, not_false_eq_true, not_true_eq_false, false_implies, true_implies, forall_const, imp_self, implies_true, Nat.add_left_cancel_iff, Nat.left_eq_add, Nat.add_eq_left, Nat.zero_lt_succ, Nat.lt_add_left_iff_pos, one_ne_zero_n, zero_ne_one_n, zero_ne_one_i, one_ne_zero_i, xF_r o1, xPf_r o1, xO_r o1, e1]
    exact f1
end MO10
