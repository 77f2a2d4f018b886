/-! ===== the model's calls: the way there (one day at a PLACE) ===== -/
def wq (s : St) (i : Nat) (q : Fk) (a day : Int32) : Prop := q.n = s.now.n ∧ q.day = day ∧ q.A i = a ∧ (∀ j, j < q.n → ¬ j = i → q.P j = s.now.P j) ∧ wfP q s.nl
def wgo (q : Fk) (i p : Nat) : Fk := (q.A, upd q.P i (nI p), q.S, q.n, q.day)
theorem fothers_ot {P Q : Nat → Int32} {i : Nat} (x : Int32) (hi : i < 2 ^ 30) : ∀ n, n ≤ 7 → (∀ j, j < n → ¬ j = i → P j = Q j) → fothers P x (nI i) n = fothers Q x (nI i) n := by
  intro n
  induction n with
  | zero => exact fun _ _ => rfl
  | succ n ih =>
    intro hn h
    show fothers P x (nI i) n + (if ¬ nI n = nI i ∧ P n = x then 1 else 0) = fothers Q x (nI i) n + (if ¬ nI n = nI i ∧ Q n = x then 1 else 0)
    rw [ih (by omega) (fun j hj => h j (by omega))]
    by_cases e : n = i
    · rw [if_neg (fun z => z.1 (by rw [e])), if_neg (fun z => z.1 (by rw [e]))]
    · rw [h n (by omega) e]
theorem hof_w {s : St} {i p : Nat} {q : Fk} {a day : Int32} (h : wq s i q a day) (hi : i < s.now.n) (h7 : s.now.n ≤ 7) : hof s (wgo q i p) i = whs s s.now i a day (nI p) := by
  obtain ⟨h1, h2, h3, h4, h5⟩ := h
  have e1 : upd q.P i (nI p) i = nI p := upd_i
  have e2 : fothers (upd q.P i (nI p)) (nI p) (nI i) q.n = fothers s.now.P (nI p) (nI i) s.now.n := by
    rw [h1]
    refine fothers_ot _ (by omega) _ h7 fun j hj hne => ?_
    unfold upd
    rw [if_neg hne]
    exact h4 j (by omega) hne
  show yhrs s.V s.lg q.A q.day (nI i) (upd q.P i (nI p) i) (fothers (upd q.P i (nI p)) (upd q.P i (nI p) i) (nI i) q.n) (ysky s.sk s.tu q.day) = _
  rw [e1, e2, h2]
  unfold yhrs whs wH
  rw [yat_nI (show i < 7 by omega) y7', h3]
theorem wq_go {s : St} {i p : Nat} {q : Fk} {a day : Int32} (h : wq s i q a day) (hi : i < s.now.n) (h7 : s.now.n ≤ 7) (hp : p < s.nl) : wq s i (dst s (wgo q i p)) (ymin 9999 (a + whs s s.now i a day (nI p))) (day + 1) ∧ wfP (wgo q i p) s.nl := by
  have hw := hof_w (p := p) h hi h7
  obtain ⟨h1, h2, h3, h4, h5⟩ := h
  have w2 : wfP (wgo q i p) s.nl := fun j hj => by
    by_cases e : j = i
    · exact ⟨p, hp, by rw [e]; exact upd_i⟩
    · obtain ⟨c, hc, e2⟩ := h5 j hj
      exact ⟨c, hc, (if_neg e : upd q.P i (nI p) j = q.P j).trans e2⟩
  refine ⟨⟨h1, by rw [← h2]; rfl, ?_, fun j hj hne => (if_neg hne : upd q.P i (nI p) j = q.P j).trans (h4 j hj hne), w2⟩, w2⟩
  rw [dst_A s (wgo q i p) i (by rw [show (wgo q i p).n = s.now.n from h1]; exact hi), hw, show (wgo q i p).A i = a from h3]
section MO23
variable {l : Launch} {d b lo gz f t B i : Nat} {hp hq : xHp} {x y : SO} {s : St} {q : Fk} {n one other v sky ot k set w hh spot z a day : Int32} {g G T : Nat → Int32}
theorem isMM_w {X : List Nat} (h : isMM hp x s) (m : isME hq x s) (ha : xAg hp hq X) (hX : ∀ k ∈ X, k = 103 ∨ k = 113 ∨ k = 116 ∨ k = 117 ∨ k = 120 ∨ k = 121 ∨ k = 122) (h6 : ∃ g, hq.1 116 = .inl (.int, 22, .inl g)) (h20 : ∃ g, hq.1 120 = .inl (.int, 110, .inl g)) (h21 : ∃ g, hq.1 121 = .inl (.int, 7, .inl g)) (h22 : ∃ g, hq.1 122 = .inl (.int, 7, .inl g)) : isMM hq x s := by
  have k1 : ∀ k, ¬ (k = 103 ∨ k = 113 ∨ k = 116 ∨ k = 117 ∨ k = 120 ∨ k = 121 ∨ k = 122) → k ∉ X := fun k h1 z => h1 (hX k z)
  have hs : mSc hq := by
    obtain ⟨⟨g1, h1⟩, ⟨g2, h2⟩, ⟨g3, h3⟩, ⟨g4, h4⟩, ⟨g5, h5⟩, ⟨g6, h6'⟩, ⟨g7, h7⟩, ⟨g8, h8⟩, ⟨g9, h9'⟩, ⟨g10, h10⟩, ⟨g11, h11⟩, ⟨g12, h12⟩⟩ := h.sc
    exact ⟨⟨_, xAg_at ha (k1 _ (by decide)) h1⟩, ⟨_, xAg_at ha (k1 _ (by decide)) h2⟩, ⟨_, xAg_at ha (k1 _ (by decide)) h3⟩, ⟨_, xAg_at ha (k1 _ (by decide)) h4⟩, h6, ⟨_, xAg_at ha (k1 _ (by decide)) h6'⟩, ⟨_, xAg_at ha (k1 _ (by decide)) h7⟩, h20, h21, h22, ⟨_, xAg_at ha (k1 _ (by decide)) h11⟩, ⟨_, xAg_at ha (k1 _ (by decide)) h12⟩⟩
  exact ⟨m, h.ru, mTx_ag ha (k1 _ (by decide)) h.tx, mRw_ag ha (k1 _ (by decide)) h.rw, isMk_ag ha (k1 _ (by decide)) h.nw, mUn_ag ha (k1 _ (by decide)) h.un, mSa_ag ha ⟨k1 _ (by decide), k1 _ (by decide)⟩ h.sa, mHe_ag ha ⟨k1 _ (by decide), k1 _ (by decide)⟩ h.he, mKp_ag ha ⟨k1 _ (by decide), k1 _ (by decide), k1 _ (by decide)⟩ h.kp, hs⟩
theorem m_goAt {D p : Nat} {K : Int32 → xHp → Prop} (h : isMM hp x s) (hT : hp.1 120 = .inl (.int, 110, .inl T)) (hr : mkR T (22 * D) q) (hw : wq s i q a day) (hd : dyF q B) (hB : B < 2 ^ 31) (hi : i < s.now.n) (hp4 : D < 4) (hpl : p < s.nl)
    (hK : ∀ hq T2, xAg hp hq [103, 113, 116, 117, 120] → isMM hq x s → hq.1 120 = .inl (.int, 110, .inl T2) → (∀ k, k < 22 * (D + 1) → T2 k = T k) → mkR T2 (22 * (D + 1)) (dst s (wgo q i p)) → K (whs s s.now i a day (nI p)) hq) : xMi l (d + 69) b lo gz m_Mo_goAt [.ref 103, .int (nI D), .int (nI i), .int (nI p)] hp K := by
  have h7 := h.me.2.1.2
  have qn := hw.1
  obtain ⟨-, -, -, -, ⟨g, hg⟩, -⟩ := id h.sc
  obtain ⟨rd1, le1, tp1, at21, wr1, o1⟩ := isO_raw h.me.1
  refine xMC_V ok_Mo_goAt (by decide) (L0 := [.ref 103, .int (nI D), .int (nI i), .int (nI p), .retAddr 0]) rfl rfl ?_
  have loop : ∀ j, j ≤ 22 → ∀ h2, xAg hp h2 [116] → h2.1 116 = .inl (.int, 22, .inl (cpG g T (22 * D) j)) → xV k_Mo_goAt (l, d + 69, b, lo, gz, hp.2.1, hp.2.2, m_Mo_goAt, xpI K) 3 [.ref 103, .int (nI D), .int (nI i), .int (nI p), .int (nI j)] [] h2 := by
    refine yloop 22 ?_ fun j hj ih => ?_
    · intro h2 ha2 hg2
      have o2 := xAg_at ha2 (by simp) o1
      have hm2 : isMk h2 116 q := isMk_cp hg2 hr (by omega)
      obtain ⟨g2, e2, hgk2⟩ := id hm2
      have hM2 := isMM_t h (isME_ag ha2 (by simp) h.me) ha2 (by simp) hm2
      have ei : (7 : Int32) + nI i = nI (7 + i) := nI_ad 7 i
      obtain ⟨v1, v2⟩ := ix7 (show i < 7 by omega) 7 (by decide)
      rw [s_Mo_goAt_3]
      try simp only [s_Mo_goAt_0, s_Mo_goAt_1, s_Mo_goAt_5, s_Mo_goAt_7, s_Mo_goAt_10, s_Mo_goAt_11, s_Mo_goAt_14, s_Mo_goAt_16, s_Mo_goAt_17, s_Mo_goAt_20, s_Mo_goAt_22, s_Mo_goAt_23, s_Mo_goAt_24, s_Mo_goAt_26, s_Mo_goAt_27, s_Mo_goAt_28, s_Mo_goAt_29, s_Mo_goAt_32, s_Mo_goAt_35, s_Mo_goAt_36, s_Mo_goAt_39, s_Mo_goAt_41, s_Mo_goAt_42, s_Mo_goAt_43, s_Mo_goAt_44, s_Mo_goAt_45, s_Mo_goAt_46, s_Mo_goAt_47, s_Mo_goAt_50, s_Mo_goAt_53, s_Mo_goAt_54, s_Mo_goAt_55, s_Mo_goAt_58, s_Mo_goAt_59, s_Mo_goAt_62, s_Mo_goAt_64, s_Mo_goAt_65, s_Mo_goAt_66, s_Mo_goAt_67, s_Mo_goAt_68, s_Mo_goAt_71, s_Mo_goAt_72, s_Mo_goAt_75, s_Mo_goAt_76, s_Mo_goAt_77, xg_0, xg_s, xF_up, xPf_up, xO_up, xAi_up, xAl_up, xLn_up, xup_xup, ty_i, ty_b, ty_z, ty_l, ty_q, tb_b, tb_z, xup_2, xpI_s, xpL_s, xpV_s, xpQ_n, xpQ_r, yl_0, yl_1, yl_2, yl_3, yl_4, yl_5, yl_6, xcs_nil, xcs_i, xcs_a, xcs_l, xcs_n, xNl_z, xNl_s, xNl_i, xNl_a, xNl_n, xNl_d, cat_i, cat_a, cat_n, List.getElem?_cons_zero, List.getElem?_cons_succ, List.set_cons_zero, List.set_cons_succ, List.length_cons, List.length_nil, true_and, and_true, eq_self, ite_true, ite_false, if_true, if_false, or_true, true_or, or_false, false_or, Nat.reduceAdd, Nat.reduceLT, Nat.reduceLeDiff, Nat.reduceEqDiff, Nat.reduceSub, ↓reduceIte, reduceCtorEq, not_false_eq_true, not_true_eq_false, false_implies, true_implies, forall_const, imp_self, implies_true, Nat.add_left_cancel_iff, Nat.left_eq_add, Nat.add_eq_left, Nat.zero_lt_succ, Nat.lt_add_left_iff_pos, one_ne_zero_n, zero_ne_one_n, zero_ne_one_i, one_ne_zero_i, xF_r o2, xPf_r o2, xO_r o2, xAi_r e2, xLn_r e2, ei, v1, v2, show (22 : Int32) ≤ nI 22 by decide, xup_s, show ((103 : Nat) = 116) = False by decide]
      have hv : xAg h2 (xup h2 116 (.inl (.int, 22, .inl (upd g2 (7 + i) (nI p))))) [116] := xAg_up (xAg_rf _ _) (by simp)
      have hm3 : isMk (xup h2 116 (.inl (.int, 22, .inl (upd g2 (7 + i) (nI p))))) 116 (wgo q i p) := isMk_P xup_s hgk2 (by omega) (by omega)
      have hM3 := isMM_t hM2 (isME_ag hv (by simp) hM2.me) hv (by simp) hm3
      have wg := wq_go hw hi h7 hpl
      refine m_goDay hM3 hm3 wg.2 (show dyF (wgo q i p) B from hd) hB qn fun h4 gh ha4 hM4 hk4 hgh hghk => ?_
      obtain ⟨rd4, le4, tp4, at24, wr4, o4⟩ := isO_raw hM4.me.1
      obtain ⟨g4, e4, hgk4⟩ := id hk4
      have hT4 := xAg_at ha4 (by simp) (xAg_at hv (by simp) (xAg_at ha2 (by simp) hT))
      have em : (22 : Int32) * nI (D + 1) = nI (22 * (D + 1)) := nI_mul 22 _
      try simp only [s_Mo_goAt_0, s_Mo_goAt_1, s_Mo_goAt_5, s_Mo_goAt_7, s_Mo_goAt_10, s_Mo_goAt_11, s_Mo_goAt_14, s_Mo_goAt_16, s_Mo_goAt_17, s_Mo_goAt_20, s_Mo_goAt_22, s_Mo_goAt_23, s_Mo_goAt_24, s_Mo_goAt_26, s_Mo_goAt_27, s_Mo_goAt_28, s_Mo_goAt_29, s_Mo_goAt_32, s_Mo_goAt_35, s_Mo_goAt_36, s_Mo_goAt_39, s_Mo_goAt_41, s_Mo_goAt_42, s_Mo_goAt_43, s_Mo_goAt_44, s_Mo_goAt_45, s_Mo_goAt_46, s_Mo_goAt_47, s_Mo_goAt_50, s_Mo_goAt_53, s_Mo_goAt_54, s_Mo_goAt_55, s_Mo_goAt_58, s_Mo_goAt_59, s_Mo_goAt_62, s_Mo_goAt_64, s_Mo_goAt_65, s_Mo_goAt_66, s_Mo_goAt_67, s_Mo_goAt_68, s_Mo_goAt_71, s_Mo_goAt_72, s_Mo_goAt_75, s_Mo_goAt_76, s_Mo_goAt_77, xg_0, xg_s, xF_up, xPf_up, xO_up, xAi_up, xAl_up, xLn_up, xup_xup, ty_i, ty_b, ty_z, ty_l, ty_q, tb_b, tb_z, xup_2, xpI_s, xpL_s, xpV_s, xpQ_n, xpQ_r, yl_0, yl_1, yl_2, yl_3, yl_4, yl_5, yl_6, xcs_nil, xcs_i, xcs_a, xcs_l, xcs_n, xNl_z, xNl_s, xNl_i, xNl_a, xNl_n, xNl_d, cat_i, cat_a, cat_n, List.getElem?_cons_zero, List.getElem?_cons_succ, List.set_cons_zero, List.set_cons_succ, List.length_cons, List.length_nil, true_and, and_true, eq_self, ite_true, ite_false, if_true, if_false, or_true, true_or, or_false, false_or, Nat.reduceAdd, Nat.reduceLT, Nat.reduceLeDiff, Nat.reduceEqDiff, Nat.reduceSub, ↓reduceIte, reduceCtorEq, not_false_eq_true, not_true_eq_false, false_implies, true_implies, forall_const, imp_self, implies_true, Nat.add_left_cancel_iff, Nat.left_eq_add, Nat.add_eq_left, Nat.zero_lt_succ, Nat.lt_add_left_iff_pos, one_ne_zero_n, zero_ne_one_n, zero_ne_one_i, one_ne_zero_i, xF_r o4, xPf_r o4, xO_r o4, nI_1, em]
      refine c_Mo_lay e4 hT4 (by decide) (by omega) (by decide) ?_
      have hv5 : xAg h4 (xup h4 120 (.inl (.int, 110, .inl (lyG T g4 (22 * (D + 1)) 22)))) [120] := xAg_up (xAg_rf _ _) (by simp)
      have o5 := xAg_at hv5 (by simp) o4
      have hgh5 := xAg_at hv5 (by simp) hgh
      have u1 := vin (show i < 7 by omega) (by decide)
      have u2 := nI_clamp (show i < 2 ^ 31 by omega)
      have u3 : gh i = whs s s.now i a day (nI p) := (hghk i (by rw [show (wgo q i p).n = s.now.n from qn]; exact hi)).trans (hof_w hw hi h7)
      try simp only [s_Mo_goAt_0, s_Mo_goAt_1, s_Mo_goAt_5, s_Mo_goAt_7, s_Mo_goAt_10, s_Mo_goAt_11, s_Mo_goAt_14, s_Mo_goAt_16, s_Mo_goAt_17, s_Mo_goAt_20, s_Mo_goAt_22, s_Mo_goAt_23, s_Mo_goAt_24, s_Mo_goAt_26, s_Mo_goAt_27, s_Mo_goAt_28, s_Mo_goAt_29, s_Mo_goAt_32, s_Mo_goAt_35, s_Mo_goAt_36, s_Mo_goAt_39, s_Mo_goAt_41, s_Mo_goAt_42, s_Mo_goAt_43, s_Mo_goAt_44, s_Mo_goAt_45, s_Mo_goAt_46, s_Mo_goAt_47, s_Mo_goAt_50, s_Mo_goAt_53, s_Mo_goAt_54, s_Mo_goAt_55, s_Mo_goAt_58, s_Mo_goAt_59, s_Mo_goAt_62, s_Mo_goAt_64, s_Mo_goAt_65, s_Mo_goAt_66, s_Mo_goAt_67, s_Mo_goAt_68, s_Mo_goAt_71, s_Mo_goAt_72, s_Mo_goAt_75, s_Mo_goAt_76, s_Mo_goAt_77, xg_0, xg_s, xF_up, xPf_up, xO_up, xAi_up, xAl_up, xLn_up, xup_xup, ty_i, ty_b, ty_z, ty_l, ty_q, tb_b, tb_z, xup_2, xpI_s, xpL_s, xpV_s, xpQ_n, xpQ_r, yl_0, yl_1, yl_2, yl_3, yl_4, yl_5, yl_6, xcs_nil, xcs_i, xcs_a, xcs_l, xcs_n, xNl_z, xNl_s, xNl_i, xNl_a, xNl_n, xNl_d, cat_i, cat_a, cat_n, List.getElem?_cons_zero, List.getElem?_cons_succ, List.set_cons_zero, List.set_cons_succ, List.length_cons, List.length_nil, true_and, and_true, eq_self, ite_true, ite_false, if_true, if_false, or_true, true_or, or_false, false_or, Nat.reduceAdd, Nat.reduceLT, Nat.reduceLeDiff, Nat.reduceEqDiff, Nat.reduceSub, ↓reduceIte, reduceCtorEq, not_false_eq_true, not_true_eq_false, false_implies, true_implies, forall_const, imp_self, implies_true, Nat.add_left_cancel_iff, Nat.left_eq_add, Nat.add_eq_left, Nat.zero_lt_succ, Nat.lt_add_left_iff_pos, one_ne_zero_n, zero_ne_one_n, zero_ne_one_i, one_ne_zero_i, xF_r o5, xPf_r o5, xO_r o5, xAi_r hgh5, xLn_r hgh5, u1, u2, u3]
      obtain ⟨-, -, -, -, -, -, -, -, h21, h22, -⟩ := id hM4.sc
      obtain ⟨g21, h21⟩ := h21
      obtain ⟨g22, h22⟩ := h22
      refine hK _ (lyG T g4 (22 * (D + 1)) 22) (xAg_tr (xAg_tr (xAg_tr (xAg_tr (xAg_rf _ _) ha2 (by decide)) hv (by decide)) ha4 (by decide)) hv5 (by decide)) (isMM_w hM4 (isME_ag hv5 (by simp) hM4.me) hv5 (by simp) ⟨g4, xup_o e4 (by decide)⟩ ⟨_, xup_s⟩ ⟨g21, xup_o h21 (by decide)⟩ ⟨g22, xup_o h22 (by decide)⟩) xup_s (fun k hk => lyG_out T g4 _ (by omega)) (mkR_lay hgk4 (by rw [show (dst s (wgo q i p)).n = s.now.n from qn]; exact h7))
    · intro h2 ha2 hg2
      have o2 := xAg_at ha2 (by simp) o1
      have hT2 := xAg_at ha2 (by simp) hT
      have em : (22 : Int32) * nI D = nI (22 * D) := nI_mul 22 _
      have ea : nI (22 * D) + nI j = nI (22 * D + j) := nI_ad _ _
      have w1 := vin (show j < 22 by omega) (by decide)
      have w2 := nI_clamp (show j < 2 ^ 31 by omega)
      have w3 := vin (show 22 * D + j < 110 by omega) (by decide)
      have w4 := nI_clamp (show 22 * D + j < 2 ^ 31 by omega)
      have w5 : ¬ (22 : Int32) ≤ nI j := nI_ge hj (by decide)
      rw [s_Mo_goAt_3]
      try simp only [s_Mo_goAt_0, s_Mo_goAt_1, s_Mo_goAt_5, s_Mo_goAt_7, s_Mo_goAt_10, s_Mo_goAt_11, s_Mo_goAt_14, s_Mo_goAt_16, s_Mo_goAt_17, s_Mo_goAt_20, s_Mo_goAt_22, s_Mo_goAt_23, s_Mo_goAt_24, s_Mo_goAt_26, s_Mo_goAt_27, s_Mo_goAt_28, s_Mo_goAt_29, s_Mo_goAt_32, s_Mo_goAt_35, s_Mo_goAt_36, s_Mo_goAt_39, s_Mo_goAt_41, s_Mo_goAt_42, s_Mo_goAt_43, s_Mo_goAt_44, s_Mo_goAt_45, s_Mo_goAt_46, s_Mo_goAt_47, s_Mo_goAt_50, s_Mo_goAt_53, s_Mo_goAt_54, s_Mo_goAt_55, s_Mo_goAt_58, s_Mo_goAt_59, s_Mo_goAt_62, s_Mo_goAt_64, s_Mo_goAt_65, s_Mo_goAt_66, s_Mo_goAt_67, s_Mo_goAt_68, s_Mo_goAt_71, s_Mo_goAt_72, s_Mo_goAt_75, s_Mo_goAt_76, s_Mo_goAt_77, xg_0, xg_s, xF_up, xPf_up, xO_up, xAi_up, xAl_up, xLn_up, xup_xup, ty_i, ty_b, ty_z, ty_l, ty_q, tb_b, tb_z, xup_2, xpI_s, xpL_s, xpV_s, xpQ_n, xpQ_r, yl_0, yl_1, yl_2, yl_3, yl_4, yl_5, yl_6, xcs_nil, xcs_i, xcs_a, xcs_l, xcs_n, xNl_z, xNl_s, xNl_i, xNl_a, xNl_n, xNl_d, cat_i, cat_a, cat_n, List.getElem?_cons_zero, List.getElem?_cons_succ, List.set_cons_zero, List.set_cons_succ, List.length_cons, List.length_nil, true_and, and_true, eq_self, ite_true, ite_false, if_true, if_false, or_true, true_or, or_false, false_or, Nat.reduceAdd, Nat.reduceLT, Nat.reduceLeDiff, Nat.reduceEqDiff, Nat.reduceSub, ↓reduceIte, reduceCtorEq, not_false_eq_true, not_true_eq_false, false_implies, true_implies, forall_const, imp_self, implies_true, Nat.add_left_cancel_iff, Nat.left_eq_add, Nat.add_eq_left, Nat.zero_lt_succ, Nat.lt_add_left_iff_pos, one_ne_zero_n, zero_ne_one_n, zero_ne_one_i, one_ne_zero_i, xF_r o2, xPf_r o2, xO_r o2, xAi_r hg2, xLn_r hg2, xAi_r hT2, xLn_r hT2, em, ea, w1, w2, w3, w4, w5, cpG_s, nI_1]
      exact ih _ (xAg_up ha2 (by simp)) xup_s
  try simp only [s_Mo_goAt_0, s_Mo_goAt_1, s_Mo_goAt_5, s_Mo_goAt_7, s_Mo_goAt_10, s_Mo_goAt_11, s_Mo_goAt_14, s_Mo_goAt_16, s_Mo_goAt_17, s_Mo_goAt_20, s_Mo_goAt_22, s_Mo_goAt_23, s_Mo_goAt_24, s_Mo_goAt_26, s_Mo_goAt_27, s_Mo_goAt_28, s_Mo_goAt_29, s_Mo_goAt_32, s_Mo_goAt_35, s_Mo_goAt_36, s_Mo_goAt_39, s_Mo_goAt_41, s_Mo_goAt_42, s_Mo_goAt_43, s_Mo_goAt_44, s_Mo_goAt_45, s_Mo_goAt_46, s_Mo_goAt_47, s_Mo_goAt_50, s_Mo_goAt_53, s_Mo_goAt_54, s_Mo_goAt_55, s_Mo_goAt_58, s_Mo_goAt_59, s_Mo_goAt_62, s_Mo_goAt_64, s_Mo_goAt_65, s_Mo_goAt_66, s_Mo_goAt_67, s_Mo_goAt_68, s_Mo_goAt_71, s_Mo_goAt_72, s_Mo_goAt_75, s_Mo_goAt_76, s_Mo_goAt_77, xg_0, xg_s, xF_up, xPf_up, xO_up, xAi_up, xAl_up, xLn_up, xup_xup, ty_i, ty_b, ty_z, ty_l, ty_q, tb_b, tb_z, xup_2, xpI_s, xpL_s, xpV_s, xpQ_n, xpQ_r, yl_0, yl_1, yl_2, yl_3, yl_4, yl_5, yl_6, xcs_nil, xcs_i, xcs_a, xcs_l, xcs_n, xNl_z, xNl_s, xNl_i, xNl_a, xNl_n, xNl_d, cat_i, cat_a, cat_n, List.getElem?_cons_zero, List.getElem?_cons_succ, List.set_cons_zero, List.set_cons_succ, List.length_cons, List.length_nil, true_and, and_true, eq_self, ite_true, ite_false, if_true, if_false, or_true, true_or, or_false, false_or, Nat.reduceAdd, Nat.reduceLT, Nat.reduceLeDiff, Nat.reduceEqDiff, Nat.reduceSub, ↓reduceIte, reduceCtorEq, not_false_eq_true, not_true_eq_false, false_implies, true_implies, forall_const, imp_self, implies_true, Nat.add_left_cancel_iff, Nat.left_eq_add, Nat.add_eq_left, Nat.zero_lt_succ, Nat.lt_add_left_iff_pos, one_ne_zero_n, zero_ne_one_n, zero_ne_one_i, one_ne_zero_i]
  exact loop 0 (Nat.zero_le _) hp (xAg_rf _ _) (by rw [cpG_0]; exact hg)
end MO23
