/-! ===== the model's calls: ways ===== -/
def mys (h : Int32 → Int32 → Int32 → Int32) (Nl : Nat) : Nat → Int32 → Int32 → Int32 → List (List Int32)
  | 0, _, _, g => if g = 0 then [[]] else []
  | L + 1, a, day, g => catW (fun p => mys h Nl L (ymin 9999 (a + h a day (nI p))) (day + 1) (g - h a day (nI p))) Nl 0
theorem catW_nil {f : Nat → List (List Int32)} (h : ∀ p, f p = []) : ∀ m p, catW f m p = [] := by
  intro m
  induction m with
  | zero => exact fun _ => rfl
  | succ m ih =>
    intro p
    show (f p).map (fun r => nI p :: r) ++ catW f m (p + 1) = []
    rw [h p, ih]
    rfl
theorem nI_dif {G0 H0 : Nat} (hG : G0 < 2 ^ 20) (hH : H0 < 2 ^ 20) : nI G0 - nI H0 = 0 ↔ G0 = H0 := by
  have h0 : (nI G0).toInt = (G0 : Int) := Int32.toInt_ofNat_of_lt (by omega)
  have h1 : (nI H0).toInt = (H0 : Int) := Int32.toInt_ofNat_of_lt (by omega)
  have h2 : (nI G0 - nI H0).toInt = (G0 : Int) - (H0 : Int) := by
    rw [Int32.toInt_sub, h0, h1, Int.bmod_eq_of_le (by omega) (by omega)]
  constructor
  · intro z
    rw [z] at h2
    have h3 : (0 : Int32).toInt = 0 := by decide
    omega
  · intro z
    rw [z]
    exact Int32.sub_self _
theorem dif_sub (G0 H0 x : Nat) : nI G0 - nI H0 - nI x = nI G0 - nI (H0 + x) := by
  rw [← nI_ad, Int32.sub_eq_add_neg, Int32.sub_eq_add_neg, Int32.sub_eq_add_neg, Int32.neg_add, Int32.sub_eq_add_neg, Int32.add_assoc]
theorem mys_nil {h : Int32 → Int32 → Int32 → Int32} {Nl G0 : Nat} (hh : ∀ a d p, ∃ x, x < 10 ∧ h a d p = nI x) (hG : G0 ≤ 36) : ∀ L H0 a day, L ≤ 4 → H0 + 9 * L ≤ 72 → (G0 < H0 ∨ H0 + 9 * L < G0) → mys h Nl L a day (nI G0 - nI H0) = [] := by
  intro L
  induction L with
  | zero =>
    intro H0 a day hL hb hx
    unfold mys
    rw [if_neg (fun z => by
      have := (nI_dif (by omega) (by omega)).mp z
      omega)]
  | succ L ih =>
    intro H0 a day hL hb hx
    unfold mys
    refine catW_nil (fun p => ?_) _ _
    obtain ⟨u, hu10, eu⟩ := hh a day (nI p)
    rw [eu, dif_sub]
    exact ih _ _ _ (by omega) (by omega) (by omega)
theorem wys_mys {h : Int32 → Int32 → Int32 → Int32} {Nl G0 : Nat} (hh : ∀ a d p, ∃ x, x < 10 ∧ h a d p = nI x) (hG : G0 ≤ 36) : ∀ L H0 a day, L ≤ 4 → H0 + 9 * L ≤ 72 → wys h (nI G0) Nl L a day (nI H0) = mys h Nl L a day (nI G0 - nI H0) := by
  intro L
  induction L with
  | zero =>
    intro H0 a day hL hb
    have hy := ylead_nI (G0 := G0) (A0 := H0) (L := 0) (by omega) (by omega) (by omega)
    unfold wys mys
    by_cases e : G0 = H0
    · rw [if_pos (hy.mpr (by omega)), if_pos ((nI_dif (by omega) (by omega)).mpr e)]
    · rw [if_neg (fun z => by have := hy.mp z; omega), if_neg (fun z => e ((nI_dif (by omega) (by omega)).mp z))]
  | succ L ih =>
    intro H0 a day hL hb
    have hy := ylead_nI (G0 := G0) (A0 := H0) (L := L + 1) (by omega) (by omega) (by omega)
    by_cases e : ylead (nI G0 - nI H0) (nI (L + 1)) = 0
    · unfold wys mys
      rw [if_pos e]
      congr 1
      funext p
      obtain ⟨u, hu10, eu⟩ := hh a day (nI p)
      rw [eu, dif_sub, nI_ad H0 u]
      exact ih _ _ _ (by omega) (by omega)
    · rw [mys_nil hh hG (L + 1) H0 a day hL hb (by
        have hn : ¬ (H0 ≤ G0 ∧ G0 ≤ H0 + 9 * (L + 1)) := fun z => e (hy.mpr z)
        omega)]
      unfold wys
      rw [if_neg e]
theorem catW_mem {f : Nat → List (List Int32)} {L : Nat} (h : ∀ p r, r ∈ f p → r.length = L) : ∀ m p r, r ∈ catW f m p → r.length = L + 1 := by
  intro m
  induction m with
  | zero => exact fun _ _ hr => nomatch hr
  | succ m ih =>
    intro p r hr
    have hr2 : r ∈ (f p).map (fun r => nI p :: r) ++ catW f m (p + 1) := hr
    rcases List.mem_append.mp hr2 with h1 | h1
    · obtain ⟨u, hu, rfl⟩ := List.mem_map.mp h1
      rw [List.length_cons, h p u hu]
    · exact ih _ _ h1
theorem mys_mem {h : Int32 → Int32 → Int32 → Int32} {Nl : Nat} : ∀ L a day g r, r ∈ mys h Nl L a day g → r.length = L := by
  intro L
  induction L with
  | zero =>
    intro a day g r hr
    unfold mys at hr
    split at hr
    · rw [List.mem_singleton.mp hr]
      rfl
    · exact nomatch hr
  | succ L ih =>
    intro a day g r hr
    unfold mys at hr
    exact catW_mem (fun p r hr => ih _ _ _ r hr) _ _ r hr
theorem mys_le {h : Int32 → Int32 → Int32 → Int32} {Nl : Nat} (hNl : Nl ≤ 6) : ∀ L a day g, (mys h Nl L a day g).length ≤ 6 ^ L := by
  intro L
  induction L with
  | zero =>
    intro a day g
    unfold mys
    split
    · exact Nat.le_refl _
    · exact Nat.zero_le _
  | succ L ih =>
    intro a day g
    unfold mys
    refine Nat.le_trans (catW_len _ (6 ^ L) (fun p => ih _ _ _) Nl 0) ?_
    rw [Nat.pow_succ, Nat.mul_comm (6 ^ L) 6]
    exact Nat.mul_le_mul_right _ hNl
def wcl2 : List Nat := [103, 113, 116, 117, 120, 121, 122]
/-- what the best line holds behind a list of ways found, w ways known before -/
def wbl (w : Nat) (bl ln bl2 : Nat → Int32) (D N : Nat) (W : List (List Int32)) : Prop := (¬ w = 0 ∨ W = [] → ∀ k, k < N → bl2 k = bl k) ∧ (w = 0 → ∀ r rs, W = r :: rs → (∀ k, k < D → bl2 k = ln k) ∧ ypath bl2 D r)
theorem ypath_of {pa pb : Nat → Int32} (r : List Int32) : ∀ s, (∀ i, s ≤ i → i < s + r.length → pa i = pb i) → ypath pa s r → ypath pb s r := by
  induction r with
  | nil => exact fun _ _ _ => trivial
  | cons u r ih =>
    intro s h hy
    refine ⟨(h s (Nat.le_refl _) (by rw [List.length_cons]; omega)).symm.trans hy.1, ih (s + 1) (fun i h1 h2 => h i (by omega) (by rw [List.length_cons]; omega)) hy.2⟩
section MO26
variable {l : Launch} {b lo gz f t B i : Nat} {hp hq : xHp} {x y : SO} {s : St} {q : Fk} {n one other v sky ot k set hh spot z a day : Int32} {g G T : Nat → Int32}
theorem isMM_wm (h : isMM hp x s) (ha : xAg hp hq [103, 122]) (ho : isO hq (x.wWm v)) (h22 : ∃ g, hq.1 122 = .inl (.int, 7, .inl g)) : isMM hq (x.wWm v) s := by
  have hs : mSc hq := by
    obtain ⟨⟨g1, h1⟩, ⟨g2, h2⟩, ⟨g3, h3⟩, ⟨g4, h4⟩, ⟨g5, h5⟩, ⟨g6, h6'⟩, ⟨g7, h7⟩, ⟨g8, h8⟩, ⟨g9, h9'⟩, ⟨g10, h10⟩, ⟨g11, h11⟩, ⟨g12, h12⟩⟩ := h.sc
    exact ⟨⟨_, xAg_at ha (by simp) h1⟩, ⟨_, xAg_at ha (by simp) h2⟩, ⟨_, xAg_at ha (by simp) h3⟩, ⟨_, xAg_at ha (by simp) h4⟩, ⟨_, xAg_at ha (by simp) h5⟩, ⟨_, xAg_at ha (by simp) h6'⟩, ⟨_, xAg_at ha (by simp) h7⟩, ⟨_, xAg_at ha (by simp) h8⟩, ⟨_, xAg_at ha (by simp) h9'⟩, h22, ⟨_, xAg_at ha (by simp) h11⟩, ⟨_, xAg_at ha (by simp) h12⟩⟩
  exact ⟨isME_of ha (by simp) h.me ho rfl rfl rfl rfl rfl (h7_ag ha (by simp) h.me) (h8_ag ha (by simp) h.me), h.ru, mTx_ag ha (by simp) h.tx, mRw_ag ha (by simp) h.rw, isMk_ag ha (by simp) h.nw, mUn_ag ha (by simp) h.un, mSa_ag ha (by simp) h.sa, mHe_ag ha (by simp) h.he, mKp_ag ha (by simp) h.kp, hs⟩
theorem m_goWays {N : Nat} (hi : i < s.now.n) (hB : B + 400 < 2 ^ 31) (hN : N ≤ 4) : ∀ (L d D w : Nat) (hp : xHp) (x : SO) (T ln bl : Nat → Int32) (q : Fk) (a day g : Int32) (Bq : Nat) (K : xHp → Prop), D + L = N → isMM hp x s → hp.1 120 = .inl (.int, 110, .inl T) → hp.1 121 = .inl (.int, 7, .inl ln) → hp.1 122 = .inl (.int, 7, .inl bl) → mkR T (22 * D) q → wq s i q a day → dyF q Bq → Bq + L < 2 ^ 31 → x.wm = nI w → w + 6 ^ L < 2 ^ 31 →
    (∀ hq y T2 ln2 bl2, xAg hp hq wcl2 → isMM hq y s → y.wm = nI (w + (mys (whs s s.now i) s.nl L a day g).length) → hq.1 120 = .inl (.int, 110, .inl T2) → hq.1 121 = .inl (.int, 7, .inl ln2) → hq.1 122 = .inl (.int, 7, .inl bl2) → (∀ k, k < 22 * (D + 1) → T2 k = T k) → (∀ k, k < D → ln2 k = ln k) → wbl w bl ln bl2 D N (mys (whs s s.now i) s.nl L a day g) → K hq) →
    xMv l (d + L + 70) b lo gz m_Mo_goWays [.ref 103, .int (nI D), .int (nI N), .int (nI i), .int g] hp K := by
  intro L
  induction L with
  | zero =>
    intro d D w hp x T ln bl q a day g Bq K hDL h hT hln hbl hr hw hd hBq hwm hwb hK
    have eD : D = N := by omega
    subst eD
    unfold mys at hK
    obtain ⟨rd, le, tp, at2, wr, o1⟩ := isO_raw h.me.1
    rw [hwm] at o1
    refine xMC_V ok_Mo_goWays (by decide) (L0 := [.ref 103, .int (nI D), .int (nI D), .int (nI i), .int g, .retAddr 0, .retAddr 0]) rfl rfl ?_
    by_cases e : g = 0
    case neg =>
      rw [if_neg e] at hK
      have k1 := hK hp x T ln bl (xAg_rf _ _) h hwm hT hln hbl (fun _ _ => rfl) (fun _ _ => rfl) ⟨fun _ _ _ => rfl, fun _ _ _ z => (nomatch z)⟩
      try simp only [s_Mo_goWays_0, s_Mo_goWays_1, s_Mo_goWays_2, s_Mo_goWays_5, s_Mo_goWays_7, s_Mo_goWays_10, s_Mo_goWays_11, s_Mo_goWays_12, s_Mo_goWays_16, s_Mo_goWays_17, s_Mo_goWays_20, s_Mo_goWays_21, s_Mo_goWays_24, s_Mo_goWays_27, s_Mo_goWays_28, s_Mo_goWays_31, s_Mo_goWays_33, s_Mo_goWays_34, s_Mo_goWays_37, s_Mo_goWays_39, s_Mo_goWays_40, s_Mo_goWays_41, s_Mo_goWays_44, s_Mo_goWays_47, s_Mo_goWays_48, s_Mo_goWays_49, s_Mo_goWays_52, s_Mo_goWays_53, s_Mo_goWays_54, s_Mo_goWays_57, s_Mo_goWays_58, s_Mo_goWays_59, s_Mo_goWays_63, s_Mo_goWays_64, s_Mo_goWays_67, s_Mo_goWays_70, s_Mo_goWays_71, s_Mo_goWays_72, s_Mo_goWays_73, s_Mo_goWays_75, s_Mo_goWays_78, s_Mo_goWays_80, s_Mo_goWays_81, s_Mo_goWays_84, s_Mo_goWays_85, s_Mo_goWays_87, s_Mo_goWays_88, s_Mo_goWays_89, s_Mo_goWays_90, s_Mo_goWays_91, s_Mo_goWays_92, s_Mo_goWays_93, s_Mo_goWays_94, s_Mo_goWays_96, s_Mo_goWays_98, s_Mo_goWays_99, s_Mo_goWays_102, s_Mo_goWays_105, s_Mo_goWays_108, xg_0, xg_s, xF_up, xPf_up, xO_up, xAi_up, xAl_up, xLn_up, xup_xup, ty_i, ty_b, ty_z, ty_l, ty_q, tb_b, tb_z, xup_2, xpI_s, xpL_s, xpV_s, xpQ_n, xpQ_r, yl_0, yl_1, yl_2, yl_3, yl_4, yl_5, yl_6, xcs_nil, xcs_i, xcs_a, xcs_l, xcs_n, xNl_z, xNl_s, xNl_i, xNl_a, xNl_n, xNl_d, cat_i, cat_a, cat_n, List.getElem?_cons_zero, List.getElem?_cons_succ, List.set_cons_zero, List.set_cons_succ, List.length_cons, List.length_nil, true_and, and_true, eq_self, ite_true, ite_false, if_true, if_false, or_true, true_or, or_false, false_or, Nat.reduceAdd, Nat.reduceLT, Nat.reduceLeDiff, Nat.reduceEqDiff, Nat.reduceSub, ↓reduceIte, reduceCtorEq, not_false_eq_true, not_true_eq_false, false_implies, true_implies, forall_const, imp_self, implies_true, Nat.add_left_cancel_iff, Nat.left_eq_add, Nat.add_eq_left, Nat.zero_lt_succ, Nat.lt_add_left_iff_pos, one_ne_zero_n, zero_ne_one_n, zero_ne_one_i, one_ne_zero_i, e]
      exact k1
    rw [if_pos e] at hK
    have fin : ∀ (z5 : Value) (z6 : Value) h2 bl2, xAg hp h2 [122] → h2.1 122 = .inl (.int, 7, .inl bl2) → wbl w bl ln bl2 D D [[]] → xV k_Mo_goWays (l, d + 0 + 70, b, lo, gz, hp.2.1, hp.2.2, m_Mo_goWays, xpV K) 47 [.ref 103, .int (nI D), .int (nI D), .int (nI i), .int g, z5, z6] [] h2 := by
      intro z5 z6 h2 bl2 ha2 hb2 hwb2
      have o2 := xAg_at ha2 (by simp) o1
      have hv : xAg h2 (xup h2 103 (.inr (12, .ref 104 :: .int x.pe :: .int x.pl :: .ref 105 :: .ref 106 :: .int x.sm :: .ref 107 :: .int x.ty :: .ref 108 :: .int x.rm :: .int x.th :: rd :: .int le :: .int tp :: .int at2 :: .int wr :: .ref 109 :: .ref 110 :: .ref x.ru :: .ref x.oru :: .int x.rs :: .int 0 :: .ref 113 :: .ref 114 :: .int x.um :: .ref 115 :: .ref 116 :: .ref 117 :: .ref 118 :: .ref 119 :: .ref 120 :: .ref 121 :: .int (nI (w + 1)) :: .ref 122 :: .ref 123 :: .ref 124 :: .ref 125 :: .int x.sam :: .ref 126 :: .ref 127 :: .int x.hm :: .ref 128 :: .int x.dr :: .int x.cm :: .ref 129 :: .ref 130 :: .ref 131 :: []))) [103] := xAg_up (xAg_rf _ _) (by simp)
      have hv2 : xAg hp (xup h2 103 (.inr (12, .ref 104 :: .int x.pe :: .int x.pl :: .ref 105 :: .ref 106 :: .int x.sm :: .ref 107 :: .int x.ty :: .ref 108 :: .int x.rm :: .int x.th :: rd :: .int le :: .int tp :: .int at2 :: .int wr :: .ref 109 :: .ref 110 :: .ref x.ru :: .ref x.oru :: .int x.rs :: .int 0 :: .ref 113 :: .ref 114 :: .int x.um :: .ref 115 :: .ref 116 :: .ref 117 :: .ref 118 :: .ref 119 :: .ref 120 :: .ref 121 :: .int (nI (w + 1)) :: .ref 122 :: .ref 123 :: .ref 124 :: .ref 125 :: .int x.sam :: .ref 126 :: .ref 127 :: .int x.hm :: .ref 128 :: .int x.dr :: .int x.cm :: .ref 129 :: .ref 130 :: .ref 131 :: []))) [103, 122] := xAg_tr (xAg_tr (xAg_rf _ _) ha2 (by simp)) hv (by simp)
      have k1 := hK _ (x.wWm (nI (w + 1))) T ln bl2 (xAg_tr (xAg_rf _ _) hv2 (by decide)) (isMM_wm h hv2 (isO_wm xup_s) ⟨bl2, xup_o hb2 (by decide)⟩) rfl (xAg_at hv2 (by simp) hT) (xAg_at hv2 (by simp) hln) (xup_o hb2 (by decide)) (fun _ _ => rfl) (fun _ _ => rfl) hwb2
      rw [s_Mo_goWays_47]
      try simp only [s_Mo_goWays_0, s_Mo_goWays_1, s_Mo_goWays_2, s_Mo_goWays_5, s_Mo_goWays_7, s_Mo_goWays_10, s_Mo_goWays_11, s_Mo_goWays_12, s_Mo_goWays_16, s_Mo_goWays_17, s_Mo_goWays_20, s_Mo_goWays_21, s_Mo_goWays_24, s_Mo_goWays_27, s_Mo_goWays_28, s_Mo_goWays_31, s_Mo_goWays_33, s_Mo_goWays_34, s_Mo_goWays_37, s_Mo_goWays_39, s_Mo_goWays_40, s_Mo_goWays_41, s_Mo_goWays_44, s_Mo_goWays_47, s_Mo_goWays_48, s_Mo_goWays_49, s_Mo_goWays_52, s_Mo_goWays_53, s_Mo_goWays_54, s_Mo_goWays_57, s_Mo_goWays_58, s_Mo_goWays_59, s_Mo_goWays_63, s_Mo_goWays_64, s_Mo_goWays_67, s_Mo_goWays_70, s_Mo_goWays_71, s_Mo_goWays_72, s_Mo_goWays_73, s_Mo_goWays_75, s_Mo_goWays_78, s_Mo_goWays_80, s_Mo_goWays_81, s_Mo_goWays_84, s_Mo_goWays_85, s_Mo_goWays_87, s_Mo_goWays_88, s_Mo_goWays_89, s_Mo_goWays_90, s_Mo_goWays_91, s_Mo_goWays_92, s_Mo_goWays_93, s_Mo_goWays_94, s_Mo_goWays_96, s_Mo_goWays_98, s_Mo_goWays_99, s_Mo_goWays_102, s_Mo_goWays_105, s_Mo_goWays_108, xg_0, xg_s, xF_up, xPf_up, xO_up, xAi_up, xAl_up, xLn_up, xup_xup, ty_i, ty_b, ty_z, ty_l, ty_q, tb_b, tb_z, xup_2, xpI_s, xpL_s, xpV_s, xpQ_n, xpQ_r, yl_0, yl_1, yl_2, yl_3, yl_4, yl_5, yl_6, xcs_nil, xcs_i, xcs_a, xcs_l, xcs_n, xNl_z, xNl_s, xNl_i, xNl_a, xNl_n, xNl_d, cat_i, cat_a, cat_n, List.getElem?_cons_zero, List.getElem?_cons_succ, List.set_cons_zero, List.set_cons_succ, List.length_cons, List.length_nil, true_and, and_true, eq_self, ite_true, ite_false, if_true, if_false, or_true, true_or, or_false, false_or, Nat.reduceAdd, Nat.reduceLT, Nat.reduceLeDiff, Nat.reduceEqDiff, Nat.reduceSub, ↓reduceIte, reduceCtorEq, not_false_eq_true, not_true_eq_false, false_implies, true_implies, forall_const, imp_self, implies_true, Nat.add_left_cancel_iff, Nat.left_eq_add, Nat.add_eq_left, Nat.zero_lt_succ, Nat.lt_add_left_iff_pos, one_ne_zero_n, zero_ne_one_n, zero_ne_one_i, one_ne_zero_i, xF_r o2, xPf_r o2, xO_r o2, nI_1]
      exact k1
    have loop : ∀ j, j ≤ D → ∀ h2 bl2, xAg hp h2 [122] → h2.1 122 = .inl (.int, 7, .inl bl2) → (¬ w = 0 → bl2 = bl) → (w = 0 → ∀ k, k < j → bl2 k = ln k) → (¬ w = 0 → j = 0) → xV k_Mo_goWays (l, d + 0 + 70, b, lo, gz, hp.2.1, hp.2.2, m_Mo_goWays, xpV K) 14 [.ref 103, .int (nI D), .int (nI D), .int (nI i), .int g, .int (nI j), .retAddr 0] [] h2 := by
      refine yloop D ?_ fun j hj ih => ?_
      · intro h2 bl2 ha2 hb2 e1 e2 _
        rw [s_Mo_goWays_14]
        try simp only [s_Mo_goWays_0, s_Mo_goWays_1, s_Mo_goWays_2, s_Mo_goWays_5, s_Mo_goWays_7, s_Mo_goWays_10, s_Mo_goWays_11, s_Mo_goWays_12, s_Mo_goWays_16, s_Mo_goWays_17, s_Mo_goWays_20, s_Mo_goWays_21, s_Mo_goWays_24, s_Mo_goWays_27, s_Mo_goWays_28, s_Mo_goWays_31, s_Mo_goWays_33, s_Mo_goWays_34, s_Mo_goWays_37, s_Mo_goWays_39, s_Mo_goWays_40, s_Mo_goWays_41, s_Mo_goWays_44, s_Mo_goWays_48, s_Mo_goWays_49, s_Mo_goWays_52, s_Mo_goWays_53, s_Mo_goWays_54, s_Mo_goWays_57, s_Mo_goWays_58, s_Mo_goWays_59, s_Mo_goWays_63, s_Mo_goWays_64, s_Mo_goWays_67, s_Mo_goWays_70, s_Mo_goWays_71, s_Mo_goWays_72, s_Mo_goWays_73, s_Mo_goWays_75, s_Mo_goWays_78, s_Mo_goWays_80, s_Mo_goWays_81, s_Mo_goWays_84, s_Mo_goWays_85, s_Mo_goWays_87, s_Mo_goWays_88, s_Mo_goWays_89, s_Mo_goWays_90, s_Mo_goWays_91, s_Mo_goWays_92, s_Mo_goWays_93, s_Mo_goWays_94, s_Mo_goWays_96, s_Mo_goWays_98, s_Mo_goWays_99, s_Mo_goWays_102, s_Mo_goWays_105, s_Mo_goWays_108, xg_0, xg_s, xF_up, xPf_up, xO_up, xAi_up, xAl_up, xLn_up, xup_xup, ty_i, ty_b, ty_z, ty_l, ty_q, tb_b, tb_z, xup_2, xpI_s, xpL_s, xpV_s, xpQ_n, xpQ_r, yl_0, yl_1, yl_2, yl_3, yl_4, yl_5, yl_6, xcs_nil, xcs_i, xcs_a, xcs_l, xcs_n, xNl_z, xNl_s, xNl_i, xNl_a, xNl_n, xNl_d, cat_i, cat_a, cat_n, List.getElem?_cons_zero, List.getElem?_cons_succ, List.set_cons_zero, List.set_cons_succ, List.length_cons, List.length_nil, true_and, and_true, eq_self, ite_true, ite_false, if_true, if_false, or_true, true_or, or_false, false_or, Nat.reduceAdd, Nat.reduceLT, Nat.reduceLeDiff, Nat.reduceEqDiff, Nat.reduceSub, ↓reduceIte, reduceCtorEq, not_false_eq_true, not_true_eq_false, false_implies, true_implies, forall_const, imp_self, implies_true, Nat.add_left_cancel_iff, Nat.left_eq_add, Nat.add_eq_left, Nat.zero_lt_succ, Nat.lt_add_left_iff_pos, one_ne_zero_n, zero_ne_one_n, zero_ne_one_i, one_ne_zero_i]
        refine ⟨fun _ => fin _ _ h2 bl2 ha2 hb2 ⟨fun z k hk => ?_, fun z r rs er => ?_⟩, fun z => absurd (nI_le (Nat.le_refl _) (by omega)) z⟩
        · rcases z with z | z
          · rw [e1 z]
          · exact nomatch z
        · cases er
          exact ⟨e2 z, trivial⟩
      · intro h2 bl2 ha2 hb2 e1 e2 e3
        have o2 := xAg_at ha2 (by simp) o1
        have v5 : ¬ nI D ≤ nI j := nI_ge hj (by omega)
        rw [s_Mo_goWays_14]
        by_cases z0 : w = 0
        · have z1 : nI w = 0 := by rw [z0]; rfl
          have hl2 := xAg_at ha2 (by simp) hln
          have w1 := vin (show j < 7 by omega) (by decide)
          have w2 := nI_clamp (show j < 2 ^ 31 by omega)
          try simp only [s_Mo_goWays_0, s_Mo_goWays_1, s_Mo_goWays_2, s_Mo_goWays_5, s_Mo_goWays_7, s_Mo_goWays_10, s_Mo_goWays_11, s_Mo_goWays_12, s_Mo_goWays_16, s_Mo_goWays_17, s_Mo_goWays_20, s_Mo_goWays_21, s_Mo_goWays_24, s_Mo_goWays_27, s_Mo_goWays_28, s_Mo_goWays_31, s_Mo_goWays_33, s_Mo_goWays_34, s_Mo_goWays_37, s_Mo_goWays_39, s_Mo_goWays_40, s_Mo_goWays_41, s_Mo_goWays_44, s_Mo_goWays_48, s_Mo_goWays_49, s_Mo_goWays_52, s_Mo_goWays_53, s_Mo_goWays_54, s_Mo_goWays_57, s_Mo_goWays_58, s_Mo_goWays_59, s_Mo_goWays_63, s_Mo_goWays_64, s_Mo_goWays_67, s_Mo_goWays_70, s_Mo_goWays_71, s_Mo_goWays_72, s_Mo_goWays_73, s_Mo_goWays_75, s_Mo_goWays_78, s_Mo_goWays_80, s_Mo_goWays_81, s_Mo_goWays_84, s_Mo_goWays_85, s_Mo_goWays_87, s_Mo_goWays_88, s_Mo_goWays_89, s_Mo_goWays_90, s_Mo_goWays_91, s_Mo_goWays_92, s_Mo_goWays_93, s_Mo_goWays_94, s_Mo_goWays_96, s_Mo_goWays_98, s_Mo_goWays_99, s_Mo_goWays_102, s_Mo_goWays_105, s_Mo_goWays_108, xg_0, xg_s, xF_up, xPf_up, xO_up, xAi_up, xAl_up, xLn_up, xup_xup, ty_i, ty_b, ty_z, ty_l, ty_q, tb_b, tb_z, xup_2, xpI_s, xpL_s, xpV_s, xpQ_n, xpQ_r, yl_0, yl_1, yl_2, yl_3, yl_4, yl_5, yl_6, xcs_nil, xcs_i, xcs_a, xcs_l, xcs_n, xNl_z, xNl_s, xNl_i, xNl_a, xNl_n, xNl_d, cat_i, cat_a, cat_n, List.getElem?_cons_zero, List.getElem?_cons_succ, List.set_cons_zero, List.set_cons_succ, List.length_cons, List.length_nil, true_and, and_true, eq_self, ite_true, ite_false, if_true, if_false, or_true, true_or, or_false, false_or, Nat.reduceAdd, Nat.reduceLT, Nat.reduceLeDiff, Nat.reduceEqDiff, Nat.reduceSub, ↓reduceIte, reduceCtorEq, not_false_eq_true, not_true_eq_false, false_implies, true_implies, forall_const, imp_self, implies_true, Nat.add_left_cancel_iff, Nat.left_eq_add, Nat.add_eq_left, Nat.zero_lt_succ, Nat.lt_add_left_iff_pos, one_ne_zero_n, zero_ne_one_n, zero_ne_one_i, one_ne_zero_i, xF_r o2, xPf_r o2, xO_r o2, v5, z1, xAi_r hb2, xLn_r hb2, xAi_r hl2, xLn_r hl2, w1, w2, nI_1]
          refine ih _ (upd bl2 j (ln j)) (xAg_up ha2 (by simp)) xup_s (fun z => absurd z0 z) (fun _ k hk => ?_) (fun z => absurd z0 z)
          unfold upd
          by_cases e9 : k = j
          · rw [if_pos e9, e9]
          · rw [if_neg e9]
            exact e2 z0 k (by omega)
        · have z1 : ¬ nI w = 0 := fun z => z0 ((nI_eq (b := 0) (by omega) (by decide)).mp z)
          try simp only [s_Mo_goWays_0, s_Mo_goWays_1, s_Mo_goWays_2, s_Mo_goWays_5, s_Mo_goWays_7, s_Mo_goWays_10, s_Mo_goWays_11, s_Mo_goWays_12, s_Mo_goWays_16, s_Mo_goWays_17, s_Mo_goWays_20, s_Mo_goWays_21, s_Mo_goWays_24, s_Mo_goWays_27, s_Mo_goWays_28, s_Mo_goWays_31, s_Mo_goWays_33, s_Mo_goWays_34, s_Mo_goWays_37, s_Mo_goWays_39, s_Mo_goWays_40, s_Mo_goWays_41, s_Mo_goWays_44, s_Mo_goWays_48, s_Mo_goWays_49, s_Mo_goWays_52, s_Mo_goWays_53, s_Mo_goWays_54, s_Mo_goWays_57, s_Mo_goWays_58, s_Mo_goWays_59, s_Mo_goWays_63, s_Mo_goWays_64, s_Mo_goWays_67, s_Mo_goWays_70, s_Mo_goWays_71, s_Mo_goWays_72, s_Mo_goWays_73, s_Mo_goWays_75, s_Mo_goWays_78, s_Mo_goWays_80, s_Mo_goWays_81, s_Mo_goWays_84, s_Mo_goWays_85, s_Mo_goWays_87, s_Mo_goWays_88, s_Mo_goWays_89, s_Mo_goWays_90, s_Mo_goWays_91, s_Mo_goWays_92, s_Mo_goWays_93, s_Mo_goWays_94, s_Mo_goWays_96, s_Mo_goWays_98, s_Mo_goWays_99, s_Mo_goWays_102, s_Mo_goWays_105, s_Mo_goWays_108, xg_0, xg_s, xF_up, xPf_up, xO_up, xAi_up, xAl_up, xLn_up, xup_xup, ty_i, ty_b, ty_z, ty_l, ty_q, tb_b, tb_z, xup_2, xpI_s, xpL_s, xpV_s, xpQ_n, xpQ_r, yl_0, yl_1, yl_2, yl_3, yl_4, yl_5, yl_6, xcs_nil, xcs_i, xcs_a, xcs_l, xcs_n, xNl_z, xNl_s, xNl_i, xNl_a, xNl_n, xNl_d, cat_i, cat_a, cat_n, List.getElem?_cons_zero, List.getElem?_cons_succ, List.set_cons_zero, List.set_cons_succ, List.length_cons, List.length_nil, true_and, and_true, eq_self, ite_true, ite_false, if_true, if_false, or_true, true_or, or_false, false_or, Nat.reduceAdd, Nat.reduceLT, Nat.reduceLeDiff, Nat.reduceEqDiff, Nat.reduceSub, ↓reduceIte, reduceCtorEq, not_false_eq_true, not_true_eq_false, false_implies, true_implies, forall_const, imp_self, implies_true, Nat.add_left_cancel_iff, Nat.left_eq_add, Nat.add_eq_left, Nat.zero_lt_succ, Nat.lt_add_left_iff_pos, one_ne_zero_n, zero_ne_one_n, zero_ne_one_i, one_ne_zero_i, xF_r o2, xPf_r o2, xO_r o2, v5, z1]
          refine fin _ _ h2 bl2 ha2 hb2 ⟨fun z k hk => by rw [e1 z0], fun z => absurd z z0⟩
    try simp only [s_Mo_goWays_0, s_Mo_goWays_1, s_Mo_goWays_2, s_Mo_goWays_5, s_Mo_goWays_7, s_Mo_goWays_10, s_Mo_goWays_11, s_Mo_goWays_12, s_Mo_goWays_16, s_Mo_goWays_17, s_Mo_goWays_20, s_Mo_goWays_21, s_Mo_goWays_24, s_Mo_goWays_27, s_Mo_goWays_28, s_Mo_goWays_31, s_Mo_goWays_33, s_Mo_goWays_34, s_Mo_goWays_37, s_Mo_goWays_39, s_Mo_goWays_40, s_Mo_goWays_41, s_Mo_goWays_44, s_Mo_goWays_48, s_Mo_goWays_49, s_Mo_goWays_52, s_Mo_goWays_53, s_Mo_goWays_54, s_Mo_goWays_57, s_Mo_goWays_58, s_Mo_goWays_59, s_Mo_goWays_63, s_Mo_goWays_64, s_Mo_goWays_67, s_Mo_goWays_70, s_Mo_goWays_71, s_Mo_goWays_72, s_Mo_goWays_73, s_Mo_goWays_75, s_Mo_goWays_78, s_Mo_goWays_80, s_Mo_goWays_81, s_Mo_goWays_84, s_Mo_goWays_85, s_Mo_goWays_87, s_Mo_goWays_88, s_Mo_goWays_89, s_Mo_goWays_90, s_Mo_goWays_91, s_Mo_goWays_92, s_Mo_goWays_93, s_Mo_goWays_94, s_Mo_goWays_96, s_Mo_goWays_98, s_Mo_goWays_99, s_Mo_goWays_102, s_Mo_goWays_105, s_Mo_goWays_108, xg_0, xg_s, xF_up, xPf_up, xO_up, xAi_up, xAl_up, xLn_up, xup_xup, ty_i, ty_b, ty_z, ty_l, ty_q, tb_b, tb_z, xup_2, xpI_s, xpL_s, xpV_s, xpQ_n, xpQ_r, yl_0, yl_1, yl_2, yl_3, yl_4, yl_5, yl_6, xcs_nil, xcs_i, xcs_a, xcs_l, xcs_n, xNl_z, xNl_s, xNl_i, xNl_a, xNl_n, xNl_d, cat_i, cat_a, cat_n, List.getElem?_cons_zero, List.getElem?_cons_succ, List.set_cons_zero, List.set_cons_succ, List.length_cons, List.length_nil, true_and, and_true, eq_self, ite_true, ite_false, if_true, if_false, or_true, true_or, or_false, false_or, Nat.reduceAdd, Nat.reduceLT, Nat.reduceLeDiff, Nat.reduceEqDiff, Nat.reduceSub, ↓reduceIte, reduceCtorEq, not_false_eq_true, not_true_eq_false, false_implies, true_implies, forall_const, imp_self, implies_true, Nat.add_left_cancel_iff, Nat.left_eq_add, Nat.add_eq_left, Nat.zero_lt_succ, Nat.lt_add_left_iff_pos, one_ne_zero_n, zero_ne_one_n, zero_ne_one_i, one_ne_zero_i, e]
    have l0 := loop 0 (Nat.zero_le _) hp bl (xAg_rf _ _) hbl (fun _ => rfl) (fun _ k hk => absurd hk (Nat.not_lt_zero _)) (fun _ => rfl)
    rw [e] at l0
    exact l0
  | succ L ihL =>
    intro d D w hp x T ln bl q a day g Bq K hDL h hT hln hbl hr hw hd hBq hwm hwb hK
    have h7 := h.me.2.1.2
    have hl6 := h.me.2.2.1.2
    have eDN : ¬ nI D = nI N := fun z => by
      have := (nI_eq (by omega) (by omega)).mp z
      omega
    unfold mys at hK
    have hmem : ∀ p r, r ∈ mys (whs s s.now i) s.nl L (ymin 9999 (a + whs s s.now i a day (nI p))) (day + 1) (g - whs s s.now i a day (nI p)) → r.length = L := fun p r hr => mys_mem L _ _ _ r hr
    have hle : ∀ p, (mys (whs s s.now i) s.nl L (ymin 9999 (a + whs s s.now i a day (nI p))) (day + 1) (g - whs s s.now i a day (nI p))).length ≤ 6 ^ L := fun p => mys_le hl6 L _ _ _
    have h6 : 6 ^ (L + 1) = 6 * 6 ^ L := by rw [Nat.pow_succ, Nat.mul_comm]
    rw [h6] at hwb
    refine xMC_V ok_Mo_goWays (by decide) (L0 := [.ref 103, .int (nI D), .int (nI N), .int (nI i), .int g, .retAddr 0, .retAddr 0]) rfl rfl ?_
    have loop : ∀ j, j ≤ s.nl → ∀ (z6 : Value) (W1 : List (List Int32)) h2 y2 T2 ln2 bl2, W1 ++ catW (fun p => mys (whs s s.now i) s.nl L (ymin 9999 (a + whs s s.now i a day (nI p))) (day + 1) (g - whs s s.now i a day (nI p))) (s.nl - j) j = catW (fun p => mys (whs s s.now i) s.nl L (ymin 9999 (a + whs s s.now i a day (nI p))) (day + 1) (g - whs s s.now i a day (nI p))) s.nl 0 → (∀ r, r ∈ W1 → r.length = L + 1) → W1.length ≤ j * 6 ^ L → xAg hp h2 wcl2 → isMM h2 y2 s → y2.wm = nI (w + W1.length) → h2.1 120 = .inl (.int, 110, .inl T2) → h2.1 121 = .inl (.int, 7, .inl ln2) → h2.1 122 = .inl (.int, 7, .inl bl2) → (∀ k, k < 22 * (D + 1) → T2 k = T k) → (∀ k, k < D → ln2 k = ln k) → wbl w bl ln bl2 D N W1 → xV k_Mo_goWays (l, d + (L + 1) + 70, b, lo, gz, hp.2.1, hp.2.2, m_Mo_goWays, xpV K) 61 [.ref 103, .int (nI D), .int (nI N), .int (nI i), .int g, .int (nI j), z6] [] h2 := by
      refine yloop s.nl ?_ fun j hj ih => ?_
      · intro z6 W1 h2 y2 T2 ln2 bl2 hW hWm hWl ha2 hM2 hwm2 hT2 hl2 hb2 hTk hlk hwb2
        obtain ⟨rd2, le2, tp2, at22, wr2, o2⟩ := isO_raw hM2.me.1
        rw [show y2.pl = nI s.nl from hM2.me.2.2.1.1] at o2
        rw [Nat.sub_self] at hW
        have hW2 : W1 = catW (fun p => mys (whs s s.now i) s.nl L (ymin 9999 (a + whs s s.now i a day (nI p))) (day + 1) (g - whs s s.now i a day (nI p))) s.nl 0 := (List.append_nil W1).symm.trans hW
        rw [hW2] at hwm2 hwb2
        rw [s_Mo_goWays_61]
        try simp only [s_Mo_goWays_0, s_Mo_goWays_1, s_Mo_goWays_2, s_Mo_goWays_5, s_Mo_goWays_7, s_Mo_goWays_10, s_Mo_goWays_11, s_Mo_goWays_12, s_Mo_goWays_16, s_Mo_goWays_17, s_Mo_goWays_20, s_Mo_goWays_21, s_Mo_goWays_24, s_Mo_goWays_27, s_Mo_goWays_28, s_Mo_goWays_31, s_Mo_goWays_33, s_Mo_goWays_34, s_Mo_goWays_37, s_Mo_goWays_39, s_Mo_goWays_40, s_Mo_goWays_41, s_Mo_goWays_44, s_Mo_goWays_47, s_Mo_goWays_48, s_Mo_goWays_49, s_Mo_goWays_52, s_Mo_goWays_53, s_Mo_goWays_54, s_Mo_goWays_57, s_Mo_goWays_58, s_Mo_goWays_59, s_Mo_goWays_63, s_Mo_goWays_64, s_Mo_goWays_67, s_Mo_goWays_70, s_Mo_goWays_71, s_Mo_goWays_72, s_Mo_goWays_73, s_Mo_goWays_75, s_Mo_goWays_78, s_Mo_goWays_80, s_Mo_goWays_81, s_Mo_goWays_84, s_Mo_goWays_85, s_Mo_goWays_87, s_Mo_goWays_88, s_Mo_goWays_89, s_Mo_goWays_90, s_Mo_goWays_91, s_Mo_goWays_92, s_Mo_goWays_93, s_Mo_goWays_94, s_Mo_goWays_96, s_Mo_goWays_98, s_Mo_goWays_99, s_Mo_goWays_102, s_Mo_goWays_105, s_Mo_goWays_108, xg_0, xg_s, xF_up, xPf_up, xO_up, xAi_up, xAl_up, xLn_up, xup_xup, ty_i, ty_b, ty_z, ty_l, ty_q, tb_b, tb_z, xup_2, xpI_s, xpL_s, xpV_s, xpQ_n, xpQ_r, yl_0, yl_1, yl_2, yl_3, yl_4, yl_5, yl_6, xcs_nil, xcs_i, xcs_a, xcs_l, xcs_n, xNl_z, xNl_s, xNl_i, xNl_a, xNl_n, xNl_d, cat_i, cat_a, cat_n, List.getElem?_cons_zero, List.getElem?_cons_succ, List.set_cons_zero, List.set_cons_succ, List.length_cons, List.length_nil, true_and, and_true, eq_self, ite_true, ite_false, if_true, if_false, or_true, true_or, or_false, false_or, Nat.reduceAdd, Nat.reduceLT, Nat.reduceLeDiff, Nat.reduceEqDiff, Nat.reduceSub, ↓reduceIte, reduceCtorEq, not_false_eq_true, not_true_eq_false, false_implies, true_implies, forall_const, imp_self, implies_true, Nat.add_left_cancel_iff, Nat.left_eq_add, Nat.add_eq_left, Nat.zero_lt_succ, Nat.lt_add_left_iff_pos, one_ne_zero_n, zero_ne_one_n, zero_ne_one_i, one_ne_zero_i, xF_r o2, xPf_r o2, xO_r o2]
        exact ⟨fun _ => hK h2 y2 T2 ln2 bl2 ha2 hM2 hwm2 hT2 hl2 hb2 hTk hlk hwb2, fun z => absurd (nI_le (Nat.le_refl _) (by omega)) z⟩
      · intro z6 W1 h2 y2 T2 ln2 bl2 hW hWm hWl ha2 hM2 hwm2 hT2 hl2 hb2 hTk hlk hwb2
        obtain ⟨rd2, le2, tp2, at22, wr2, o2⟩ := isO_raw hM2.me.1
        rw [show y2.pl = nI s.nl from hM2.me.2.2.1.1] at o2
        have v5 : ¬ nI s.nl ≤ nI j := nI_ge hj (by omega)
        have hr2 : mkR T2 (22 * D) q := mkR_cg hr (by rw [hw.1]; exact h7) (fun c hc => hTk _ (by omega))
        have hj6 : (j + 1) * 6 ^ L ≤ 6 * 6 ^ L := Nat.mul_le_mul_right _ (by omega)
        have hj7 : (j + 1) * 6 ^ L = j * 6 ^ L + 6 ^ L := Nat.succ_mul _ _
        rw [show s.nl - j = (s.nl - (j + 1)) + 1 by omega] at hW
        rw [s_Mo_goWays_61]
        try simp only [s_Mo_goWays_0, s_Mo_goWays_1, s_Mo_goWays_2, s_Mo_goWays_5, s_Mo_goWays_7, s_Mo_goWays_10, s_Mo_goWays_11, s_Mo_goWays_12, s_Mo_goWays_16, s_Mo_goWays_17, s_Mo_goWays_20, s_Mo_goWays_21, s_Mo_goWays_24, s_Mo_goWays_27, s_Mo_goWays_28, s_Mo_goWays_31, s_Mo_goWays_33, s_Mo_goWays_34, s_Mo_goWays_37, s_Mo_goWays_39, s_Mo_goWays_40, s_Mo_goWays_41, s_Mo_goWays_44, s_Mo_goWays_47, s_Mo_goWays_48, s_Mo_goWays_49, s_Mo_goWays_52, s_Mo_goWays_53, s_Mo_goWays_54, s_Mo_goWays_57, s_Mo_goWays_58, s_Mo_goWays_59, s_Mo_goWays_63, s_Mo_goWays_64, s_Mo_goWays_67, s_Mo_goWays_70, s_Mo_goWays_71, s_Mo_goWays_72, s_Mo_goWays_73, s_Mo_goWays_75, s_Mo_goWays_78, s_Mo_goWays_80, s_Mo_goWays_81, s_Mo_goWays_84, s_Mo_goWays_85, s_Mo_goWays_87, s_Mo_goWays_88, s_Mo_goWays_89, s_Mo_goWays_90, s_Mo_goWays_91, s_Mo_goWays_92, s_Mo_goWays_93, s_Mo_goWays_94, s_Mo_goWays_96, s_Mo_goWays_98, s_Mo_goWays_99, s_Mo_goWays_102, s_Mo_goWays_105, s_Mo_goWays_108, xg_0, xg_s, xF_up, xPf_up, xO_up, xAi_up, xAl_up, xLn_up, xup_xup, ty_i, ty_b, ty_z, ty_l, ty_q, tb_b, tb_z, xup_2, xpI_s, xpL_s, xpV_s, xpQ_n, xpQ_r, yl_0, yl_1, yl_2, yl_3, yl_4, yl_5, yl_6, xcs_nil, xcs_i, xcs_a, xcs_l, xcs_n, xNl_z, xNl_s, xNl_i, xNl_a, xNl_n, xNl_d, cat_i, cat_a, cat_n, List.getElem?_cons_zero, List.getElem?_cons_succ, List.set_cons_zero, List.set_cons_succ, List.length_cons, List.length_nil, true_and, and_true, eq_self, ite_true, ite_false, if_true, if_false, or_true, true_or, or_false, false_or, Nat.reduceAdd, Nat.reduceLT, Nat.reduceLeDiff, Nat.reduceEqDiff, Nat.reduceSub, ↓reduceIte, reduceCtorEq, not_false_eq_true, not_true_eq_false, false_implies, true_implies, forall_const, imp_self, implies_true, Nat.add_left_cancel_iff, Nat.left_eq_add, Nat.add_eq_left, Nat.zero_lt_succ, Nat.lt_add_left_iff_pos, one_ne_zero_n, zero_ne_one_n, zero_ne_one_i, one_ne_zero_i, xF_r o2, xPf_r o2, xO_r o2, v5]
        refine m_goAt hM2 hT2 hr2 hw hd (by omega) hi (by omega) hj fun h3 T3 ha3 hM3 hT3 hTk3 hr3 => ?_
        obtain ⟨rd3, le3, tp3, at23, wr3, o3⟩ := isO_raw hM3.me.1
        have hl3 := xAg_at ha3 (by simp) hl2
        have w1 := vin (show D < 7 by omega) (by decide)
        have w2 := nI_clamp (show D < 2 ^ 31 by omega)
        try simp only [s_Mo_goWays_0, s_Mo_goWays_1, s_Mo_goWays_2, s_Mo_goWays_5, s_Mo_goWays_7, s_Mo_goWays_10, s_Mo_goWays_11, s_Mo_goWays_12, s_Mo_goWays_16, s_Mo_goWays_17, s_Mo_goWays_20, s_Mo_goWays_21, s_Mo_goWays_24, s_Mo_goWays_27, s_Mo_goWays_28, s_Mo_goWays_31, s_Mo_goWays_33, s_Mo_goWays_34, s_Mo_goWays_37, s_Mo_goWays_39, s_Mo_goWays_40, s_Mo_goWays_41, s_Mo_goWays_44, s_Mo_goWays_47, s_Mo_goWays_48, s_Mo_goWays_49, s_Mo_goWays_52, s_Mo_goWays_53, s_Mo_goWays_54, s_Mo_goWays_57, s_Mo_goWays_58, s_Mo_goWays_59, s_Mo_goWays_63, s_Mo_goWays_64, s_Mo_goWays_67, s_Mo_goWays_70, s_Mo_goWays_71, s_Mo_goWays_72, s_Mo_goWays_73, s_Mo_goWays_75, s_Mo_goWays_78, s_Mo_goWays_80, s_Mo_goWays_81, s_Mo_goWays_84, s_Mo_goWays_85, s_Mo_goWays_87, s_Mo_goWays_88, s_Mo_goWays_89, s_Mo_goWays_90, s_Mo_goWays_91, s_Mo_goWays_92, s_Mo_goWays_93, s_Mo_goWays_94, s_Mo_goWays_96, s_Mo_goWays_98, s_Mo_goWays_99, s_Mo_goWays_102, s_Mo_goWays_105, s_Mo_goWays_108, xg_0, xg_s, xF_up, xPf_up, xO_up, xAi_up, xAl_up, xLn_up, xup_xup, ty_i, ty_b, ty_z, ty_l, ty_q, tb_b, tb_z, xup_2, xpI_s, xpL_s, xpV_s, xpQ_n, xpQ_r, yl_0, yl_1, yl_2, yl_3, yl_4, yl_5, yl_6, xcs_nil, xcs_i, xcs_a, xcs_l, xcs_n, xNl_z, xNl_s, xNl_i, xNl_a, xNl_n, xNl_d, cat_i, cat_a, cat_n, List.getElem?_cons_zero, List.getElem?_cons_succ, List.set_cons_zero, List.set_cons_succ, List.length_cons, List.length_nil, true_and, and_true, eq_self, ite_true, ite_false, if_true, if_false, or_true, true_or, or_false, false_or, Nat.reduceAdd, Nat.reduceLT, Nat.reduceLeDiff, Nat.reduceEqDiff, Nat.reduceSub, ↓reduceIte, reduceCtorEq, not_false_eq_true, not_true_eq_false, false_implies, true_implies, forall_const, imp_self, implies_true, Nat.add_left_cancel_iff, Nat.left_eq_add, Nat.add_eq_left, Nat.zero_lt_succ, Nat.lt_add_left_iff_pos, one_ne_zero_n, zero_ne_one_n, zero_ne_one_i, one_ne_zero_i, xF_r o3, xPf_r o3, xO_r o3, xAi_r hl3, xLn_r hl3, w1, w2, nI_1]
        have hv : xAg h3 (xup h3 121 (.inl (.int, 7, .inl (upd ln2 D (nI j))))) [121] := xAg_up (xAg_rf _ _) (by simp)
        have hle1 := hle j
        refine ihL d (D + 1) (w + W1.length) _ y2 T3 (upd ln2 D (nI j)) bl2 (dst s (wgo q i j)) _ _ _ (Bq + 1) _ (by omega) (isMM_ln hM3) (xup_o hT3 (by decide)) xup_s (xup_o (xAg_at ha3 (by simp) hb2) (by decide)) hr3 (wq_go hw hi h7 hj).1 (dyF_dit (k := 1) (show dyF (wgo q i j) Bq from hd)) (by omega) hwm2 (by omega) (fun h5 y5 T5 ln5 bl5 ha5 hM5 hwm5 hT5 hl5 hb5 hTk5 hlk5 hwb5 => ?_)
        have hlen : (W1 ++ (mys (whs s s.now i) s.nl L (ymin 9999 (a + whs s s.now i a day (nI j))) (day + 1) (g - whs s s.now i a day (nI j))).map (fun r => nI j :: r)).length = W1.length + (mys (whs s s.now i) s.nl L (ymin 9999 (a + whs s s.now i a day (nI j))) (day + 1) (g - whs s s.now i a day (nI j))).length := by
          rw [List.length_append, List.length_map]
        have hmj := hmem j
        try simp only [s_Mo_goWays_0, s_Mo_goWays_1, s_Mo_goWays_2, s_Mo_goWays_5, s_Mo_goWays_7, s_Mo_goWays_10, s_Mo_goWays_11, s_Mo_goWays_12, s_Mo_goWays_16, s_Mo_goWays_17, s_Mo_goWays_20, s_Mo_goWays_21, s_Mo_goWays_24, s_Mo_goWays_27, s_Mo_goWays_28, s_Mo_goWays_31, s_Mo_goWays_33, s_Mo_goWays_34, s_Mo_goWays_37, s_Mo_goWays_39, s_Mo_goWays_40, s_Mo_goWays_41, s_Mo_goWays_44, s_Mo_goWays_47, s_Mo_goWays_48, s_Mo_goWays_49, s_Mo_goWays_52, s_Mo_goWays_53, s_Mo_goWays_54, s_Mo_goWays_57, s_Mo_goWays_58, s_Mo_goWays_59, s_Mo_goWays_63, s_Mo_goWays_64, s_Mo_goWays_67, s_Mo_goWays_70, s_Mo_goWays_71, s_Mo_goWays_72, s_Mo_goWays_73, s_Mo_goWays_75, s_Mo_goWays_78, s_Mo_goWays_80, s_Mo_goWays_81, s_Mo_goWays_84, s_Mo_goWays_85, s_Mo_goWays_87, s_Mo_goWays_88, s_Mo_goWays_89, s_Mo_goWays_90, s_Mo_goWays_91, s_Mo_goWays_92, s_Mo_goWays_93, s_Mo_goWays_94, s_Mo_goWays_96, s_Mo_goWays_98, s_Mo_goWays_99, s_Mo_goWays_102, s_Mo_goWays_105, s_Mo_goWays_108, xg_0, xg_s, xF_up, xPf_up, xO_up, xAi_up, xAl_up, xLn_up, xup_xup, ty_i, ty_b, ty_z, ty_l, ty_q, tb_b, tb_z, xup_2, xpI_s, xpL_s, xpV_s, xpQ_n, xpQ_r, yl_0, yl_1, yl_2, yl_3, yl_4, yl_5, yl_6, xcs_nil, xcs_i, xcs_a, xcs_l, xcs_n, xNl_z, xNl_s, xNl_i, xNl_a, xNl_n, xNl_d, cat_i, cat_a, cat_n, List.getElem?_cons_zero, List.getElem?_cons_succ, List.set_cons_zero, List.set_cons_succ, List.length_cons, List.length_nil, true_and, and_true, eq_self, ite_true, ite_false, if_true, if_false, or_true, true_or, or_false, false_or, Nat.reduceAdd, Nat.reduceLT, Nat.reduceLeDiff, Nat.reduceEqDiff, Nat.reduceSub, ↓reduceIte, reduceCtorEq, not_false_eq_true, not_true_eq_false, false_implies, true_implies, forall_const, imp_self, implies_true, Nat.add_left_cancel_iff, Nat.left_eq_add, Nat.add_eq_left, Nat.zero_lt_succ, Nat.lt_add_left_iff_pos, one_ne_zero_n, zero_ne_one_n, zero_ne_one_i, one_ne_zero_i, nI_1]
        refine ih _ (W1 ++ (mys (whs s s.now i) s.nl L (ymin 9999 (a + whs s s.now i a day (nI j))) (day + 1) (g - whs s s.now i a day (nI j))).map (fun r => nI j :: r)) h5 y5 T5 ln5 bl5 ((List.append_assoc _ _ _).trans hW) (fun r hr => ?_) (by rw [hlen, hj7]; omega) (xAg_tr (xAg_tr (xAg_tr ha2 ha3 (by decide)) hv (by decide)) ha5 (by decide)) hM5 (by rw [hlen, ← Nat.add_assoc]; exact hwm5) hT5 hl5 hb5 (fun k hk => ?_) (fun k hk => ?_) ?_
        · rcases List.mem_append.mp hr with h1 | h1
          · exact hWm r h1
          · obtain ⟨u, hu, rfl⟩ := List.mem_map.mp h1
            rw [List.length_cons, hmj u hu]
        · rw [hTk5 k (by omega), hTk3 k (by omega), hTk k hk]
        · rw [hlk5 k (by omega)]
          exact (if_neg (by omega) : upd ln2 D (nI j) k = ln2 k).trans (hlk k hk)
        · generalize mys (whs s s.now i) s.nl L (ymin 9999 (a + whs s s.now i a day (nI j))) (day + 1) (g - whs s s.now i a day (nI j)) = Fj at hwb5 hmj
          refine ⟨fun z k hk => ?_, fun z r rs er => ?_⟩
          · rcases z with z | z
            · rw [hwb5.1 (Or.inl (by omega)) k hk, hwb2.1 (Or.inl z) k hk]
            · obtain ⟨z1, z2⟩ := List.append_eq_nil_iff.mp z
              rw [hwb5.1 (Or.inr (List.map_eq_nil_iff.mp z2)) k hk, hwb2.1 (Or.inr z1) k hk]
          · cases W1 with
            | nil =>
              cases Fj with
              | nil => exact nomatch er
              | cons u us =>
                have er2 : (nI j :: u) :: us.map (fun r => nI j :: r) = r :: rs := er
                cases er2
                obtain ⟨b1, b2⟩ := hwb5.2 (by rw [z]; rfl) u us rfl
                refine ⟨fun k hk => ?_, ⟨?_, b2⟩⟩
                · rw [b1 k (by omega)]
                  exact (if_neg (by omega) : upd ln2 D (nI j) k = ln2 k).trans (hlk k hk)
                · rw [b1 D (by omega)]
                  exact upd_i
            | cons r0 rs0 =>
              have er2 : r0 :: (rs0 ++ Fj.map (fun r => nI j :: r)) = r :: rs := er
              cases er2
              obtain ⟨b1, b2⟩ := hwb2.2 z r rs0 rfl
              have hl0 := hWm r (List.mem_cons_self)
              have e5 := hwb5.1 (Or.inl (by rw [List.length_cons]; omega))
              refine ⟨fun k hk => by rw [e5 k (by omega), b1 k hk], ypath_of r D (fun k h1 h2 => (e5 k (by omega)).symm) b2⟩
    try simp only [s_Mo_goWays_0, s_Mo_goWays_1, s_Mo_goWays_2, s_Mo_goWays_5, s_Mo_goWays_7, s_Mo_goWays_10, s_Mo_goWays_11, s_Mo_goWays_12, s_Mo_goWays_16, s_Mo_goWays_17, s_Mo_goWays_20, s_Mo_goWays_21, s_Mo_goWays_24, s_Mo_goWays_27, s_Mo_goWays_28, s_Mo_goWays_31, s_Mo_goWays_33, s_Mo_goWays_34, s_Mo_goWays_37, s_Mo_goWays_39, s_Mo_goWays_40, s_Mo_goWays_41, s_Mo_goWays_44, s_Mo_goWays_47, s_Mo_goWays_48, s_Mo_goWays_49, s_Mo_goWays_52, s_Mo_goWays_53, s_Mo_goWays_54, s_Mo_goWays_57, s_Mo_goWays_58, s_Mo_goWays_59, s_Mo_goWays_63, s_Mo_goWays_64, s_Mo_goWays_67, s_Mo_goWays_70, s_Mo_goWays_71, s_Mo_goWays_72, s_Mo_goWays_73, s_Mo_goWays_75, s_Mo_goWays_78, s_Mo_goWays_80, s_Mo_goWays_81, s_Mo_goWays_84, s_Mo_goWays_85, s_Mo_goWays_87, s_Mo_goWays_88, s_Mo_goWays_89, s_Mo_goWays_90, s_Mo_goWays_91, s_Mo_goWays_92, s_Mo_goWays_93, s_Mo_goWays_94, s_Mo_goWays_96, s_Mo_goWays_98, s_Mo_goWays_99, s_Mo_goWays_102, s_Mo_goWays_105, s_Mo_goWays_108, xg_0, xg_s, xF_up, xPf_up, xO_up, xAi_up, xAl_up, xLn_up, xup_xup, ty_i, ty_b, ty_z, ty_l, ty_q, tb_b, tb_z, xup_2, xpI_s, xpL_s, xpV_s, xpQ_n, xpQ_r, yl_0, yl_1, yl_2, yl_3, yl_4, yl_5, yl_6, xcs_nil, xcs_i, xcs_a, xcs_l, xcs_n, xNl_z, xNl_s, xNl_i, xNl_a, xNl_n, xNl_d, cat_i, cat_a, cat_n, List.getElem?_cons_zero, List.getElem?_cons_succ, List.set_cons_zero, List.set_cons_succ, List.length_cons, List.length_nil, true_and, and_true, eq_self, ite_true, ite_false, if_true, if_false, or_true, true_or, or_false, false_or, Nat.reduceAdd, Nat.reduceLT, Nat.reduceLeDiff, Nat.reduceEqDiff, Nat.reduceSub, ↓reduceIte, reduceCtorEq, not_false_eq_true, not_true_eq_false, false_implies, true_implies, forall_const, imp_self, implies_true, Nat.add_left_cancel_iff, Nat.left_eq_add, Nat.add_eq_left, Nat.zero_lt_succ, Nat.lt_add_left_iff_pos, one_ne_zero_n, zero_ne_one_n, zero_ne_one_i, one_ne_zero_i, eDN]
    exact loop 0 (Nat.zero_le _) _ [] hp x T ln bl rfl (fun _ hr => nomatch hr) (Nat.zero_le _) (xAg_rf _ _) h hwm hT hln hbl (fun _ _ => rfl) (fun _ _ => rfl) ⟨fun _ _ _ => rfl, fun _ _ _ z => nomatch z⟩
end MO26
