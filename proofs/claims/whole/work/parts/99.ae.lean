/-! ===== the model's calls: comes ===== -/
def mch (h : Int32 → Int32 → Int32 → Int32) (goal : Int32) (Nl : Nat) : Nat → Int32 → Int32 → Option (List Int32)
  | 0, a, _ => if a = goal then some [] else none
  | L + 1, a, day => srch (fun p => mch h goal Nl L (ymin 9999 (a + h a day (nI p))) (day + 1)) Nl 0
theorem srch_none {f : Nat → Option (List Int32)} (h : ∀ p, f p = none) : ∀ m p, srch f m p = none := by
  intro m
  induction m with
  | zero => exact fun _ => rfl
  | succ m ih =>
    intro p
    unfold srch
    rw [h p]
    exact ih _
theorem srch_sn {f : Nat → Option (List Int32)} {m p : Nat} (h : f p = none) : srch f (m + 1) p = srch f m (p + 1) := by
  show (match f p with | some r => some (nI p :: r) | none => srch f m (p + 1)) = _
  rw [h]
theorem srch_ss {f : Nat → Option (List Int32)} {m p : Nat} {r : List Int32} (h : f p = some r) : srch f (m + 1) p = some (nI p :: r) := by
  show (match f p with | some r => some (nI p :: r) | none => srch f m (p + 1)) = _
  rw [h]
theorem mch_len {h : Int32 → Int32 → Int32 → Int32} {goal : Int32} {Nl : Nat} : ∀ L a d2 r, mch h goal Nl L a d2 = some r → r.length = L := by
  intro L
  induction L with
  | zero =>
    intro a d2 r e
    unfold mch at e
    split at e
    · cases e; rfl
    · exact nomatch e
  | succ L ih =>
    intro a d2 r e
    unfold mch at e
    exact srch_len (fun p r2 e2 => ih _ _ _ e2) _ _ _ e
theorem mch_none {h : Int32 → Int32 → Int32 → Int32} {Nl G0 : Nat} (hh : ∀ a d p, ∃ x, x < 10 ∧ h a d p = nI x) (hG : G0 ≤ 9999) : ∀ L A0 day, A0 ≤ 9999 → (G0 < A0 ∨ A0 + 9 * L < G0) → mch h (nI G0) Nl L (nI A0) day = none := by
  intro L
  induction L with
  | zero =>
    intro A0 day hA hx
    unfold mch
    rw [if_neg (fun z => by
      have := (nI_eq (by omega) (by omega)).mp z
      omega)]
  | succ L ih =>
    intro A0 day hA hx
    unfold mch
    refine srch_none (fun p => ?_) _ _
    obtain ⟨x, hx10, ex⟩ := hh (nI A0) day (nI p)
    rw [ex, nI_ad, show (9999 : Int32) = nI 9999 from rfl, ymin_nI (by omega) (by omega)]
    exact ih _ _ (Nat.min_le_left _ _) (by omega)
theorem ylead_nI {G0 A0 L : Nat} (hG : G0 ≤ 9999) (hA : A0 ≤ 9999) (hL : L ≤ 4) : ylead (nI G0 - nI A0) (nI L) = 0 ↔ A0 ≤ G0 ∧ G0 ≤ A0 + 9 * L := by
  have em : (9 : Int32) * nI L = nI (9 * L) := nI_mul 9 L
  unfold ylead
  rw [em]
  by_cases e : A0 ≤ G0
  · rw [nI_sub e, if_neg (nI_pos (by omega))]
    by_cases e2 : G0 - A0 ≤ 9 * L
    · rw [if_pos (nI_le e2 (by omega))]
      exact ⟨fun _ => by omega, fun _ => rfl⟩
    · rw [if_neg (nI_ge (show 9 * L < G0 - A0 by omega) (by omega))]
      exact ⟨fun z => absurd z (by decide), fun z => by omega⟩
  · have e3 : nI G0 - nI A0 < 0 := by
      have h0 : (nI G0).toInt = (G0 : Int) := Int32.toInt_ofNat_of_lt (by omega)
      have h1 : (nI A0).toInt = (A0 : Int) := Int32.toInt_ofNat_of_lt (by omega)
      refine Int32.lt_iff_toInt_lt.mpr ?_
      rw [Int32.toInt_sub, h0, h1, Int.bmod_eq_of_le (by omega) (by omega)]
      show (G0 : Int) - (A0 : Int) < 0
      omega
    rw [if_pos e3]
    exact ⟨fun z => absurd z (by decide), fun z => by omega⟩
theorem rch_mch {h : Int32 → Int32 → Int32 → Int32} {Nl G0 : Nat} (hh : ∀ a d p, ∃ x, x < 10 ∧ h a d p = nI x) (hG : G0 ≤ 9999) : ∀ L A0 day, L ≤ 4 → A0 ≤ 9999 → rch h (nI G0) Nl L (nI A0) day = mch h (nI G0) Nl L (nI A0) day := by
  intro L
  induction L with
  | zero =>
    intro A0 day hL hA
    have hy := ylead_nI hG hA hL
    unfold rch mch
    by_cases e : A0 = G0
    · rw [if_pos (hy.mpr (by omega)), if_pos (by rw [e])]
    · rw [if_neg (fun z => by have := hy.mp z; omega), if_neg (fun z => e ((nI_eq (by omega) (by omega)).mp z))]
  | succ L ih =>
    intro A0 day hL hA
    have hy := ylead_nI hG hA hL
    by_cases e : ylead (nI G0 - nI A0) (nI (L + 1)) = 0
    · unfold rch mch
      rw [if_pos e]
      congr 1
      funext p
      obtain ⟨x, hx10, ex⟩ := hh (nI A0) day (nI p)
      rw [ex, nI_ad, show (9999 : Int32) = nI 9999 from rfl, ymin_nI (by omega) (by omega)]
      exact ih _ _ (by omega) (Nat.min_le_left _ _)
    · have hn : ¬ (A0 ≤ G0 ∧ G0 ≤ A0 + 9 * (L + 1)) := fun z => e (hy.mpr z)
      rw [mch_none hh hG (L + 1) A0 day hA (by omega)]
      unfold rch
      rw [if_neg e]
def wcl : List Nat := [103, 113, 116, 117, 120, 121]
section MO24
variable {l : Launch} {b lo gz f t B i : Nat} {hp hq : xHp} {x y : SO} {s : St} {q : Fk} {n one other v sky ot k set w hh spot z a day : Int32} {g G T : Nat → Int32}
theorem isMM_row {R R2 : Nat → Int64} {k : Nat} (h : isMM hp x (s.wRow R k)) (e : ∀ i, i < k → R i = R2 i) : isMM hp x (s.wRow R2 k) := by
  obtain ⟨h1, h2, R3, h3, h4⟩ := h.rw
  exact ⟨isME_pu h.me rfl rfl rfl rfl rfl rfl, h.ru, h.tx, ⟨h1, h2, R3, h3, fun i hi => (h4 i hi).trans (e i hi)⟩, h.nw, h.un, h.sa, h.he, h.kp, h.sc⟩
theorem isMM_ln {ln : Nat → Int32} (h : isMM hp x s) : isMM (xup hp 121 (.inl (.int, 7, .inl ln))) x s := by
  have hv : xAg hp (xup hp 121 (.inl (.int, 7, .inl ln))) [121] := xAg_up (xAg_rf _ _) (by simp)
  obtain ⟨-, -, -, -, ⟨g6, h6⟩, -, -, ⟨g20, h20⟩, -, ⟨g22, h22⟩, -⟩ := id h.sc
  exact isMM_w h (isME_ag hv (by simp) h.me) hv (by simp) ⟨_, xAg_at hv (by simp) h6⟩ ⟨_, xAg_at hv (by simp) h20⟩ ⟨_, xup_s⟩ ⟨_, xAg_at hv (by simp) h22⟩
theorem m_canCome (hi : i < s.now.n) (hB : B + 400 < 2 ^ 31) : ∀ (L d D : Nat) (hp : xHp) (T ln : Nat → Int32) (q : Fk) (a day : Int32) (Bq : Nat) (K : Int32 → xHp → Prop), D + L ≤ 4 → isMM hp x s → hp.1 120 = .inl (.int, 110, .inl T) → hp.1 121 = .inl (.int, 7, .inl ln) → mkR T (22 * D) q → wq s i q a day → dyF q Bq → Bq + L < 2 ^ 31 →
    (mch (whs s s.now i) v s.nl L a day = none → ∀ hq T2 ln2, xAg hp hq wcl → isMM hq x s → hq.1 120 = .inl (.int, 110, .inl T2) → hq.1 121 = .inl (.int, 7, .inl ln2) → (∀ k, k < 22 * (D + 1) → T2 k = T k) → (∀ k, k < D → ln2 k = ln k) → K 0 hq) →
    (∀ r, mch (whs s s.now i) v s.nl L a day = some r → ∀ hq T2 ln2, xAg hp hq wcl → isMM hq x s → hq.1 120 = .inl (.int, 110, .inl T2) → hq.1 121 = .inl (.int, 7, .inl ln2) → (∀ k, k < 22 * (D + 1) → T2 k = T k) → (∀ k, k < D → ln2 k = ln k) → ypath ln2 D r → K 1 hq) →
    xMi l (d + L + 70) b lo gz m_Mo_canCome [.ref 103, .int (nI D), .int (nI L), .int (nI i), .int v] hp K := by
  intro L
  induction L with
  | zero =>
    intro d D hp T ln q a day Bq K hDL h hT hln hr hw hd hBq hK0 hK1
    have h7 := h.me.2.1.2
    obtain ⟨rd1, le1, tp1, at21, wr1, o1⟩ := isO_raw h.me.1
    have em : (22 : Int32) * nI D = nI (22 * D) := nI_mul 22 _
    have ea : nI (22 * D) + nI i = nI (22 * D + i) := nI_ad _ _
    have w3 := vin (show 22 * D + i < 110 by omega) (by decide)
    have w4 := nI_clamp (show 22 * D + i < 2 ^ 31 by omega)
    have w5 : T (22 * D + i) = a := (hr.1 i (by rw [hw.1]; exact hi)).1.trans hw.2.2.1
    unfold mch at hK0 hK1
    refine xMC_V ok_Mo_canCome (by decide) (L0 := [.ref 103, .int (nI D), .int (nI 0), .int (nI i), .int v, .retAddr 0]) rfl rfl ?_
    by_cases e : a = v
    · have k1 := hK1 [] (if_pos e) hp T ln (xAg_rf _ _) h hT hln (fun _ _ => rfl) (fun _ _ => rfl) trivial
      try simp only [s_Mo_canCome_0, s_Mo_canCome_1, s_Mo_canCome_4, s_Mo_canCome_5, s_Mo_canCome_8, s_Mo_canCome_10, s_Mo_canCome_11, s_Mo_canCome_12, s_Mo_canCome_13, s_Mo_canCome_14, s_Mo_canCome_15, s_Mo_canCome_17, s_Mo_canCome_20, s_Mo_canCome_21, s_Mo_canCome_24, s_Mo_canCome_25, s_Mo_canCome_26, s_Mo_canCome_27, s_Mo_canCome_29, s_Mo_canCome_31, s_Mo_canCome_32, s_Mo_canCome_35, s_Mo_canCome_38, s_Mo_canCome_39, s_Mo_canCome_40, s_Mo_canCome_41, s_Mo_canCome_43, s_Mo_canCome_46, s_Mo_canCome_47, s_Mo_canCome_48, s_Mo_canCome_51, s_Mo_canCome_52, s_Mo_canCome_54, s_Mo_canCome_55, s_Mo_canCome_56, s_Mo_canCome_57, s_Mo_canCome_58, s_Mo_canCome_59, s_Mo_canCome_60, s_Mo_canCome_61, s_Mo_canCome_62, s_Mo_canCome_63, s_Mo_canCome_65, s_Mo_canCome_68, s_Mo_canCome_71, s_Mo_canCome_72, s_Mo_canCome_73, s_Mo_canCome_76, s_Mo_canCome_79, s_Mo_canCome_80, xg_0, xg_s, xF_up, xPf_up, xO_up, xAi_up, xAl_up, xLn_up, xup_xup, ty_i, ty_b, ty_z, ty_l, ty_q, tb_b, tb_z, xup_2, xpI_s, xpL_s, xpV_s, xpQ_n, xpQ_r, yl_0, yl_1, yl_2, yl_3, yl_4, yl_5, yl_6, xcs_nil, xcs_i, xcs_a, xcs_l, xcs_n, xNl_z, xNl_s, xNl_i, xNl_a, xNl_n, xNl_d, cat_i, cat_a, cat_n, List.getElem?_cons_zero, List.getElem?_cons_succ, List.set_cons_zero, List.set_cons_succ, List.length_cons, List.length_nil, true_and, and_true, eq_self, ite_true, ite_false, if_true, if_false, or_true, true_or, or_false, false_or, Nat.reduceAdd, Nat.reduceLT, Nat.reduceLeDiff, Nat.reduceEqDiff, Nat.reduceSub, ↓reduceIte, reduceCtorEq, not_false_eq_true, not_true_eq_false, false_implies, true_implies, forall_const, imp_self, implies_true, Nat.add_left_cancel_iff, Nat.left_eq_add, Nat.add_eq_left, Nat.zero_lt_succ, Nat.lt_add_left_iff_pos, one_ne_zero_n, zero_ne_one_n, zero_ne_one_i, one_ne_zero_i, xF_r o1, xPf_r o1, xO_r o1, show nI 0 = 0 by decide, xAi_r hT, xLn_r hT, em, ea, w3, w4, w5, e]
      exact k1
    · have k1 := hK0 (if_neg e) hp T ln (xAg_rf _ _) h hT hln (fun _ _ => rfl) (fun _ _ => rfl)
      try simp only [s_Mo_canCome_0, s_Mo_canCome_1, s_Mo_canCome_4, s_Mo_canCome_5, s_Mo_canCome_8, s_Mo_canCome_10, s_Mo_canCome_11, s_Mo_canCome_12, s_Mo_canCome_13, s_Mo_canCome_14, s_Mo_canCome_15, s_Mo_canCome_17, s_Mo_canCome_20, s_Mo_canCome_21, s_Mo_canCome_24, s_Mo_canCome_25, s_Mo_canCome_26, s_Mo_canCome_27, s_Mo_canCome_29, s_Mo_canCome_31, s_Mo_canCome_32, s_Mo_canCome_35, s_Mo_canCome_38, s_Mo_canCome_39, s_Mo_canCome_40, s_Mo_canCome_41, s_Mo_canCome_43, s_Mo_canCome_46, s_Mo_canCome_47, s_Mo_canCome_48, s_Mo_canCome_51, s_Mo_canCome_52, s_Mo_canCome_54, s_Mo_canCome_55, s_Mo_canCome_56, s_Mo_canCome_57, s_Mo_canCome_58, s_Mo_canCome_59, s_Mo_canCome_60, s_Mo_canCome_61, s_Mo_canCome_62, s_Mo_canCome_63, s_Mo_canCome_65, s_Mo_canCome_68, s_Mo_canCome_71, s_Mo_canCome_72, s_Mo_canCome_73, s_Mo_canCome_76, s_Mo_canCome_79, s_Mo_canCome_80, xg_0, xg_s, xF_up, xPf_up, xO_up, xAi_up, xAl_up, xLn_up, xup_xup, ty_i, ty_b, ty_z, ty_l, ty_q, tb_b, tb_z, xup_2, xpI_s, xpL_s, xpV_s, xpQ_n, xpQ_r, yl_0, yl_1, yl_2, yl_3, yl_4, yl_5, yl_6, xcs_nil, xcs_i, xcs_a, xcs_l, xcs_n, xNl_z, xNl_s, xNl_i, xNl_a, xNl_n, xNl_d, cat_i, cat_a, cat_n, List.getElem?_cons_zero, List.getElem?_cons_succ, List.set_cons_zero, List.set_cons_succ, List.length_cons, List.length_nil, true_and, and_true, eq_self, ite_true, ite_false, if_true, if_false, or_true, true_or, or_false, false_or, Nat.reduceAdd, Nat.reduceLT, Nat.reduceLeDiff, Nat.reduceEqDiff, Nat.reduceSub, ↓reduceIte, reduceCtorEq, not_false_eq_true, not_true_eq_false, false_implies, true_implies, forall_const, imp_self, implies_true, Nat.add_left_cancel_iff, Nat.left_eq_add, Nat.add_eq_left, Nat.zero_lt_succ, Nat.lt_add_left_iff_pos, one_ne_zero_n, zero_ne_one_n, zero_ne_one_i, one_ne_zero_i, xF_r o1, xPf_r o1, xO_r o1, show nI 0 = 0 by decide, xAi_r hT, xLn_r hT, em, ea, w3, w4, w5, e]
      exact k1
  | succ L ihL =>
    intro d D hp T ln q a day Bq K hDL h hT hln hr hw hd hBq hK0 hK1
    have h7 := h.me.2.1.2
    have hl6 := h.me.2.2.1.2
    have hpl : x.pl = nI s.nl := h.me.2.2.1.1
    have e0 : ¬ nI (L + 1) = 0 := fun z => by
      have := (nI_eq (b := 0) (by omega) (by decide)).mp z
      omega
    unfold mch at hK0 hK1
    refine xMC_V ok_Mo_canCome (by decide) (L0 := [.ref 103, .int (nI D), .int (nI (L + 1)), .int (nI i), .int v, .retAddr 0]) rfl rfl ?_
    have loop : ∀ j, j ≤ s.nl → srch (fun p => mch (whs s s.now i) v s.nl L (ymin 9999 (a + whs s s.now i a day (nI p))) (day + 1)) (s.nl - j) j = srch (fun p => mch (whs s s.now i) v s.nl L (ymin 9999 (a + whs s s.now i a day (nI p))) (day + 1)) s.nl 0 → ∀ h2 T2 ln2, xAg hp h2 wcl → isMM h2 x s → h2.1 120 = .inl (.int, 110, .inl T2) → h2.1 121 = .inl (.int, 7, .inl ln2) → (∀ k, k < 22 * (D + 1) → T2 k = T k) → (∀ k, k < D → ln2 k = ln k) → xV k_Mo_canCome (l, d + (L + 1) + 70, b, lo, gz, hp.2.1, hp.2.2, m_Mo_canCome, xpI K) 29 [.ref 103, .int (nI D), .int (nI (L + 1)), .int (nI i), .int v, .int (nI j)] [] h2 := by
      refine yloop s.nl ?_ fun j hj ih => ?_
      · intro hs h2 T2 ln2 ha2 hM2 hT2 hl2 hTk hlk
        obtain ⟨rd2, le2, tp2, at22, wr2, o2⟩ := isO_raw hM2.me.1
        rw [hpl] at o2
        rw [Nat.sub_self] at hs
        rw [s_Mo_canCome_29]
        try simp only [s_Mo_canCome_0, s_Mo_canCome_1, s_Mo_canCome_4, s_Mo_canCome_5, s_Mo_canCome_8, s_Mo_canCome_10, s_Mo_canCome_11, s_Mo_canCome_12, s_Mo_canCome_13, s_Mo_canCome_14, s_Mo_canCome_15, s_Mo_canCome_17, s_Mo_canCome_20, s_Mo_canCome_21, s_Mo_canCome_24, s_Mo_canCome_25, s_Mo_canCome_26, s_Mo_canCome_27, s_Mo_canCome_31, s_Mo_canCome_32, s_Mo_canCome_35, s_Mo_canCome_38, s_Mo_canCome_39, s_Mo_canCome_40, s_Mo_canCome_41, s_Mo_canCome_43, s_Mo_canCome_46, s_Mo_canCome_47, s_Mo_canCome_48, s_Mo_canCome_51, s_Mo_canCome_52, s_Mo_canCome_54, s_Mo_canCome_55, s_Mo_canCome_56, s_Mo_canCome_57, s_Mo_canCome_58, s_Mo_canCome_59, s_Mo_canCome_60, s_Mo_canCome_61, s_Mo_canCome_62, s_Mo_canCome_63, s_Mo_canCome_65, s_Mo_canCome_68, s_Mo_canCome_71, s_Mo_canCome_72, s_Mo_canCome_73, s_Mo_canCome_76, s_Mo_canCome_79, s_Mo_canCome_80, xg_0, xg_s, xF_up, xPf_up, xO_up, xAi_up, xAl_up, xLn_up, xup_xup, ty_i, ty_b, ty_z, ty_l, ty_q, tb_b, tb_z, xup_2, xpI_s, xpL_s, xpV_s, xpQ_n, xpQ_r, yl_0, yl_1, yl_2, yl_3, yl_4, yl_5, yl_6, xcs_nil, xcs_i, xcs_a, xcs_l, xcs_n, xNl_z, xNl_s, xNl_i, xNl_a, xNl_n, xNl_d, cat_i, cat_a, cat_n, List.getElem?_cons_zero, List.getElem?_cons_succ, List.set_cons_zero, List.set_cons_succ, List.length_cons, List.length_nil, true_and, and_true, eq_self, ite_true, ite_false, if_true, if_false, or_true, true_or, or_false, false_or, Nat.reduceAdd, Nat.reduceLT, Nat.reduceLeDiff, Nat.reduceEqDiff, Nat.reduceSub, ↓reduceIte, reduceCtorEq, not_false_eq_true, not_true_eq_false, false_implies, true_implies, forall_const, imp_self, implies_true, Nat.add_left_cancel_iff, Nat.left_eq_add, Nat.add_eq_left, Nat.zero_lt_succ, Nat.lt_add_left_iff_pos, one_ne_zero_n, zero_ne_one_n, zero_ne_one_i, one_ne_zero_i, xF_r o2, xPf_r o2, xO_r o2]
        exact ⟨fun _ => hK0 hs.symm h2 T2 ln2 ha2 hM2 hT2 hl2 hTk hlk, fun z => absurd (nI_le (Nat.le_refl _) (by omega)) z⟩
      · intro hs h2 T2 ln2 ha2 hM2 hT2 hl2 hTk hlk
        obtain ⟨rd2, le2, tp2, at22, wr2, o2⟩ := isO_raw hM2.me.1
        rw [hpl] at o2
        have v5 : ¬ nI s.nl ≤ nI j := nI_ge hj (by omega)
        have hr2 : mkR T2 (22 * D) q := mkR_cg hr (by rw [hw.1]; exact h7) (fun c hc => hTk _ (by omega))
        rw [show s.nl - j = (s.nl - (j + 1)) + 1 by omega] at hs
        rw [s_Mo_canCome_29]
        try simp only [s_Mo_canCome_0, s_Mo_canCome_1, s_Mo_canCome_4, s_Mo_canCome_5, s_Mo_canCome_8, s_Mo_canCome_10, s_Mo_canCome_11, s_Mo_canCome_12, s_Mo_canCome_13, s_Mo_canCome_14, s_Mo_canCome_15, s_Mo_canCome_17, s_Mo_canCome_20, s_Mo_canCome_21, s_Mo_canCome_24, s_Mo_canCome_25, s_Mo_canCome_26, s_Mo_canCome_27, s_Mo_canCome_31, s_Mo_canCome_32, s_Mo_canCome_35, s_Mo_canCome_38, s_Mo_canCome_39, s_Mo_canCome_40, s_Mo_canCome_41, s_Mo_canCome_43, s_Mo_canCome_46, s_Mo_canCome_47, s_Mo_canCome_48, s_Mo_canCome_51, s_Mo_canCome_52, s_Mo_canCome_54, s_Mo_canCome_55, s_Mo_canCome_56, s_Mo_canCome_57, s_Mo_canCome_58, s_Mo_canCome_59, s_Mo_canCome_60, s_Mo_canCome_61, s_Mo_canCome_62, s_Mo_canCome_63, s_Mo_canCome_65, s_Mo_canCome_68, s_Mo_canCome_71, s_Mo_canCome_72, s_Mo_canCome_73, s_Mo_canCome_76, s_Mo_canCome_79, s_Mo_canCome_80, xg_0, xg_s, xF_up, xPf_up, xO_up, xAi_up, xAl_up, xLn_up, xup_xup, ty_i, ty_b, ty_z, ty_l, ty_q, tb_b, tb_z, xup_2, xpI_s, xpL_s, xpV_s, xpQ_n, xpQ_r, yl_0, yl_1, yl_2, yl_3, yl_4, yl_5, yl_6, xcs_nil, xcs_i, xcs_a, xcs_l, xcs_n, xNl_z, xNl_s, xNl_i, xNl_a, xNl_n, xNl_d, cat_i, cat_a, cat_n, List.getElem?_cons_zero, List.getElem?_cons_succ, List.set_cons_zero, List.set_cons_succ, List.length_cons, List.length_nil, true_and, and_true, eq_self, ite_true, ite_false, if_true, if_false, or_true, true_or, or_false, false_or, Nat.reduceAdd, Nat.reduceLT, Nat.reduceLeDiff, Nat.reduceEqDiff, Nat.reduceSub, ↓reduceIte, reduceCtorEq, not_false_eq_true, not_true_eq_false, false_implies, true_implies, forall_const, imp_self, implies_true, Nat.add_left_cancel_iff, Nat.left_eq_add, Nat.add_eq_left, Nat.zero_lt_succ, Nat.lt_add_left_iff_pos, one_ne_zero_n, zero_ne_one_n, zero_ne_one_i, one_ne_zero_i, xF_r o2, xPf_r o2, xO_r o2, v5]
        refine m_goAt hM2 hT2 hr2 hw hd (by omega) hi (by omega) hj fun h3 T3 ha3 hM3 hT3 hTk3 hr3 => ?_
        obtain ⟨rd3, le3, tp3, at23, wr3, o3⟩ := isO_raw hM3.me.1
        have hl3 := xAg_at ha3 (by simp) hl2
        have w1 := vin (show D < 7 by omega) (by decide)
        have w2 := nI_clamp (show D < 2 ^ 31 by omega)
        have es : nI (L + 1) - 1 = nI L := nI_sub (b := 1) (by omega)
        try simp only [s_Mo_canCome_0, s_Mo_canCome_1, s_Mo_canCome_4, s_Mo_canCome_5, s_Mo_canCome_8, s_Mo_canCome_10, s_Mo_canCome_11, s_Mo_canCome_12, s_Mo_canCome_13, s_Mo_canCome_14, s_Mo_canCome_15, s_Mo_canCome_17, s_Mo_canCome_20, s_Mo_canCome_21, s_Mo_canCome_24, s_Mo_canCome_25, s_Mo_canCome_26, s_Mo_canCome_27, s_Mo_canCome_31, s_Mo_canCome_32, s_Mo_canCome_35, s_Mo_canCome_38, s_Mo_canCome_39, s_Mo_canCome_40, s_Mo_canCome_41, s_Mo_canCome_43, s_Mo_canCome_46, s_Mo_canCome_47, s_Mo_canCome_48, s_Mo_canCome_51, s_Mo_canCome_52, s_Mo_canCome_54, s_Mo_canCome_55, s_Mo_canCome_56, s_Mo_canCome_57, s_Mo_canCome_58, s_Mo_canCome_59, s_Mo_canCome_60, s_Mo_canCome_61, s_Mo_canCome_62, s_Mo_canCome_63, s_Mo_canCome_65, s_Mo_canCome_68, s_Mo_canCome_71, s_Mo_canCome_72, s_Mo_canCome_73, s_Mo_canCome_76, s_Mo_canCome_79, s_Mo_canCome_80, xg_0, xg_s, xF_up, xPf_up, xO_up, xAi_up, xAl_up, xLn_up, xup_xup, ty_i, ty_b, ty_z, ty_l, ty_q, tb_b, tb_z, xup_2, xpI_s, xpL_s, xpV_s, xpQ_n, xpQ_r, yl_0, yl_1, yl_2, yl_3, yl_4, yl_5, yl_6, xcs_nil, xcs_i, xcs_a, xcs_l, xcs_n, xNl_z, xNl_s, xNl_i, xNl_a, xNl_n, xNl_d, cat_i, cat_a, cat_n, List.getElem?_cons_zero, List.getElem?_cons_succ, List.set_cons_zero, List.set_cons_succ, List.length_cons, List.length_nil, true_and, and_true, eq_self, ite_true, ite_false, if_true, if_false, or_true, true_or, or_false, false_or, Nat.reduceAdd, Nat.reduceLT, Nat.reduceLeDiff, Nat.reduceEqDiff, Nat.reduceSub, ↓reduceIte, reduceCtorEq, not_false_eq_true, not_true_eq_false, false_implies, true_implies, forall_const, imp_self, implies_true, Nat.add_left_cancel_iff, Nat.left_eq_add, Nat.add_eq_left, Nat.zero_lt_succ, Nat.lt_add_left_iff_pos, one_ne_zero_n, zero_ne_one_n, zero_ne_one_i, one_ne_zero_i, xF_r o3, xPf_r o3, xO_r o3, xAi_r hl3, xLn_r hl3, w1, w2, nI_1, es]
        have hv : xAg h3 (xup h3 121 (.inl (.int, 7, .inl (upd ln2 D (nI j))))) [121] := xAg_up (xAg_rf _ _) (by simp)
        refine ihL d (D + 1) _ T3 (upd ln2 D (nI j)) (dst s (wgo q i j)) _ _ (Bq + 1) _ (by omega) (isMM_ln hM3) (xup_o hT3 (by decide)) xup_s hr3 (wq_go hw hi h7 hj).1 (dyF_dit (k := 1) (show dyF (wgo q i j) Bq from hd)) (by omega) (fun em h5 T5 ln5 ha5 hM5 hT5 hl5 hTk5 hlk5 => ?_) (fun r em h5 T5 ln5 ha5 hM5 hT5 hl5 hTk5 hlk5 hy => ?_)
        · try simp only [s_Mo_canCome_0, s_Mo_canCome_1, s_Mo_canCome_4, s_Mo_canCome_5, s_Mo_canCome_8, s_Mo_canCome_10, s_Mo_canCome_11, s_Mo_canCome_12, s_Mo_canCome_13, s_Mo_canCome_14, s_Mo_canCome_15, s_Mo_canCome_17, s_Mo_canCome_20, s_Mo_canCome_21, s_Mo_canCome_24, s_Mo_canCome_25, s_Mo_canCome_26, s_Mo_canCome_27, s_Mo_canCome_31, s_Mo_canCome_32, s_Mo_canCome_35, s_Mo_canCome_38, s_Mo_canCome_39, s_Mo_canCome_40, s_Mo_canCome_41, s_Mo_canCome_43, s_Mo_canCome_46, s_Mo_canCome_47, s_Mo_canCome_48, s_Mo_canCome_51, s_Mo_canCome_52, s_Mo_canCome_54, s_Mo_canCome_55, s_Mo_canCome_56, s_Mo_canCome_57, s_Mo_canCome_58, s_Mo_canCome_59, s_Mo_canCome_60, s_Mo_canCome_61, s_Mo_canCome_62, s_Mo_canCome_63, s_Mo_canCome_65, s_Mo_canCome_68, s_Mo_canCome_71, s_Mo_canCome_72, s_Mo_canCome_73, s_Mo_canCome_76, s_Mo_canCome_79, s_Mo_canCome_80, xg_0, xg_s, xF_up, xPf_up, xO_up, xAi_up, xAl_up, xLn_up, xup_xup, ty_i, ty_b, ty_z, ty_l, ty_q, tb_b, tb_z, xup_2, xpI_s, xpL_s, xpV_s, xpQ_n, xpQ_r, yl_0, yl_1, yl_2, yl_3, yl_4, yl_5, yl_6, xcs_nil, xcs_i, xcs_a, xcs_l, xcs_n, xNl_z, xNl_s, xNl_i, xNl_a, xNl_n, xNl_d, cat_i, cat_a, cat_n, List.getElem?_cons_zero, List.getElem?_cons_succ, List.set_cons_zero, List.set_cons_succ, List.length_cons, List.length_nil, true_and, and_true, eq_self, ite_true, ite_false, if_true, if_false, or_true, true_or, or_false, false_or, Nat.reduceAdd, Nat.reduceLT, Nat.reduceLeDiff, Nat.reduceEqDiff, Nat.reduceSub, ↓reduceIte, reduceCtorEq, not_false_eq_true, not_true_eq_false, false_implies, true_implies, forall_const, imp_self, implies_true, Nat.add_left_cancel_iff, Nat.left_eq_add, Nat.add_eq_left, Nat.zero_lt_succ, Nat.lt_add_left_iff_pos, one_ne_zero_n, zero_ne_one_n, zero_ne_one_i, one_ne_zero_i, nI_1]
          refine ih ((srch_sn (by exact em)).symm.trans hs) h5 T5 ln5 (xAg_tr (xAg_tr (xAg_tr ha2 ha3 (by decide)) hv (by decide)) ha5 (by decide)) hM5 hT5 hl5 (fun k hk => ?_) (fun k hk => ?_)
          · rw [hTk5 k (by omega), hTk3 k (by omega), hTk k hk]
          · rw [hlk5 k (by omega)]
            exact (if_neg (by omega) : upd ln2 D (nI j) k = ln2 k).trans (hlk k hk)
        · try simp only [s_Mo_canCome_0, s_Mo_canCome_1, s_Mo_canCome_4, s_Mo_canCome_5, s_Mo_canCome_8, s_Mo_canCome_10, s_Mo_canCome_11, s_Mo_canCome_12, s_Mo_canCome_13, s_Mo_canCome_14, s_Mo_canCome_15, s_Mo_canCome_17, s_Mo_canCome_20, s_Mo_canCome_21, s_Mo_canCome_24, s_Mo_canCome_25, s_Mo_canCome_26, s_Mo_canCome_27, s_Mo_canCome_31, s_Mo_canCome_32, s_Mo_canCome_35, s_Mo_canCome_38, s_Mo_canCome_39, s_Mo_canCome_40, s_Mo_canCome_41, s_Mo_canCome_43, s_Mo_canCome_46, s_Mo_canCome_47, s_Mo_canCome_48, s_Mo_canCome_51, s_Mo_canCome_52, s_Mo_canCome_54, s_Mo_canCome_55, s_Mo_canCome_56, s_Mo_canCome_57, s_Mo_canCome_58, s_Mo_canCome_59, s_Mo_canCome_60, s_Mo_canCome_61, s_Mo_canCome_62, s_Mo_canCome_63, s_Mo_canCome_65, s_Mo_canCome_68, s_Mo_canCome_71, s_Mo_canCome_72, s_Mo_canCome_73, s_Mo_canCome_76, s_Mo_canCome_79, s_Mo_canCome_80, xg_0, xg_s, xF_up, xPf_up, xO_up, xAi_up, xAl_up, xLn_up, xup_xup, ty_i, ty_b, ty_z, ty_l, ty_q, tb_b, tb_z, xup_2, xpI_s, xpL_s, xpV_s, xpQ_n, xpQ_r, yl_0, yl_1, yl_2, yl_3, yl_4, yl_5, yl_6, xcs_nil, xcs_i, xcs_a, xcs_l, xcs_n, xNl_z, xNl_s, xNl_i, xNl_a, xNl_n, xNl_d, cat_i, cat_a, cat_n, List.getElem?_cons_zero, List.getElem?_cons_succ, List.set_cons_zero, List.set_cons_succ, List.length_cons, List.length_nil, true_and, and_true, eq_self, ite_true, ite_false, if_true, if_false, or_true, true_or, or_false, false_or, Nat.reduceAdd, Nat.reduceLT, Nat.reduceLeDiff, Nat.reduceEqDiff, Nat.reduceSub, ↓reduceIte, reduceCtorEq, not_false_eq_true, not_true_eq_false, false_implies, true_implies, forall_const, imp_self, implies_true, Nat.add_left_cancel_iff, Nat.left_eq_add, Nat.add_eq_left, Nat.zero_lt_succ, Nat.lt_add_left_iff_pos, one_ne_zero_n, zero_ne_one_n, zero_ne_one_i, one_ne_zero_i]
          refine hK1 (nI j :: r) (hs.symm.trans (srch_ss (by exact em))) h5 T5 ln5 (xAg_tr (xAg_tr (xAg_tr ha2 ha3 (by decide)) hv (by decide)) ha5 (by decide)) hM5 hT5 hl5 (fun k hk => ?_) (fun k hk => ?_) ⟨?_, hy⟩
          · rw [hTk5 k (by omega), hTk3 k (by omega), hTk k hk]
          · rw [hlk5 k (by omega)]
            exact (if_neg (by omega) : upd ln2 D (nI j) k = ln2 k).trans (hlk k hk)
          · rw [hlk5 D (by omega)]
            exact upd_i
    try simp only [s_Mo_canCome_0, s_Mo_canCome_1, s_Mo_canCome_4, s_Mo_canCome_5, s_Mo_canCome_8, s_Mo_canCome_10, s_Mo_canCome_11, s_Mo_canCome_12, s_Mo_canCome_13, s_Mo_canCome_14, s_Mo_canCome_15, s_Mo_canCome_17, s_Mo_canCome_20, s_Mo_canCome_21, s_Mo_canCome_24, s_Mo_canCome_25, s_Mo_canCome_26, s_Mo_canCome_27, s_Mo_canCome_31, s_Mo_canCome_32, s_Mo_canCome_35, s_Mo_canCome_38, s_Mo_canCome_39, s_Mo_canCome_40, s_Mo_canCome_41, s_Mo_canCome_43, s_Mo_canCome_46, s_Mo_canCome_47, s_Mo_canCome_48, s_Mo_canCome_51, s_Mo_canCome_52, s_Mo_canCome_54, s_Mo_canCome_55, s_Mo_canCome_56, s_Mo_canCome_57, s_Mo_canCome_58, s_Mo_canCome_59, s_Mo_canCome_60, s_Mo_canCome_61, s_Mo_canCome_62, s_Mo_canCome_63, s_Mo_canCome_65, s_Mo_canCome_68, s_Mo_canCome_71, s_Mo_canCome_72, s_Mo_canCome_73, s_Mo_canCome_76, s_Mo_canCome_79, s_Mo_canCome_80, xg_0, xg_s, xF_up, xPf_up, xO_up, xAi_up, xAl_up, xLn_up, xup_xup, ty_i, ty_b, ty_z, ty_l, ty_q, tb_b, tb_z, xup_2, xpI_s, xpL_s, xpV_s, xpQ_n, xpQ_r, yl_0, yl_1, yl_2, yl_3, yl_4, yl_5, yl_6, xcs_nil, xcs_i, xcs_a, xcs_l, xcs_n, xNl_z, xNl_s, xNl_i, xNl_a, xNl_n, xNl_d, cat_i, cat_a, cat_n, List.getElem?_cons_zero, List.getElem?_cons_succ, List.set_cons_zero, List.set_cons_succ, List.length_cons, List.length_nil, true_and, and_true, eq_self, ite_true, ite_false, if_true, if_false, or_true, true_or, or_false, false_or, Nat.reduceAdd, Nat.reduceLT, Nat.reduceLeDiff, Nat.reduceEqDiff, Nat.reduceSub, ↓reduceIte, reduceCtorEq, not_false_eq_true, not_true_eq_false, false_implies, true_implies, forall_const, imp_self, implies_true, Nat.add_left_cancel_iff, Nat.left_eq_add, Nat.add_eq_left, Nat.zero_lt_succ, Nat.lt_add_left_iff_pos, one_ne_zero_n, zero_ne_one_n, zero_ne_one_i, one_ne_zero_i, e0]
    exact loop 0 (Nat.zero_le _) rfl hp T ln (xAg_rf _ _) h hT hln (fun _ _ => rfl) (fun _ _ => rfl)
end MO24
