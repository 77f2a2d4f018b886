/-! ===== Walk: ways, telling ===== -/
def catW (ff : Nat → List (List Int32)) : Nat → Nat → List (List Int32)
  | 0, _ => []
  | m + 1, p => (ff p).map (fun r => nI p :: r) ++ catW ff m (p + 1)
def wys (h : Int32 → Int32 → Int32 → Int32) (goal : Int32) (Nl : Nat) : Nat → Int32 → Int32 → Int32 → List (List Int32)
  | 0, _, _, had => if ylead (goal - had) (nI 0) = 0 then [[]] else []
  | L + 1, a, day, had => if ylead (goal - had) (nI (L + 1)) = 0 then catW (fun p => wys h goal Nl L (ymin 9999 (a + h a day (nI p))) (day + 1) (had + h a day (nI p))) Nl 0 else []
theorem catW_len (ff : Nat → List (List Int32)) (B : Nat) (h : ∀ p, (ff p).length ≤ B) : ∀ m p, (catW ff m p).length ≤ m * B := by
  intro m
  induction m with
  | zero => intro p; exact Nat.zero_le _
  | succ m ih =>
    intro p
    show ((ff p).map (fun r => nI p :: r) ++ catW ff m (p + 1)).length ≤ _
    rw [List.length_append, List.length_map, Nat.succ_mul]
    have := h p
    have := ih (p + 1)
    omega
theorem wys_len (h : Int32 → Int32 → Int32 → Int32) (goal : Int32) (Nl : Nat) (hNl : Nl ≤ 6) : ∀ L a day had, (wys h goal Nl L a day had).length ≤ 6 ^ L := by
  intro L
  induction L with
  | zero =>
    intro a day had
    unfold wys
    split
    · exact Nat.le_refl _
    · exact Nat.zero_le _
  | succ L ih =>
    intro a day had
    unfold wys
    split
    · have := catW_len (fun p => wys h goal Nl L (ymin 9999 (a + h a day (nI p))) (day + 1) (had + h a day (nI p))) (6 ^ L) (fun p => ih _ _ _) Nl 0
      rw [Nat.pow_succ, Nat.mul_comm]
      exact Nat.le_trans this (Nat.mul_le_mul_right _ hNl)
    · exact Nat.zero_le _
def WC (F : Nat) (le pa : Nat → Int32) (s : Nat) (W : List (List Int32)) (le2 : Nat → Int32) : Prop := (W = [] ∨ ¬ F = 0 → le2 = le) ∧ (F = 0 → ∀ r rs, W = r :: rs → (∀ i, i < s → le2 i = pa i) ∧ ypath le2 s r)
theorem WC_nil (F : Nat) (le pa : Nat → Int32) (s : Nat) : WC F le pa s [] le := ⟨fun _ => rfl, fun _ r rs h => nomatch h⟩
theorem WC_app {F : Nat} {le le1 le2 pa pa1 : Nat → Int32} {s : Nat} {W1 W2 : List (List Int32)} (h1 : WC F le pa s W1 le1) (h2 : WC (F + W1.length) le1 pa1 s W2 le2) (hp : ∀ i, i < s → pa1 i = pa i) : WC F le pa s (W1 ++ W2) le2 := by
  cases W1 with
  | nil =>
    have e := h1.1 (Or.inl rfl)
    subst e
    exact ⟨h2.1, fun hF r rs h => by have := h2.2 hF r rs h; exact ⟨fun i hi => (this.1 i hi).trans (hp i hi), this.2⟩⟩
  | cons r0 rs0 =>
    have e := h2.1 (Or.inr (by rw [List.length_cons]; omega))
    subst e
    refine ⟨fun h => ?_, fun hF r rs h => ?_⟩
    · rcases h with h | h
      · exact nomatch h
      · exact h1.1 (Or.inr h)
    · have h' : r0 :: (rs0 ++ W2) = r :: rs := h
      injection h' with e1 e2
      subst e1
      exact h1.2 hF r0 rs0 rfl
theorem WC_map {F : Nat} {le le2 pa pa1 : Nat → Int32} {s : Nat} {x : Int32} {W : List (List Int32)} (h : WC F le pa1 (s + 1) W le2) (hp : ∀ i, i < s → pa1 i = pa i) (hx : pa1 s = x) : WC F le pa s (W.map (fun r => x :: r)) le2 := by
  refine ⟨fun z => h.1 ?_, fun hF r rs z => ?_⟩
  · rcases z with z | z
    · exact Or.inl (List.map_eq_nil_iff.mp z)
    · exact Or.inr z
  · cases W with
    | nil => exact nomatch z
    | cons r0 rs0 =>
      have z' : (x :: r0) :: rs0.map (fun r => x :: r) = r :: rs := z
      injection z' with e1 e2
      subst e1
      have := h.2 hF r0 rs0 rfl
      exact ⟨fun i hi => (this.1 i (by omega)).trans (hp i hi), (this.1 s (by omega)).trans hx, this.2⟩
theorem nI_z {F : Nat} (h : F < 2 ^ 31) : nI F = 0 ↔ F = 0 := by
  constructor
  · intro e
    exact (nI_eq h (show 0 < 2 ^ 31 by decide)).mp (by rw [e]; decide)
  · intro e; subst e; decide
section WZ
variable {l : Launch} {d b lo gz q N Nl Ln s F r : Nat} {hp : xHp} {lg sk A P SS pa le : Nat → Int32} {day one goal len found who what n tu age x y : Int32} {V : (Nat → Int32) → Int32}
theorem c_Walk_start {K : xHp → Prop} (hW : isWalk hp pa le one goal len found) (hLn : Ln ≤ 4) (hK : ∀ hq, xAg hp hq [94] → isWalk hq pa le who what (nI Ln) 0 → K hq) : xMv l (d + 1) b lo gz m_Walk_start [.ref 94, .int who, .int what, .int (nI Ln)] hp K := by
  obtain ⟨w0, w1, w2⟩ := hW
  have e4 : ymin (nI Ln) 4 = nI Ln := by
    unfold ymin
    rw [if_pos (by rw [show (4 : Int32) = nI 4 by decide]; exact nI_le hLn (by omega))]
  refine xMC_V ok_Walk_start (by decide) (L0 := [.ref 94, .int who, .int what, .int (nI Ln)]) rfl rfl ?_
  simp only [s_Walk_start_0, s_Walk_start_1, s_Walk_start_2, s_Walk_start_5, s_Walk_start_6, s_Walk_start_7, s_Walk_start_10, s_Walk_start_11, s_Walk_start_12, s_Walk_start_13, s_Walk_start_16, s_Walk_start_19, s_Walk_start_20, s_Walk_start_21, s_Walk_start_24, xg_0, xg_s, xF_up, xPf_up, xO_up, xAi_up, xAl_up, xLn_up, xup_xup, ty_i, ty_b, ty_z, ty_l, ty_q, tb_b, tb_z, xup_2, xpI_s, xpL_s, xpV_s, xpQ_n, xpQ_r, yl_0, yl_1, yl_2, yl_3, yl_4, yl_5, yl_6, xcs_nil, xcs_i, xcs_a, xcs_l, xcs_n, xNl_z, xNl_s, xNl_i, xNl_a, xNl_n, xNl_d, cat_i, cat_a, cat_n, List.getElem?_cons_zero, List.getElem?_cons_succ, List.set_cons_zero, List.set_cons_succ, List.length_cons, List.length_nil, true_and, and_true, eq_self, ite_true, ite_false, if_true, if_false, or_true, true_or, or_false, false_or, Nat.reduceAdd, Nat.reduceLT, Nat.reduceLeDiff, Nat.reduceEqDiff, Nat.reduceSub, ↓reduceIte, reduceCtorEq, not_false_eq_true, not_true_eq_false, false_implies, true_implies, forall_const, imp_self, implies_true, Nat.add_left_cancel_iff, Nat.left_eq_add, Nat.add_eq_left, Nat.zero_lt_succ, Nat.lt_add_left_iff_pos, one_ne_zero_n, zero_ne_one_n, zero_ne_one_i, one_ne_zero_i, xF_r w0, xPf_r w0, xO_r w0]
  refine c_Math_min ?_
  rw [e4]
  try simp only [s_Walk_start_0, s_Walk_start_1, s_Walk_start_2, s_Walk_start_5, s_Walk_start_6, s_Walk_start_7, s_Walk_start_10, s_Walk_start_11, s_Walk_start_12, s_Walk_start_13, s_Walk_start_16, s_Walk_start_19, s_Walk_start_20, s_Walk_start_21, s_Walk_start_24, xg_0, xg_s, xF_up, xPf_up, xO_up, xAi_up, xAl_up, xLn_up, xup_xup, ty_i, ty_b, ty_z, ty_l, ty_q, tb_b, tb_z, xup_2, xpI_s, xpL_s, xpV_s, xpQ_n, xpQ_r, yl_0, yl_1, yl_2, yl_3, yl_4, yl_5, yl_6, xcs_nil, xcs_i, xcs_a, xcs_l, xcs_n, xNl_z, xNl_s, xNl_i, xNl_a, xNl_n, xNl_d, cat_i, cat_a, cat_n, List.getElem?_cons_zero, List.getElem?_cons_succ, List.set_cons_zero, List.set_cons_succ, List.length_cons, List.length_nil, true_and, and_true, eq_self, ite_true, ite_false, if_true, if_false, or_true, true_or, or_false, false_or, Nat.reduceAdd, Nat.reduceLT, Nat.reduceLeDiff, Nat.reduceEqDiff, Nat.reduceSub, ↓reduceIte, reduceCtorEq, not_false_eq_true, not_true_eq_false, false_implies, true_implies, forall_const, imp_self, implies_true, Nat.add_left_cancel_iff, Nat.left_eq_add, Nat.add_eq_left, Nat.zero_lt_succ, Nat.lt_add_left_iff_pos, one_ne_zero_n, zero_ne_one_n, zero_ne_one_i, one_ne_zero_i, xF_r w0, xPf_r w0, xO_r w0]
  exact hK _ (xAg_up (xAg_rf _ _) (by simp)) ⟨xup_s, xup_o w1 (by omega), xup_o w2 (by omega)⟩
theorem c_Walk_comesTo {K : Int32 → xHp → Prop} (hLn : Ln ≤ 4) (hq : q < N) (hN : N ≤ 7) (hW : isWalk hp pa le one age len found) (hE : isEnv hp V lg sk Nl tu) (hF : isFolk hp 20 A P SS (nI N) day)
    (hK : ∀ hq pa2, xAg hp hq [94, 95, 15, 10, 20, 21] → isWalk hq pa2 le (nI q) goal (nI Ln) 0 → isEnv hq V lg sk Nl tu → isFolk hq 20 A P SS (nI N) day →
      (∀ r, rch (wH V lg sk P tu N (nI q)) goal Nl Ln (A q) day = some r → ypath pa2 0 r → K 1 hq) ∧ (rch (wH V lg sk P tu N (nI q)) goal Nl Ln (A q) day = none → K 0 hq)) : xMi l (d + 11) b lo gz m_Walk_comesTo [.ref 94, .int (nI q), .int goal, .int (nI Ln)] hp K := by
  have w0 := hW.1
  refine xMC_V ok_Walk_comesTo (by decide) (L0 := [.ref 94, .int (nI q), .int goal, .int (nI Ln)]) rfl rfl ?_
  simp only [s_Walk_comesTo_0, s_Walk_comesTo_1, s_Walk_comesTo_2, s_Walk_comesTo_3, s_Walk_comesTo_4, s_Walk_comesTo_7, s_Walk_comesTo_8, s_Walk_comesTo_9, s_Walk_comesTo_12, xg_0, xg_s, xF_up, xPf_up, xO_up, xAi_up, xAl_up, xLn_up, xup_xup, ty_i, ty_b, ty_z, ty_l, ty_q, tb_b, tb_z, xup_2, xpI_s, xpL_s, xpV_s, xpQ_n, xpQ_r, yl_0, yl_1, yl_2, yl_3, yl_4, yl_5, yl_6, xcs_nil, xcs_i, xcs_a, xcs_l, xcs_n, xNl_z, xNl_s, xNl_i, xNl_a, xNl_n, xNl_d, cat_i, cat_a, cat_n, List.getElem?_cons_zero, List.getElem?_cons_succ, List.set_cons_zero, List.set_cons_succ, List.length_cons, List.length_nil, true_and, and_true, eq_self, ite_true, ite_false, if_true, if_false, or_true, true_or, or_false, false_or, Nat.reduceAdd, Nat.reduceLT, Nat.reduceLeDiff, Nat.reduceEqDiff, Nat.reduceSub, ↓reduceIte, reduceCtorEq, not_false_eq_true, not_true_eq_false, false_implies, true_implies, forall_const, imp_self, implies_true, Nat.add_left_cancel_iff, Nat.left_eq_add, Nat.add_eq_left, Nat.zero_lt_succ, Nat.lt_add_left_iff_pos, one_ne_zero_n, zero_ne_one_n, zero_ne_one_i, one_ne_zero_i, xF_r w0, xPf_r w0, xO_r w0]
  refine c_Walk_start hW hLn fun hr ha hW2 => ?_
  have r0 := hW2.1
  try simp only [s_Walk_comesTo_0, s_Walk_comesTo_1, s_Walk_comesTo_2, s_Walk_comesTo_3, s_Walk_comesTo_4, s_Walk_comesTo_7, s_Walk_comesTo_8, s_Walk_comesTo_9, s_Walk_comesTo_12, xg_0, xg_s, xF_up, xPf_up, xO_up, xAi_up, xAl_up, xLn_up, xup_xup, ty_i, ty_b, ty_z, ty_l, ty_q, tb_b, tb_z, xup_2, xpI_s, xpL_s, xpV_s, xpQ_n, xpQ_r, yl_0, yl_1, yl_2, yl_3, yl_4, yl_5, yl_6, xcs_nil, xcs_i, xcs_a, xcs_l, xcs_n, xNl_z, xNl_s, xNl_i, xNl_a, xNl_n, xNl_d, cat_i, cat_a, cat_n, List.getElem?_cons_zero, List.getElem?_cons_succ, List.set_cons_zero, List.set_cons_succ, List.length_cons, List.length_nil, true_and, and_true, eq_self, ite_true, ite_false, if_true, if_false, or_true, true_or, or_false, false_or, Nat.reduceAdd, Nat.reduceLT, Nat.reduceLeDiff, Nat.reduceEqDiff, Nat.reduceSub, ↓reduceIte, reduceCtorEq, not_false_eq_true, not_true_eq_false, false_implies, true_implies, forall_const, imp_self, implies_true, Nat.add_left_cancel_iff, Nat.left_eq_add, Nat.add_eq_left, Nat.zero_lt_succ, Nat.lt_add_left_iff_pos, one_ne_zero_n, zero_ne_one_n, zero_ne_one_i, one_ne_zero_i, xF_r r0, xPf_r r0, xO_r r0]
  refine c_Walk_reaches Ln 0 _ hr _ _ _ _ (by omega) hLn (by omega) hq hN hW2 (isEnv_ag ha (by simp) hE) (isFolk_ag ha (by simp) hF) fun hq2 pa2 ha2 hW3 hE3 hF3 _ => ?_
  have hk := hK hq2 pa2 (xAg_tr (xAg_tr (xAg_rf _ _) ha (by simp)) ha2 (by simp)) hW3 hE3 hF3
  refine ⟨fun r h1 h2 => ?_, fun h1 => ?_⟩
  · try simp only [s_Walk_comesTo_0, s_Walk_comesTo_1, s_Walk_comesTo_2, s_Walk_comesTo_3, s_Walk_comesTo_4, s_Walk_comesTo_7, s_Walk_comesTo_8, s_Walk_comesTo_9, s_Walk_comesTo_12, xg_0, xg_s, xF_up, xPf_up, xO_up, xAi_up, xAl_up, xLn_up, xup_xup, ty_i, ty_b, ty_z, ty_l, ty_q, tb_b, tb_z, xup_2, xpI_s, xpL_s, xpV_s, xpQ_n, xpQ_r, yl_0, yl_1, yl_2, yl_3, yl_4, yl_5, yl_6, xcs_nil, xcs_i, xcs_a, xcs_l, xcs_n, xNl_z, xNl_s, xNl_i, xNl_a, xNl_n, xNl_d, cat_i, cat_a, cat_n, List.getElem?_cons_zero, List.getElem?_cons_succ, List.set_cons_zero, List.set_cons_succ, List.length_cons, List.length_nil, true_and, and_true, eq_self, ite_true, ite_false, if_true, if_false, or_true, true_or, or_false, false_or, Nat.reduceAdd, Nat.reduceLT, Nat.reduceLeDiff, Nat.reduceEqDiff, Nat.reduceSub, ↓reduceIte, reduceCtorEq, not_false_eq_true, not_true_eq_false, false_implies, true_implies, forall_const, imp_self, implies_true, Nat.add_left_cancel_iff, Nat.left_eq_add, Nat.add_eq_left, Nat.zero_lt_succ, Nat.lt_add_left_iff_pos, one_ne_zero_n, zero_ne_one_n, zero_ne_one_i, one_ne_zero_i]
    exact hk.1 r h1 h2
  · try simp only [s_Walk_comesTo_0, s_Walk_comesTo_1, s_Walk_comesTo_2, s_Walk_comesTo_3, s_Walk_comesTo_4, s_Walk_comesTo_7, s_Walk_comesTo_8, s_Walk_comesTo_9, s_Walk_comesTo_12, xg_0, xg_s, xF_up, xPf_up, xO_up, xAi_up, xAl_up, xLn_up, xup_xup, ty_i, ty_b, ty_z, ty_l, ty_q, tb_b, tb_z, xup_2, xpI_s, xpL_s, xpV_s, xpQ_n, xpQ_r, yl_0, yl_1, yl_2, yl_3, yl_4, yl_5, yl_6, xcs_nil, xcs_i, xcs_a, xcs_l, xcs_n, xNl_z, xNl_s, xNl_i, xNl_a, xNl_n, xNl_d, cat_i, cat_a, cat_n, List.getElem?_cons_zero, List.getElem?_cons_succ, List.set_cons_zero, List.set_cons_succ, List.length_cons, List.length_nil, true_and, and_true, eq_self, ite_true, ite_false, if_true, if_false, or_true, true_or, or_false, false_or, Nat.reduceAdd, Nat.reduceLT, Nat.reduceLeDiff, Nat.reduceEqDiff, Nat.reduceSub, ↓reduceIte, reduceCtorEq, not_false_eq_true, not_true_eq_false, false_implies, true_implies, forall_const, imp_self, implies_true, Nat.add_left_cancel_iff, Nat.left_eq_add, Nat.add_eq_left, Nat.zero_lt_succ, Nat.lt_add_left_iff_pos, one_ne_zero_n, zero_ne_one_n, zero_ne_one_i, one_ne_zero_i]
    exact hk.2 h1
theorem c_Walk_keepFirst {K : xHp → Prop} (hLn : Ln ≤ 4) (hW : isWalk hp pa le one goal (nI Ln) (nI F)) (hFb : F < 2 ^ 31)
    (hK : ∀ hq, xAg hp hq [96] → isWalk hq pa (if F = 0 then fcp le pa Ln else le) one goal (nI Ln) (nI F) → K hq) : xMv l (d + 1) b lo gz m_Walk_keepFirst [.ref 94] hp K := by
  have w0 := hW.1
  have y4 : (4 : Nat) < 2 ^ 31 := by decide
  refine xMC_V ok_Walk_keepFirst (by decide) (L0 := [.ref 94, .retAddr 0]) rfl rfl ?_
  simp only [s_Walk_keepFirst_0, s_Walk_keepFirst_1, s_Walk_keepFirst_3, s_Walk_keepFirst_4, s_Walk_keepFirst_7, s_Walk_keepFirst_10, s_Walk_keepFirst_11, s_Walk_keepFirst_14, s_Walk_keepFirst_17, s_Walk_keepFirst_18, s_Walk_keepFirst_21, s_Walk_keepFirst_22, s_Walk_keepFirst_23, s_Walk_keepFirst_26, s_Walk_keepFirst_27, s_Walk_keepFirst_30, s_Walk_keepFirst_33, s_Walk_keepFirst_36, s_Walk_keepFirst_39, xg_0, xg_s, xF_up, xPf_up, xO_up, xAi_up, xAl_up, xLn_up, xup_xup, ty_i, ty_b, ty_z, ty_l, ty_q, tb_b, tb_z, xup_2, xpI_s, xpL_s, xpV_s, xpQ_n, xpQ_r, yl_0, yl_1, yl_2, yl_3, yl_4, yl_5, yl_6, xcs_nil, xcs_i, xcs_a, xcs_l, xcs_n, xNl_z, xNl_s, xNl_i, xNl_a, xNl_n, xNl_d, cat_i, cat_a, cat_n, List.getElem?_cons_zero, List.getElem?_cons_succ, List.set_cons_zero, List.set_cons_succ, List.length_cons, List.length_nil, true_and, and_true, eq_self, ite_true, ite_false, if_true, if_false, or_true, true_or, or_false, false_or, Nat.reduceAdd, Nat.reduceLT, Nat.reduceLeDiff, Nat.reduceEqDiff, Nat.reduceSub, ↓reduceIte, reduceCtorEq, not_false_eq_true, not_true_eq_false, false_implies, true_implies, forall_const, imp_self, implies_true, Nat.add_left_cancel_iff, Nat.left_eq_add, Nat.add_eq_left, Nat.zero_lt_succ, Nat.lt_add_left_iff_pos, one_ne_zero_n, zero_ne_one_n, zero_ne_one_i, one_ne_zero_i, xF_r w0, xPf_r w0, xO_r w0]
  by_cases z : F = 0
  · rw [if_pos z] at hK
    have zz : nI F = 0 := (nI_z hFb).mpr z
    have loop : ∀ j, j ≤ Ln → ∀ hq, xAg hp hq [96] → isWalk hq pa (fcp le pa j) one goal (nI Ln) (nI F) → xV k_Walk_keepFirst (l, d + 1, b, lo, gz, hp.2.1, hp.2.2, m_Walk_keepFirst, xpV K) 2 [.ref 94, .int (nI j)] [] hq := by
      refine yloop Ln ?_ fun j hj ih => ?_
      · intro hq ha hW2
        have q0 := hW2.1
        have zzx := nI_le (Nat.le_refl Ln) (show Ln < 2 ^ 31 by omega)
        rw [s_Walk_keepFirst_2]
        simp only [s_Walk_keepFirst_0, s_Walk_keepFirst_1, s_Walk_keepFirst_3, s_Walk_keepFirst_4, s_Walk_keepFirst_7, s_Walk_keepFirst_10, s_Walk_keepFirst_11, s_Walk_keepFirst_14, s_Walk_keepFirst_17, s_Walk_keepFirst_18, s_Walk_keepFirst_21, s_Walk_keepFirst_22, s_Walk_keepFirst_23, s_Walk_keepFirst_26, s_Walk_keepFirst_27, s_Walk_keepFirst_30, s_Walk_keepFirst_33, s_Walk_keepFirst_36, s_Walk_keepFirst_39, xg_0, xg_s, xF_up, xPf_up, xO_up, xAi_up, xAl_up, xLn_up, xup_xup, ty_i, ty_b, ty_z, ty_l, ty_q, tb_b, tb_z, xup_2, xpI_s, xpL_s, xpV_s, xpQ_n, xpQ_r, yl_0, yl_1, yl_2, yl_3, yl_4, yl_5, yl_6, xcs_nil, xcs_i, xcs_a, xcs_l, xcs_n, xNl_z, xNl_s, xNl_i, xNl_a, xNl_n, xNl_d, cat_i, cat_a, cat_n, List.getElem?_cons_zero, List.getElem?_cons_succ, List.set_cons_zero, List.set_cons_succ, List.length_cons, List.length_nil, true_and, and_true, eq_self, ite_true, ite_false, if_true, if_false, or_true, true_or, or_false, false_or, Nat.reduceAdd, Nat.reduceLT, Nat.reduceLeDiff, Nat.reduceEqDiff, Nat.reduceSub, ↓reduceIte, reduceCtorEq, not_false_eq_true, not_true_eq_false, false_implies, true_implies, forall_const, imp_self, implies_true, Nat.add_left_cancel_iff, Nat.left_eq_add, Nat.add_eq_left, Nat.zero_lt_succ, Nat.lt_add_left_iff_pos, one_ne_zero_n, zero_ne_one_n, zero_ne_one_i, one_ne_zero_i, xF_r q0, xPf_r q0, xO_r q0, zzx]
        exact hK hq ha hW2
      · intro hq ha hW2
        obtain ⟨q0, q1, q2⟩ := hW2
        have zzx : ¬ nI Ln ≤ nI j := nI_ge hj (by omega)
        rw [s_Walk_keepFirst_2]
        simp only [s_Walk_keepFirst_0, s_Walk_keepFirst_1, s_Walk_keepFirst_3, s_Walk_keepFirst_4, s_Walk_keepFirst_7, s_Walk_keepFirst_10, s_Walk_keepFirst_11, s_Walk_keepFirst_14, s_Walk_keepFirst_17, s_Walk_keepFirst_18, s_Walk_keepFirst_21, s_Walk_keepFirst_22, s_Walk_keepFirst_23, s_Walk_keepFirst_26, s_Walk_keepFirst_27, s_Walk_keepFirst_30, s_Walk_keepFirst_33, s_Walk_keepFirst_36, s_Walk_keepFirst_39, xg_0, xg_s, xF_up, xPf_up, xO_up, xAi_up, xAl_up, xLn_up, xup_xup, ty_i, ty_b, ty_z, ty_l, ty_q, tb_b, tb_z, xup_2, xpI_s, xpL_s, xpV_s, xpQ_n, xpQ_r, yl_0, yl_1, yl_2, yl_3, yl_4, yl_5, yl_6, xcs_nil, xcs_i, xcs_a, xcs_l, xcs_n, xNl_z, xNl_s, xNl_i, xNl_a, xNl_n, xNl_d, cat_i, cat_a, cat_n, List.getElem?_cons_zero, List.getElem?_cons_succ, List.set_cons_zero, List.set_cons_succ, List.length_cons, List.length_nil, true_and, and_true, eq_self, ite_true, ite_false, if_true, if_false, or_true, true_or, or_false, false_or, Nat.reduceAdd, Nat.reduceLT, Nat.reduceLeDiff, Nat.reduceEqDiff, Nat.reduceSub, ↓reduceIte, reduceCtorEq, not_false_eq_true, not_true_eq_false, false_implies, true_implies, forall_const, imp_self, implies_true, Nat.add_left_cancel_iff, Nat.left_eq_add, Nat.add_eq_left, Nat.zero_lt_succ, Nat.lt_add_left_iff_pos, one_ne_zero_n, zero_ne_one_n, zero_ne_one_i, one_ne_zero_i, xF_r q0, xPf_r q0, xO_r q0, zzx, zz]
        refine c_So_at q1 (by decide) ?_
        rw [yat_nI (show j < 4 by omega) y4]
        try simp only [s_Walk_keepFirst_0, s_Walk_keepFirst_1, s_Walk_keepFirst_3, s_Walk_keepFirst_4, s_Walk_keepFirst_7, s_Walk_keepFirst_10, s_Walk_keepFirst_11, s_Walk_keepFirst_14, s_Walk_keepFirst_17, s_Walk_keepFirst_18, s_Walk_keepFirst_21, s_Walk_keepFirst_22, s_Walk_keepFirst_23, s_Walk_keepFirst_26, s_Walk_keepFirst_27, s_Walk_keepFirst_30, s_Walk_keepFirst_33, s_Walk_keepFirst_36, s_Walk_keepFirst_39, xg_0, xg_s, xF_up, xPf_up, xO_up, xAi_up, xAl_up, xLn_up, xup_xup, ty_i, ty_b, ty_z, ty_l, ty_q, tb_b, tb_z, xup_2, xpI_s, xpL_s, xpV_s, xpQ_n, xpQ_r, yl_0, yl_1, yl_2, yl_3, yl_4, yl_5, yl_6, xcs_nil, xcs_i, xcs_a, xcs_l, xcs_n, xNl_z, xNl_s, xNl_i, xNl_a, xNl_n, xNl_d, cat_i, cat_a, cat_n, List.getElem?_cons_zero, List.getElem?_cons_succ, List.set_cons_zero, List.set_cons_succ, List.length_cons, List.length_nil, true_and, and_true, eq_self, ite_true, ite_false, if_true, if_false, or_true, true_or, or_false, false_or, Nat.reduceAdd, Nat.reduceLT, Nat.reduceLeDiff, Nat.reduceEqDiff, Nat.reduceSub, ↓reduceIte, reduceCtorEq, not_false_eq_true, not_true_eq_false, false_implies, true_implies, forall_const, imp_self, implies_true, Nat.add_left_cancel_iff, Nat.left_eq_add, Nat.add_eq_left, Nat.zero_lt_succ, Nat.lt_add_left_iff_pos, one_ne_zero_n, zero_ne_one_n, zero_ne_one_i, one_ne_zero_i, xF_r q0, xPf_r q0, xO_r q0]
        refine c_So_put q2 (by decide) ?_
        rw [yput_nI (show j < 4 by omega) y4, fcp_s]
        try simp only [s_Walk_keepFirst_0, s_Walk_keepFirst_1, s_Walk_keepFirst_3, s_Walk_keepFirst_4, s_Walk_keepFirst_7, s_Walk_keepFirst_10, s_Walk_keepFirst_11, s_Walk_keepFirst_14, s_Walk_keepFirst_17, s_Walk_keepFirst_18, s_Walk_keepFirst_21, s_Walk_keepFirst_22, s_Walk_keepFirst_23, s_Walk_keepFirst_26, s_Walk_keepFirst_27, s_Walk_keepFirst_30, s_Walk_keepFirst_33, s_Walk_keepFirst_36, s_Walk_keepFirst_39, xg_0, xg_s, xF_up, xPf_up, xO_up, xAi_up, xAl_up, xLn_up, xup_xup, ty_i, ty_b, ty_z, ty_l, ty_q, tb_b, tb_z, xup_2, xpI_s, xpL_s, xpV_s, xpQ_n, xpQ_r, yl_0, yl_1, yl_2, yl_3, yl_4, yl_5, yl_6, xcs_nil, xcs_i, xcs_a, xcs_l, xcs_n, xNl_z, xNl_s, xNl_i, xNl_a, xNl_n, xNl_d, cat_i, cat_a, cat_n, List.getElem?_cons_zero, List.getElem?_cons_succ, List.set_cons_zero, List.set_cons_succ, List.length_cons, List.length_nil, true_and, and_true, eq_self, ite_true, ite_false, if_true, if_false, or_true, true_or, or_false, false_or, Nat.reduceAdd, Nat.reduceLT, Nat.reduceLeDiff, Nat.reduceEqDiff, Nat.reduceSub, ↓reduceIte, reduceCtorEq, not_false_eq_true, not_true_eq_false, false_implies, true_implies, forall_const, imp_self, implies_true, Nat.add_left_cancel_iff, Nat.left_eq_add, Nat.add_eq_left, Nat.zero_lt_succ, Nat.lt_add_left_iff_pos, one_ne_zero_n, zero_ne_one_n, zero_ne_one_i, one_ne_zero_i, nI_1]
        exact ih _ (xAg_up ha (by simp)) ⟨xup_o q0 (by omega), xup_o q1 (by omega), xup_s⟩
    exact loop 0 (Nat.zero_le _) hp (xAg_rf _ _) (by rw [fcp_0]; exact hW)
  · rw [if_neg z] at hK
    have zz : ¬ nI F = 0 := fun e => z ((nI_z hFb).mp e)
    rw [s_Walk_keepFirst_2]
    simp only [s_Walk_keepFirst_0, s_Walk_keepFirst_1, s_Walk_keepFirst_3, s_Walk_keepFirst_4, s_Walk_keepFirst_7, s_Walk_keepFirst_10, s_Walk_keepFirst_11, s_Walk_keepFirst_14, s_Walk_keepFirst_17, s_Walk_keepFirst_18, s_Walk_keepFirst_21, s_Walk_keepFirst_22, s_Walk_keepFirst_23, s_Walk_keepFirst_26, s_Walk_keepFirst_27, s_Walk_keepFirst_30, s_Walk_keepFirst_33, s_Walk_keepFirst_36, s_Walk_keepFirst_39, xg_0, xg_s, xF_up, xPf_up, xO_up, xAi_up, xAl_up, xLn_up, xup_xup, ty_i, ty_b, ty_z, ty_l, ty_q, tb_b, tb_z, xup_2, xpI_s, xpL_s, xpV_s, xpQ_n, xpQ_r, yl_0, yl_1, yl_2, yl_3, yl_4, yl_5, yl_6, xcs_nil, xcs_i, xcs_a, xcs_l, xcs_n, xNl_z, xNl_s, xNl_i, xNl_a, xNl_n, xNl_d, cat_i, cat_a, cat_n, List.getElem?_cons_zero, List.getElem?_cons_succ, List.set_cons_zero, List.set_cons_succ, List.length_cons, List.length_nil, true_and, and_true, eq_self, ite_true, ite_false, if_true, if_false, or_true, true_or, or_false, false_or, Nat.reduceAdd, Nat.reduceLT, Nat.reduceLeDiff, Nat.reduceEqDiff, Nat.reduceSub, ↓reduceIte, reduceCtorEq, not_false_eq_true, not_true_eq_false, false_implies, true_implies, forall_const, imp_self, implies_true, Nat.add_left_cancel_iff, Nat.left_eq_add, Nat.add_eq_left, Nat.zero_lt_succ, Nat.lt_add_left_iff_pos, one_ne_zero_n, zero_ne_one_n, zero_ne_one_i, one_ne_zero_i, xF_r w0, xPf_r w0, xO_r w0, zz]
    have := hK hp (xAg_rf _ _) hW
    exact ⟨fun _ => this, fun _ => this⟩
theorem c_Walk_tellPath {R : Nat → Int64} {nr : Int32} {K : xHp → Prop} (hLn : Ln ≤ 4) (hW : isWalk hp pa le one goal (nI Ln) found) (hR : isRow hp 3 R nr)
    (hK : ∀ hq R2, xAg hp hq [3, 4] → isRow hq 3 R2 (nI Ln) → (∀ i, i < Ln → R2 i = (pa i).toInt64) → K hq) : xMv l (d + 1) b lo gz m_Walk_tellPath [.ref 94, .ref 3] hp K := by
  have w0 := hW.1
  have r0 := hR.1
  have y4 : (4 : Nat) < 2 ^ 31 := by decide
  refine xMC_V ok_Walk_tellPath (by decide) (L0 := [.ref 94, .ref 3, .retAddr 0]) rfl rfl ?_
  simp only [s_Walk_tellPath_0, s_Walk_tellPath_1, s_Walk_tellPath_4, s_Walk_tellPath_5, s_Walk_tellPath_7, s_Walk_tellPath_8, s_Walk_tellPath_11, s_Walk_tellPath_14, s_Walk_tellPath_15, s_Walk_tellPath_16, s_Walk_tellPath_19, s_Walk_tellPath_20, s_Walk_tellPath_23, s_Walk_tellPath_24, s_Walk_tellPath_27, s_Walk_tellPath_30, s_Walk_tellPath_33, xg_0, xg_s, xF_up, xPf_up, xO_up, xAi_up, xAl_up, xLn_up, xup_xup, ty_i, ty_b, ty_z, ty_l, ty_q, tb_b, tb_z, xup_2, xpI_s, xpL_s, xpV_s, xpQ_n, xpQ_r, yl_0, yl_1, yl_2, yl_3, yl_4, yl_5, yl_6, xcs_nil, xcs_i, xcs_a, xcs_l, xcs_n, xNl_z, xNl_s, xNl_i, xNl_a, xNl_n, xNl_d, cat_i, cat_a, cat_n, List.getElem?_cons_zero, List.getElem?_cons_succ, List.set_cons_zero, List.set_cons_succ, List.length_cons, List.length_nil, true_and, and_true, eq_self, ite_true, ite_false, if_true, if_false, or_true, true_or, or_false, false_or, Nat.reduceAdd, Nat.reduceLT, Nat.reduceLeDiff, Nat.reduceEqDiff, Nat.reduceSub, ↓reduceIte, reduceCtorEq, not_false_eq_true, not_true_eq_false, false_implies, true_implies, forall_const, imp_self, implies_true, Nat.add_left_cancel_iff, Nat.left_eq_add, Nat.add_eq_left, Nat.zero_lt_succ, Nat.lt_add_left_iff_pos, one_ne_zero_n, zero_ne_one_n, zero_ne_one_i, one_ne_zero_i, xF_r r0, xPf_r r0, xO_r r0]
  refine c_Row_clear hR ?_
  try simp only [s_Walk_tellPath_0, s_Walk_tellPath_1, s_Walk_tellPath_4, s_Walk_tellPath_5, s_Walk_tellPath_7, s_Walk_tellPath_8, s_Walk_tellPath_11, s_Walk_tellPath_14, s_Walk_tellPath_15, s_Walk_tellPath_16, s_Walk_tellPath_19, s_Walk_tellPath_20, s_Walk_tellPath_23, s_Walk_tellPath_24, s_Walk_tellPath_27, s_Walk_tellPath_30, s_Walk_tellPath_33, xg_0, xg_s, xF_up, xPf_up, xO_up, xAi_up, xAl_up, xLn_up, xup_xup, ty_i, ty_b, ty_z, ty_l, ty_q, tb_b, tb_z, xup_2, xpI_s, xpL_s, xpV_s, xpQ_n, xpQ_r, yl_0, yl_1, yl_2, yl_3, yl_4, yl_5, yl_6, xcs_nil, xcs_i, xcs_a, xcs_l, xcs_n, xNl_z, xNl_s, xNl_i, xNl_a, xNl_n, xNl_d, cat_i, cat_a, cat_n, List.getElem?_cons_zero, List.getElem?_cons_succ, List.set_cons_zero, List.set_cons_succ, List.length_cons, List.length_nil, true_and, and_true, eq_self, ite_true, ite_false, if_true, if_false, or_true, true_or, or_false, false_or, Nat.reduceAdd, Nat.reduceLT, Nat.reduceLeDiff, Nat.reduceEqDiff, Nat.reduceSub, ↓reduceIte, reduceCtorEq, not_false_eq_true, not_true_eq_false, false_implies, true_implies, forall_const, imp_self, implies_true, Nat.add_left_cancel_iff, Nat.left_eq_add, Nat.add_eq_left, Nat.zero_lt_succ, Nat.lt_add_left_iff_pos, one_ne_zero_n, zero_ne_one_n, zero_ne_one_i, one_ne_zero_i, xF_r r0, xPf_r r0, xO_r r0]
  have loop : ∀ j, j ≤ Ln → ∀ hq R2, xAg hp hq [3, 4] → isRow hq 3 R2 (nI j) → (∀ i, i < j → R2 i = (pa i).toInt64) → xV k_Walk_tellPath (l, d + 1, b, lo, gz, hp.2.1, hp.2.2, m_Walk_tellPath, xpV K) 6 [.ref 94, .ref 3, .int (nI j)] [] hq := by
    refine yloop Ln ?_ fun j hj ih => ?_
    · intro hq R2 ha hR2 hv
      have hW2 := isWalk_ag ha (by simp) hW
      have q0 := hW2.1
      have zzx := nI_le (Nat.le_refl Ln) (show Ln < 2 ^ 31 by omega)
      rw [s_Walk_tellPath_6]
      simp only [s_Walk_tellPath_0, s_Walk_tellPath_1, s_Walk_tellPath_4, s_Walk_tellPath_5, s_Walk_tellPath_7, s_Walk_tellPath_8, s_Walk_tellPath_11, s_Walk_tellPath_14, s_Walk_tellPath_15, s_Walk_tellPath_16, s_Walk_tellPath_19, s_Walk_tellPath_20, s_Walk_tellPath_23, s_Walk_tellPath_24, s_Walk_tellPath_27, s_Walk_tellPath_30, s_Walk_tellPath_33, xg_0, xg_s, xF_up, xPf_up, xO_up, xAi_up, xAl_up, xLn_up, xup_xup, ty_i, ty_b, ty_z, ty_l, ty_q, tb_b, tb_z, xup_2, xpI_s, xpL_s, xpV_s, xpQ_n, xpQ_r, yl_0, yl_1, yl_2, yl_3, yl_4, yl_5, yl_6, xcs_nil, xcs_i, xcs_a, xcs_l, xcs_n, xNl_z, xNl_s, xNl_i, xNl_a, xNl_n, xNl_d, cat_i, cat_a, cat_n, List.getElem?_cons_zero, List.getElem?_cons_succ, List.set_cons_zero, List.set_cons_succ, List.length_cons, List.length_nil, true_and, and_true, eq_self, ite_true, ite_false, if_true, if_false, or_true, true_or, or_false, false_or, Nat.reduceAdd, Nat.reduceLT, Nat.reduceLeDiff, Nat.reduceEqDiff, Nat.reduceSub, ↓reduceIte, reduceCtorEq, not_false_eq_true, not_true_eq_false, false_implies, true_implies, forall_const, imp_self, implies_true, Nat.add_left_cancel_iff, Nat.left_eq_add, Nat.add_eq_left, Nat.zero_lt_succ, Nat.lt_add_left_iff_pos, one_ne_zero_n, zero_ne_one_n, zero_ne_one_i, one_ne_zero_i, xF_r q0, xPf_r q0, xO_r q0, zzx]
      exact hK hq R2 ha hR2 hv
    · intro hq R2 ha hR2 hv
      have hW2 := isWalk_ag ha (by simp) hW
      have q0 := hW2.1
      have q3 := hR2.1
      have zzx : ¬ nI Ln ≤ nI j := nI_ge hj (by omega)
      rw [s_Walk_tellPath_6]
      simp only [s_Walk_tellPath_0, s_Walk_tellPath_1, s_Walk_tellPath_4, s_Walk_tellPath_5, s_Walk_tellPath_7, s_Walk_tellPath_8, s_Walk_tellPath_11, s_Walk_tellPath_14, s_Walk_tellPath_15, s_Walk_tellPath_16, s_Walk_tellPath_19, s_Walk_tellPath_20, s_Walk_tellPath_23, s_Walk_tellPath_24, s_Walk_tellPath_27, s_Walk_tellPath_30, s_Walk_tellPath_33, xg_0, xg_s, xF_up, xPf_up, xO_up, xAi_up, xAl_up, xLn_up, xup_xup, ty_i, ty_b, ty_z, ty_l, ty_q, tb_b, tb_z, xup_2, xpI_s, xpL_s, xpV_s, xpQ_n, xpQ_r, yl_0, yl_1, yl_2, yl_3, yl_4, yl_5, yl_6, xcs_nil, xcs_i, xcs_a, xcs_l, xcs_n, xNl_z, xNl_s, xNl_i, xNl_a, xNl_n, xNl_d, cat_i, cat_a, cat_n, List.getElem?_cons_zero, List.getElem?_cons_succ, List.set_cons_zero, List.set_cons_succ, List.length_cons, List.length_nil, true_and, and_true, eq_self, ite_true, ite_false, if_true, if_false, or_true, true_or, or_false, false_or, Nat.reduceAdd, Nat.reduceLT, Nat.reduceLeDiff, Nat.reduceEqDiff, Nat.reduceSub, ↓reduceIte, reduceCtorEq, not_false_eq_true, not_true_eq_false, false_implies, true_implies, forall_const, imp_self, implies_true, Nat.add_left_cancel_iff, Nat.left_eq_add, Nat.add_eq_left, Nat.zero_lt_succ, Nat.lt_add_left_iff_pos, one_ne_zero_n, zero_ne_one_n, zero_ne_one_i, one_ne_zero_i, xF_r q0, xPf_r q0, xO_r q0, xF_r q3, xPf_r q3, xO_r q3, zzx]
      refine c_So_at hW2.2.1 (by decide) ?_
      rw [yat_nI (show j < 4 by omega) y4]
      try simp only [s_Walk_tellPath_0, s_Walk_tellPath_1, s_Walk_tellPath_4, s_Walk_tellPath_5, s_Walk_tellPath_7, s_Walk_tellPath_8, s_Walk_tellPath_11, s_Walk_tellPath_14, s_Walk_tellPath_15, s_Walk_tellPath_16, s_Walk_tellPath_19, s_Walk_tellPath_20, s_Walk_tellPath_23, s_Walk_tellPath_24, s_Walk_tellPath_27, s_Walk_tellPath_30, s_Walk_tellPath_33, xg_0, xg_s, xF_up, xPf_up, xO_up, xAi_up, xAl_up, xLn_up, xup_xup, ty_i, ty_b, ty_z, ty_l, ty_q, tb_b, tb_z, xup_2, xpI_s, xpL_s, xpV_s, xpQ_n, xpQ_r, yl_0, yl_1, yl_2, yl_3, yl_4, yl_5, yl_6, xcs_nil, xcs_i, xcs_a, xcs_l, xcs_n, xNl_z, xNl_s, xNl_i, xNl_a, xNl_n, xNl_d, cat_i, cat_a, cat_n, List.getElem?_cons_zero, List.getElem?_cons_succ, List.set_cons_zero, List.set_cons_succ, List.length_cons, List.length_nil, true_and, and_true, eq_self, ite_true, ite_false, if_true, if_false, or_true, true_or, or_false, false_or, Nat.reduceAdd, Nat.reduceLT, Nat.reduceLeDiff, Nat.reduceEqDiff, Nat.reduceSub, ↓reduceIte, reduceCtorEq, not_false_eq_true, not_true_eq_false, false_implies, true_implies, forall_const, imp_self, implies_true, Nat.add_left_cancel_iff, Nat.left_eq_add, Nat.add_eq_left, Nat.zero_lt_succ, Nat.lt_add_left_iff_pos, one_ne_zero_n, zero_ne_one_n, zero_ne_one_i, one_ne_zero_i, xF_r q0, xPf_r q0, xO_r q0, xF_r q3, xPf_r q3, xO_r q3]
      refine c_Row_add hR2 rfl (by omega) fun hr ha3 hR3 => ?_
      try simp only [s_Walk_tellPath_0, s_Walk_tellPath_1, s_Walk_tellPath_4, s_Walk_tellPath_5, s_Walk_tellPath_7, s_Walk_tellPath_8, s_Walk_tellPath_11, s_Walk_tellPath_14, s_Walk_tellPath_15, s_Walk_tellPath_16, s_Walk_tellPath_19, s_Walk_tellPath_20, s_Walk_tellPath_23, s_Walk_tellPath_24, s_Walk_tellPath_27, s_Walk_tellPath_30, s_Walk_tellPath_33, xg_0, xg_s, xF_up, xPf_up, xO_up, xAi_up, xAl_up, xLn_up, xup_xup, ty_i, ty_b, ty_z, ty_l, ty_q, tb_b, tb_z, xup_2, xpI_s, xpL_s, xpV_s, xpQ_n, xpQ_r, yl_0, yl_1, yl_2, yl_3, yl_4, yl_5, yl_6, xcs_nil, xcs_i, xcs_a, xcs_l, xcs_n, xNl_z, xNl_s, xNl_i, xNl_a, xNl_n, xNl_d, cat_i, cat_a, cat_n, List.getElem?_cons_zero, List.getElem?_cons_succ, List.set_cons_zero, List.set_cons_succ, List.length_cons, List.length_nil, true_and, and_true, eq_self, ite_true, ite_false, if_true, if_false, or_true, true_or, or_false, false_or, Nat.reduceAdd, Nat.reduceLT, Nat.reduceLeDiff, Nat.reduceEqDiff, Nat.reduceSub, ↓reduceIte, reduceCtorEq, not_false_eq_true, not_true_eq_false, false_implies, true_implies, forall_const, imp_self, implies_true, Nat.add_left_cancel_iff, Nat.left_eq_add, Nat.add_eq_left, Nat.zero_lt_succ, Nat.lt_add_left_iff_pos, one_ne_zero_n, zero_ne_one_n, zero_ne_one_i, one_ne_zero_i, nI_1]
      refine ih hr _ (xAg_tr ha ha3 (by simp)) hR3 fun i hi => ?_
      unfold vp_updL
      by_cases e : i = j
      · rw [if_pos e, e]
      · rw [if_neg e]; exact hv i (by omega)
  exact loop 0 (Nat.zero_le _) _ R (xAg_up (xAg_rf _ _) (by simp)) ⟨xup_s, xup_o hR.2 (by omega)⟩ (fun i hi => absurd hi (by omega))
theorem c_Walk_tellLeast {R : Nat → Int64} {nr : Int32} {K : xHp → Prop} (hLn : Ln ≤ 4) (hW : isWalk hp pa le one goal (nI Ln) found) (hR : isRow hp 3 R nr)
    (hK : ∀ hq R2, xAg hp hq [3, 4] → isRow hq 3 R2 (nI Ln) → (∀ i, i < Ln → R2 i = (le i).toInt64) → K hq) : xMv l (d + 1) b lo gz m_Walk_tellLeast [.ref 94, .ref 3] hp K := by
  have w0 := hW.1
  have r0 := hR.1
  have y4 : (4 : Nat) < 2 ^ 31 := by decide
  refine xMC_V ok_Walk_tellLeast (by decide) (L0 := [.ref 94, .ref 3, .retAddr 0]) rfl rfl ?_
  simp only [s_Walk_tellLeast_0, s_Walk_tellLeast_1, s_Walk_tellLeast_4, s_Walk_tellLeast_5, s_Walk_tellLeast_7, s_Walk_tellLeast_8, s_Walk_tellLeast_11, s_Walk_tellLeast_14, s_Walk_tellLeast_15, s_Walk_tellLeast_16, s_Walk_tellLeast_19, s_Walk_tellLeast_20, s_Walk_tellLeast_23, s_Walk_tellLeast_24, s_Walk_tellLeast_27, s_Walk_tellLeast_30, s_Walk_tellLeast_33, xg_0, xg_s, xF_up, xPf_up, xO_up, xAi_up, xAl_up, xLn_up, xup_xup, ty_i, ty_b, ty_z, ty_l, ty_q, tb_b, tb_z, xup_2, xpI_s, xpL_s, xpV_s, xpQ_n, xpQ_r, yl_0, yl_1, yl_2, yl_3, yl_4, yl_5, yl_6, xcs_nil, xcs_i, xcs_a, xcs_l, xcs_n, xNl_z, xNl_s, xNl_i, xNl_a, xNl_n, xNl_d, cat_i, cat_a, cat_n, List.getElem?_cons_zero, List.getElem?_cons_succ, List.set_cons_zero, List.set_cons_succ, List.length_cons, List.length_nil, true_and, and_true, eq_self, ite_true, ite_false, if_true, if_false, or_true, true_or, or_false, false_or, Nat.reduceAdd, Nat.reduceLT, Nat.reduceLeDiff, Nat.reduceEqDiff, Nat.reduceSub, ↓reduceIte, reduceCtorEq, not_false_eq_true, not_true_eq_false, false_implies, true_implies, forall_const, imp_self, implies_true, Nat.add_left_cancel_iff, Nat.left_eq_add, Nat.add_eq_left, Nat.zero_lt_succ, Nat.lt_add_left_iff_pos, one_ne_zero_n, zero_ne_one_n, zero_ne_one_i, one_ne_zero_i, xF_r r0, xPf_r r0, xO_r r0]
  refine c_Row_clear hR ?_
  try simp only [s_Walk_tellLeast_0, s_Walk_tellLeast_1, s_Walk_tellLeast_4, s_Walk_tellLeast_5, s_Walk_tellLeast_7, s_Walk_tellLeast_8, s_Walk_tellLeast_11, s_Walk_tellLeast_14, s_Walk_tellLeast_15, s_Walk_tellLeast_16, s_Walk_tellLeast_19, s_Walk_tellLeast_20, s_Walk_tellLeast_23, s_Walk_tellLeast_24, s_Walk_tellLeast_27, s_Walk_tellLeast_30, s_Walk_tellLeast_33, xg_0, xg_s, xF_up, xPf_up, xO_up, xAi_up, xAl_up, xLn_up, xup_xup, ty_i, ty_b, ty_z, ty_l, ty_q, tb_b, tb_z, xup_2, xpI_s, xpL_s, xpV_s, xpQ_n, xpQ_r, yl_0, yl_1, yl_2, yl_3, yl_4, yl_5, yl_6, xcs_nil, xcs_i, xcs_a, xcs_l, xcs_n, xNl_z, xNl_s, xNl_i, xNl_a, xNl_n, xNl_d, cat_i, cat_a, cat_n, List.getElem?_cons_zero, List.getElem?_cons_succ, List.set_cons_zero, List.set_cons_succ, List.length_cons, List.length_nil, true_and, and_true, eq_self, ite_true, ite_false, if_true, if_false, or_true, true_or, or_false, false_or, Nat.reduceAdd, Nat.reduceLT, Nat.reduceLeDiff, Nat.reduceEqDiff, Nat.reduceSub, ↓reduceIte, reduceCtorEq, not_false_eq_true, not_true_eq_false, false_implies, true_implies, forall_const, imp_self, implies_true, Nat.add_left_cancel_iff, Nat.left_eq_add, Nat.add_eq_left, Nat.zero_lt_succ, Nat.lt_add_left_iff_pos, one_ne_zero_n, zero_ne_one_n, zero_ne_one_i, one_ne_zero_i, xF_r r0, xPf_r r0, xO_r r0]
  have loop : ∀ j, j ≤ Ln → ∀ hq R2, xAg hp hq [3, 4] → isRow hq 3 R2 (nI j) → (∀ i, i < j → R2 i = (le i).toInt64) → xV k_Walk_tellLeast (l, d + 1, b, lo, gz, hp.2.1, hp.2.2, m_Walk_tellLeast, xpV K) 6 [.ref 94, .ref 3, .int (nI j)] [] hq := by
    refine yloop Ln ?_ fun j hj ih => ?_
    · intro hq R2 ha hR2 hv
      have hW2 := isWalk_ag ha (by simp) hW
      have q0 := hW2.1
      have zzx := nI_le (Nat.le_refl Ln) (show Ln < 2 ^ 31 by omega)
      rw [s_Walk_tellLeast_6]
      simp only [s_Walk_tellLeast_0, s_Walk_tellLeast_1, s_Walk_tellLeast_4, s_Walk_tellLeast_5, s_Walk_tellLeast_7, s_Walk_tellLeast_8, s_Walk_tellLeast_11, s_Walk_tellLeast_14, s_Walk_tellLeast_15, s_Walk_tellLeast_16, s_Walk_tellLeast_19, s_Walk_tellLeast_20, s_Walk_tellLeast_23, s_Walk_tellLeast_24, s_Walk_tellLeast_27, s_Walk_tellLeast_30, s_Walk_tellLeast_33, xg_0, xg_s, xF_up, xPf_up, xO_up, xAi_up, xAl_up, xLn_up, xup_xup, ty_i, ty_b, ty_z, ty_l, ty_q, tb_b, tb_z, xup_2, xpI_s, xpL_s, xpV_s, xpQ_n, xpQ_r, yl_0, yl_1, yl_2, yl_3, yl_4, yl_5, yl_6, xcs_nil, xcs_i, xcs_a, xcs_l, xcs_n, xNl_z, xNl_s, xNl_i, xNl_a, xNl_n, xNl_d, cat_i, cat_a, cat_n, List.getElem?_cons_zero, List.getElem?_cons_succ, List.set_cons_zero, List.set_cons_succ, List.length_cons, List.length_nil, true_and, and_true, eq_self, ite_true, ite_false, if_true, if_false, or_true, true_or, or_false, false_or, Nat.reduceAdd, Nat.reduceLT, Nat.reduceLeDiff, Nat.reduceEqDiff, Nat.reduceSub, ↓reduceIte, reduceCtorEq, not_false_eq_true, not_true_eq_false, false_implies, true_implies, forall_const, imp_self, implies_true, Nat.add_left_cancel_iff, Nat.left_eq_add, Nat.add_eq_left, Nat.zero_lt_succ, Nat.lt_add_left_iff_pos, one_ne_zero_n, zero_ne_one_n, zero_ne_one_i, one_ne_zero_i, xF_r q0, xPf_r q0, xO_r q0, zzx]
      exact hK hq R2 ha hR2 hv
    · intro hq R2 ha hR2 hv
      have hW2 := isWalk_ag ha (by simp) hW
      have q0 := hW2.1
      have q3 := hR2.1
      have zzx : ¬ nI Ln ≤ nI j := nI_ge hj (by omega)
      rw [s_Walk_tellLeast_6]
      simp only [s_Walk_tellLeast_0, s_Walk_tellLeast_1, s_Walk_tellLeast_4, s_Walk_tellLeast_5, s_Walk_tellLeast_7, s_Walk_tellLeast_8, s_Walk_tellLeast_11, s_Walk_tellLeast_14, s_Walk_tellLeast_15, s_Walk_tellLeast_16, s_Walk_tellLeast_19, s_Walk_tellLeast_20, s_Walk_tellLeast_23, s_Walk_tellLeast_24, s_Walk_tellLeast_27, s_Walk_tellLeast_30, s_Walk_tellLeast_33, xg_0, xg_s, xF_up, xPf_up, xO_up, xAi_up, xAl_up, xLn_up, xup_xup, ty_i, ty_b, ty_z, ty_l, ty_q, tb_b, tb_z, xup_2, xpI_s, xpL_s, xpV_s, xpQ_n, xpQ_r, yl_0, yl_1, yl_2, yl_3, yl_4, yl_5, yl_6, xcs_nil, xcs_i, xcs_a, xcs_l, xcs_n, xNl_z, xNl_s, xNl_i, xNl_a, xNl_n, xNl_d, cat_i, cat_a, cat_n, List.getElem?_cons_zero, List.getElem?_cons_succ, List.set_cons_zero, List.set_cons_succ, List.length_cons, List.length_nil, true_and, and_true, eq_self, ite_true, ite_false, if_true, if_false, or_true, true_or, or_false, false_or, Nat.reduceAdd, Nat.reduceLT, Nat.reduceLeDiff, Nat.reduceEqDiff, Nat.reduceSub, ↓reduceIte, reduceCtorEq, not_false_eq_true, not_true_eq_false, false_implies, true_implies, forall_const, imp_self, implies_true, Nat.add_left_cancel_iff, Nat.left_eq_add, Nat.add_eq_left, Nat.zero_lt_succ, Nat.lt_add_left_iff_pos, one_ne_zero_n, zero_ne_one_n, zero_ne_one_i, one_ne_zero_i, xF_r q0, xPf_r q0, xO_r q0, xF_r q3, xPf_r q3, xO_r q3, zzx]
      refine c_So_at hW2.2.2 (by decide) ?_
      rw [yat_nI (show j < 4 by omega) y4]
      try simp only [s_Walk_tellLeast_0, s_Walk_tellLeast_1, s_Walk_tellLeast_4, s_Walk_tellLeast_5, s_Walk_tellLeast_7, s_Walk_tellLeast_8, s_Walk_tellLeast_11, s_Walk_tellLeast_14, s_Walk_tellLeast_15, s_Walk_tellLeast_16, s_Walk_tellLeast_19, s_Walk_tellLeast_20, s_Walk_tellLeast_23, s_Walk_tellLeast_24, s_Walk_tellLeast_27, s_Walk_tellLeast_30, s_Walk_tellLeast_33, xg_0, xg_s, xF_up, xPf_up, xO_up, xAi_up, xAl_up, xLn_up, xup_xup, ty_i, ty_b, ty_z, ty_l, ty_q, tb_b, tb_z, xup_2, xpI_s, xpL_s, xpV_s, xpQ_n, xpQ_r, yl_0, yl_1, yl_2, yl_3, yl_4, yl_5, yl_6, xcs_nil, xcs_i, xcs_a, xcs_l, xcs_n, xNl_z, xNl_s, xNl_i, xNl_a, xNl_n, xNl_d, cat_i, cat_a, cat_n, List.getElem?_cons_zero, List.getElem?_cons_succ, List.set_cons_zero, List.set_cons_succ, List.length_cons, List.length_nil, true_and, and_true, eq_self, ite_true, ite_false, if_true, if_false, or_true, true_or, or_false, false_or, Nat.reduceAdd, Nat.reduceLT, Nat.reduceLeDiff, Nat.reduceEqDiff, Nat.reduceSub, ↓reduceIte, reduceCtorEq, not_false_eq_true, not_true_eq_false, false_implies, true_implies, forall_const, imp_self, implies_true, Nat.add_left_cancel_iff, Nat.left_eq_add, Nat.add_eq_left, Nat.zero_lt_succ, Nat.lt_add_left_iff_pos, one_ne_zero_n, zero_ne_one_n, zero_ne_one_i, one_ne_zero_i, xF_r q0, xPf_r q0, xO_r q0, xF_r q3, xPf_r q3, xO_r q3]
      refine c_Row_add hR2 rfl (by omega) fun hr ha3 hR3 => ?_
      try simp only [s_Walk_tellLeast_0, s_Walk_tellLeast_1, s_Walk_tellLeast_4, s_Walk_tellLeast_5, s_Walk_tellLeast_7, s_Walk_tellLeast_8, s_Walk_tellLeast_11, s_Walk_tellLeast_14, s_Walk_tellLeast_15, s_Walk_tellLeast_16, s_Walk_tellLeast_19, s_Walk_tellLeast_20, s_Walk_tellLeast_23, s_Walk_tellLeast_24, s_Walk_tellLeast_27, s_Walk_tellLeast_30, s_Walk_tellLeast_33, xg_0, xg_s, xF_up, xPf_up, xO_up, xAi_up, xAl_up, xLn_up, xup_xup, ty_i, ty_b, ty_z, ty_l, ty_q, tb_b, tb_z, xup_2, xpI_s, xpL_s, xpV_s, xpQ_n, xpQ_r, yl_0, yl_1, yl_2, yl_3, yl_4, yl_5, yl_6, xcs_nil, xcs_i, xcs_a, xcs_l, xcs_n, xNl_z, xNl_s, xNl_i, xNl_a, xNl_n, xNl_d, cat_i, cat_a, cat_n, List.getElem?_cons_zero, List.getElem?_cons_succ, List.set_cons_zero, List.set_cons_succ, List.length_cons, List.length_nil, true_and, and_true, eq_self, ite_true, ite_false, if_true, if_false, or_true, true_or, or_false, false_or, Nat.reduceAdd, Nat.reduceLT, Nat.reduceLeDiff, Nat.reduceEqDiff, Nat.reduceSub, ↓reduceIte, reduceCtorEq, not_false_eq_true, not_true_eq_false, false_implies, true_implies, forall_const, imp_self, implies_true, Nat.add_left_cancel_iff, Nat.left_eq_add, Nat.add_eq_left, Nat.zero_lt_succ, Nat.lt_add_left_iff_pos, one_ne_zero_n, zero_ne_one_n, zero_ne_one_i, one_ne_zero_i, nI_1]
      refine ih hr _ (xAg_tr ha ha3 (by simp)) hR3 fun i hi => ?_
      unfold vp_updL
      by_cases e : i = j
      · rw [if_pos e, e]
      · rw [if_neg e]; exact hv i (by omega)
  exact loop 0 (Nat.zero_le _) _ R (xAg_up (xAg_rf _ _) (by simp)) ⟨xup_s, xup_o hR.2 (by omega)⟩ (fun i hi => absurd hi (by omega))
end WZ
