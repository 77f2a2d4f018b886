/-! ===== the class reads RULES as the grammar says ===== -/
def capp (code : Nat → Int32) (m : Nat) : List Int32 → Nat → Int32
  | [] => code
  | w :: r => capp (upd code m w) (m + 1) r
theorem capp_app (c1 c2 : List Int32) : ∀ (code : Nat → Int32) (m : Nat), capp (capp code m c1) (m + c1.length) c2 = capp code m (c1 ++ c2) := by
  induction c1 with
  | nil => intro code m; rfl
  | cons w r ih =>
    intro code m
    have := ih (upd code m w) (m + 1)
    simp only [List.length_cons, List.cons_append]
    rw [show m + (r.length + 1) = m + 1 + r.length by omega]
    exact this
theorem capp_1 (c1 : List Int32) (w : Int32) (code : Nat → Int32) (m : Nat) : upd (capp code m c1) (m + c1.length) w = capp code m (c1 ++ [w]) := capp_app c1 [w] code m
def bI (b : Bool) : Int32 := if b then 1 else 0
theorem bI_01 (b : Bool) : (bI b = 0 ∨ bI b = 1) = True := by cases b <;> simp [bI]
def PRe (T : Nat → Int32) (N ru : Nat) (code S : Nat → Int32) (m : Nat) (c : List Int32) (p1 : Nat) (hp : xHp) (ok : Bool) (K : Int32 → xHp → Prop) : Prop := ∀ hq, xAg hp hq [ru, ru + 1] → isRule hq ru (capp code m c) S (nI (m + c.length)) (nI p1) → isText hq 1 T (nI N) → K (bI ok) hq
def PC (T : Nat → Int32) (N : Nat) (k : GK) (e p : Nat) (ok : Bool) (p1 : Nat) (c : List Int32) : Prop :=
  ∀ (l : Launch) (b lo gz D ru m : Nat) (hp : xHp) (code S : Nat → Int32) (K : Int32 → xHp → Prop), isRule hp ru code S (nI m) (nI p) → isText hp 1 T (nI N) → N ≤ 80 → p ≤ 40 → m ≤ p → e ≤ 4 → 2 < ru → PRe T N ru code S m c p1 hp ok K →
  match k.1 with
  | 0 => 5 * (4 - e) + 6 ≤ D → xMi l D b lo gz m_Rule_comparison [.ref ru, .int (nI e)] hp K
  | 1 => 5 * (4 - e) + 5 ≤ D → xMi l D b lo gz m_Rule_sum [.ref ru, .int (nI e)] hp K
  | 2 => 5 * (4 - e) + 5 ≤ D → ∀ n0 s0 i a4, i ≤ p → xV k_Rule_sum (l, D, b, lo, gz, n0, s0, m_Rule_sum, xpI K) 8 [.ref ru, .int (nI e), .int 1, .int (nI i), a4] [] hp
  | 3 => 5 * (4 - e) + 4 ≤ D → xMi l D b lo gz m_Rule_product [.ref ru, .int (nI e)] hp K
  | 4 => 5 * (4 - e) + 4 ≤ D → ∀ n0 s0 i a4, i ≤ p → xV k_Rule_product (l, D, b, lo, gz, n0, s0, m_Rule_product, xpI K) 8 [.ref ru, .int (nI e), .int 1, .int (nI i), a4] [] hp
  | 5 => 5 * (4 - e) + 3 ≤ D → xMi l D b lo gz m_Rule_thing [.ref ru, .int (nI e)] hp K
  | _ => 5 * (4 - e) + 2 ≤ D → (¬ tisd (lk T N p) = 0 → xMi l D b lo gz m_Rule_number [.ref ru] hp K) ∧ (tisd (lk T N p) = 0 → lk T N p = 40 → xMi l D b lo gz m_Rule_group [.ref ru, .int (nI e)] hp K) ∧ (tisd (lk T N p) = 0 → ¬ lk T N p = 40 → xMi l D b lo gz m_Rule_letter [.ref ru] hp K)
theorem lk_look {T : Nat → Int32} {N p : Nat} (hN : N ≤ 80) (hp : p ≤ 40) : (if nI p < 40 then tat T (nI N) (nI p) else -1) = lk T N p := by
  have e40 : (40 : Int32) = nI 40 := by decide
  unfold lk
  by_cases h : p < 40
  · have z : nI p < 40 := by rw [e40]; exact Int32.not_le.mp (nI_ge h (by omega))
    rw [if_pos z, if_pos h]
    by_cases h2 : p < N
    · rw [if_pos h2, tat_nI h2 hN]
    · rw [if_neg h2]
      unfold tat
      rw [if_neg (nI_pos (by omega)), if_pos (nI_le (by omega) (by omega))]
  · have z : ¬ nI p < 40 := by rw [e40]; exact Int32.not_lt.mpr (nI_le (by omega) (by omega))
    rw [if_neg z, if_neg h]
section RH
variable {l : Launch} {d b lo gz ru m p p1 e N D k : Nat} {hp : xHp} {T code S : Nat → Int32} {x : Int32} {c : List Int32} {ok : Bool}
theorem c_R_look {K : Int32 → xHp → Prop} (h : isRule hp ru code S (nI m) (nI p)) (ht : isText hp 1 T (nI N)) (hN : N ≤ 80) (hp40 : p ≤ 40) (hK : K (lk T N p) hp) : xMi l (d + 1) b lo gz m_Rule_look [.ref ru] hp K := c_Rule_look h ht (by rw [lk_look hN hp40]; exact hK)
theorem c_Rule_letterOf {K : Int32 → xHp → Prop} (hK : K (ylof x) hp) : xMi l d b lo gz m_Rule_letterOf [.int x] hp K := by
  refine xMC_V ok_Rule_letterOf (by decide) (L0 := [.int x]) rfl rfl ?_
  simp only [s_Rule_letterOf_0, s_Rule_letterOf_1, s_Rule_letterOf_108, s_Rule_letterOf_109, s_Rule_letterOf_110, s_Rule_letterOf_111, s_Rule_letterOf_112, s_Rule_letterOf_113, s_Rule_letterOf_114, s_Rule_letterOf_115, s_Rule_letterOf_116, s_Rule_letterOf_117, s_Rule_letterOf_118, s_Rule_letterOf_119, s_Rule_letterOf_120, s_Rule_letterOf_122, s_Rule_letterOf_123, s_Rule_letterOf_124, xg_0, xg_s, xF_up, xPf_up, xO_up, xAi_up, xAl_up, xLn_up, xup_xup, ty_i, ty_b, ty_z, ty_l, ty_q, tb_b, tb_z, xup_2, xpI_s, xpL_s, xpV_s, xpQ_n, xpQ_r, yl_0, yl_1, yl_2, yl_3, yl_4, yl_5, yl_6, xcs_nil, xcs_i, xcs_a, xcs_l, xcs_n, xNl_z, xNl_s, xNl_i, xNl_a, xNl_n, xNl_d, cat_i, cat_a, cat_n, List.getElem?_cons_zero, List.getElem?_cons_succ, List.set_cons_zero, List.set_cons_succ, List.length_cons, List.length_nil, true_and, and_true, eq_self, ite_true, ite_false, if_true, if_false, or_true, true_or, or_false, false_or, Nat.reduceAdd, Nat.reduceLT, Nat.reduceLeDiff, Nat.reduceEqDiff, Nat.reduceSub, ↓reduceIte, reduceCtorEq, not_false_eq_true, not_true_eq_false, false_implies, true_implies, forall_const, imp_self, implies_true, Nat.add_left_cancel_iff, Nat.left_eq_add, Nat.add_eq_left, Nat.zero_lt_succ, Nat.lt_add_left_iff_pos, one_ne_zero_n, zero_ne_one_n, zero_ne_one_i, one_ne_zero_i]
  refine ⟨fun zz => ?_, fun zz97 => ?_⟩
  · subst zz
    rw [show ylof 97 = 2 by decide] at hK
    exact hK
  refine ⟨fun zz => ?_, fun zz98 => ?_⟩
  · subst zz
    rw [show ylof 98 = -1 by decide] at hK
    exact hK
  refine ⟨fun zz => ?_, fun zz99 => ?_⟩
  · subst zz
    rw [show ylof 99 = -1 by decide] at hK
    exact hK
  refine ⟨fun zz => ?_, fun zz100 => ?_⟩
  · subst zz
    rw [show ylof 100 = -1 by decide] at hK
    exact hK
  refine ⟨fun zz => ?_, fun zz101 => ?_⟩
  · subst zz
    rw [show ylof 101 = -1 by decide] at hK
    exact hK
  refine ⟨fun zz => ?_, fun zz102 => ?_⟩
  · subst zz
    rw [show ylof 102 = -1 by decide] at hK
    exact hK
  refine ⟨fun zz => ?_, fun zz103 => ?_⟩
  · subst zz
    rw [show ylof 103 = -1 by decide] at hK
    exact hK
  refine ⟨fun zz => ?_, fun zz104 => ?_⟩
  · subst zz
    rw [show ylof 104 = -1 by decide] at hK
    exact hK
  refine ⟨fun zz => ?_, fun zz105 => ?_⟩
  · subst zz
    rw [show ylof 105 = 5 by decide] at hK
    exact hK
  refine ⟨fun zz => ?_, fun zz106 => ?_⟩
  · subst zz
    rw [show ylof 106 = -1 by decide] at hK
    exact hK
  refine ⟨fun zz => ?_, fun zz107 => ?_⟩
  · subst zz
    rw [show ylof 107 = 3 by decide] at hK
    exact hK
  refine ⟨fun zz => ?_, fun zz108 => ?_⟩
  · subst zz
    rw [show ylof 108 = -1 by decide] at hK
    exact hK
  refine ⟨fun zz => ?_, fun zz109 => ?_⟩
  · subst zz
    rw [show ylof 109 = -1 by decide] at hK
    exact hK
  refine ⟨fun zz => ?_, fun zz110 => ?_⟩
  · subst zz
    rw [show ylof 110 = 6 by decide] at hK
    exact hK
  refine ⟨fun zz => ?_, fun zz111 => ?_⟩
  · subst zz
    rw [show ylof 111 = -1 by decide] at hK
    exact hK
  refine ⟨fun zz => ?_, fun zz112 => ?_⟩
  · subst zz
    rw [show ylof 112 = 4 by decide] at hK
    exact hK
  refine ⟨fun zz => ?_, fun zz113 => ?_⟩
  · subst zz
    rw [show ylof 113 = -1 by decide] at hK
    exact hK
  refine ⟨fun zz => ?_, fun zz114 => ?_⟩
  · subst zz
    rw [show ylof 114 = -1 by decide] at hK
    exact hK
  refine ⟨fun zz => ?_, fun zz115 => ?_⟩
  · subst zz
    rw [show ylof 115 = 0 by decide] at hK
    exact hK
  refine ⟨fun zz => ?_, fun zz116 => ?_⟩
  · subst zz
    rw [show ylof 116 = -1 by decide] at hK
    exact hK
  refine ⟨fun zz => ?_, fun zz117 => ?_⟩
  · subst zz
    rw [show ylof 117 = -1 by decide] at hK
    exact hK
  refine ⟨fun zz => ?_, fun zz118 => ?_⟩
  · subst zz
    rw [show ylof 118 = -1 by decide] at hK
    exact hK
  refine ⟨fun zz => ?_, fun zz119 => ?_⟩
  · subst zz
    rw [show ylof 119 = 1 by decide] at hK
    exact hK
  unfold ylof at hK
  rw [if_neg zz97, if_neg zz105, if_neg zz107, if_neg zz110, if_neg zz112, if_neg zz115, if_neg zz119] at hK
  exact hK
theorem isRule_nx {y : Int32} {n nx : Int32} (h : isRule hp ru code S n nx) : isRule (xup hp ru (.inr (8, [.ref 1, .ref (ru + 1), .ref (ru + 2), .int n, .int y]))) ru code S n y := ⟨xup_s, xup_o h.2.1 (by omega), xup_o h.2.2 (by omega)⟩
theorem isText_nx {n : Int32} {E : xAE} (hru : 2 < ru) (h : isText hp 1 T n) : isText (xup hp ru E) 1 T n := ⟨xup_o h.1 (by omega), xup_o h.2 (by omega)⟩
theorem isText_R {hq : xHp} {n : Int32} (hru : 2 < ru) (ha : xAg hp hq [ru, ru + 1]) (h : isText hp 1 T n) : isText hq 1 T n := isText_ag ha (by simp <;> omega) h
theorem c_R_number {K : Int32 → xHp → Prop} (h : isRule hp ru code S (nI m) (nI p)) (ht : isText hp 1 T (nI N)) (hN : N ≤ 80) (hp40 : p ≤ 40) (hm : m < 40) (hru : 2 < ru) (hK : PRe T N ru code S m [(gnum T N 3 p 0).2] (gnum T N 3 p 0).1 hp true K) : xMi l (d + 2) b lo gz m_Rule_number [.ref ru] hp K := by
  have h0 := h.1
  refine xMC_V ok_Rule_number (by decide) (L0 := [.ref ru, .retAddr 0, .retAddr 0]) rfl rfl ?_
  simp only [s_Rule_number_0, s_Rule_number_1, s_Rule_number_2, s_Rule_number_3, s_Rule_number_5, s_Rule_number_6, s_Rule_number_9, s_Rule_number_10, s_Rule_number_13, s_Rule_number_16, s_Rule_number_19, s_Rule_number_21, s_Rule_number_22, s_Rule_number_23, s_Rule_number_24, s_Rule_number_27, s_Rule_number_28, s_Rule_number_30, s_Rule_number_31, s_Rule_number_32, s_Rule_number_33, s_Rule_number_34, s_Rule_number_37, s_Rule_number_38, s_Rule_number_39, s_Rule_number_42, s_Rule_number_45, s_Rule_number_48, s_Rule_number_49, s_Rule_number_50, s_Rule_number_53, s_Rule_number_54, xg_0, xg_s, xF_up, xPf_up, xO_up, xAi_up, xAl_up, xLn_up, xup_xup, ty_i, ty_b, ty_z, ty_l, ty_q, tb_b, tb_z, xup_2, xpI_s, xpL_s, xpV_s, xpQ_n, xpQ_r, yl_0, yl_1, yl_2, yl_3, yl_4, yl_5, yl_6, xcs_nil, xcs_i, xcs_a, xcs_l, xcs_n, xNl_z, xNl_s, xNl_i, xNl_a, xNl_n, xNl_d, cat_i, cat_a, cat_n, List.getElem?_cons_zero, List.getElem?_cons_succ, List.set_cons_zero, List.set_cons_succ, List.length_cons, List.length_nil, true_and, and_true, eq_self, ite_true, ite_false, if_true, if_false, or_true, true_or, or_false, false_or, Nat.reduceAdd, Nat.reduceLT, Nat.reduceLeDiff, Nat.reduceEqDiff, Nat.reduceSub, ↓reduceIte, reduceCtorEq, not_false_eq_true, not_true_eq_false, false_implies, true_implies, forall_const, imp_self, implies_true, Nat.add_left_cancel_iff, Nat.left_eq_add, Nat.add_eq_left, Nat.zero_lt_succ, Nat.lt_add_left_iff_pos, one_ne_zero_n, zero_ne_one_n, zero_ne_one_i, one_ne_zero_i, xF_r h0, xPf_r h0, xO_r h0]
  have loop : ∀ k, k ≤ 3 → ∀ p v hq, p ≤ 40 → xAg hp hq [ru, ru + 1] → isRule hq ru code S (nI m) (nI p) → isText hq 1 T (nI N) → PRe T N ru code S m [(gnum T N k p v).2] (gnum T N k p v).1 hp true K → xV k_Rule_number (l, d + 2, b, lo, gz, hp.2.1, hp.2.2, m_Rule_number, xpI K) 4 [.ref ru, .int v, .int (nI (3 - k))] [] hq := by
    have fin : ∀ p v hq, xAg hp hq [ru, ru + 1] → isRule hq ru code S (nI m) (nI p) → isText hq 1 T (nI N) → PRe T N ru code S m [v] p hp true K → ∀ a, xV k_Rule_number (l, d + 2, b, lo, gz, hp.2.1, hp.2.2, m_Rule_number, xpI K) 48 [.ref ru, .int v, a] [] hq := by
      intro p v hq ha hr ht hK a
      have q0 := hr.1
      simp only [s_Rule_number_0, s_Rule_number_1, s_Rule_number_2, s_Rule_number_3, s_Rule_number_5, s_Rule_number_6, s_Rule_number_9, s_Rule_number_10, s_Rule_number_13, s_Rule_number_16, s_Rule_number_19, s_Rule_number_21, s_Rule_number_22, s_Rule_number_23, s_Rule_number_24, s_Rule_number_27, s_Rule_number_28, s_Rule_number_30, s_Rule_number_31, s_Rule_number_32, s_Rule_number_33, s_Rule_number_34, s_Rule_number_37, s_Rule_number_38, s_Rule_number_39, s_Rule_number_42, s_Rule_number_45, s_Rule_number_48, s_Rule_number_49, s_Rule_number_50, s_Rule_number_53, s_Rule_number_54, xg_0, xg_s, xF_up, xPf_up, xO_up, xAi_up, xAl_up, xLn_up, xup_xup, ty_i, ty_b, ty_z, ty_l, ty_q, tb_b, tb_z, xup_2, xpI_s, xpL_s, xpV_s, xpQ_n, xpQ_r, yl_0, yl_1, yl_2, yl_3, yl_4, yl_5, yl_6, xcs_nil, xcs_i, xcs_a, xcs_l, xcs_n, xNl_z, xNl_s, xNl_i, xNl_a, xNl_n, xNl_d, cat_i, cat_a, cat_n, List.getElem?_cons_zero, List.getElem?_cons_succ, List.set_cons_zero, List.set_cons_succ, List.length_cons, List.length_nil, true_and, and_true, eq_self, ite_true, ite_false, if_true, if_false, or_true, true_or, or_false, false_or, Nat.reduceAdd, Nat.reduceLT, Nat.reduceLeDiff, Nat.reduceEqDiff, Nat.reduceSub, ↓reduceIte, reduceCtorEq, not_false_eq_true, not_true_eq_false, false_implies, true_implies, forall_const, imp_self, implies_true, Nat.add_left_cancel_iff, Nat.left_eq_add, Nat.add_eq_left, Nat.zero_lt_succ, Nat.lt_add_left_iff_pos, one_ne_zero_n, zero_ne_one_n, zero_ne_one_i, one_ne_zero_i, xF_r q0, xPf_r q0, xO_r q0]
      refine c_Rule_emit hr rfl hm fun hq2 ha2 hr2 => ?_
      try simp only [s_Rule_number_0, s_Rule_number_1, s_Rule_number_2, s_Rule_number_3, s_Rule_number_5, s_Rule_number_6, s_Rule_number_9, s_Rule_number_10, s_Rule_number_13, s_Rule_number_16, s_Rule_number_19, s_Rule_number_21, s_Rule_number_22, s_Rule_number_23, s_Rule_number_24, s_Rule_number_27, s_Rule_number_28, s_Rule_number_30, s_Rule_number_31, s_Rule_number_32, s_Rule_number_33, s_Rule_number_34, s_Rule_number_37, s_Rule_number_38, s_Rule_number_39, s_Rule_number_42, s_Rule_number_45, s_Rule_number_48, s_Rule_number_49, s_Rule_number_50, s_Rule_number_53, s_Rule_number_54, xg_0, xg_s, xF_up, xPf_up, xO_up, xAi_up, xAl_up, xLn_up, xup_xup, ty_i, ty_b, ty_z, ty_l, ty_q, tb_b, tb_z, xup_2, xpI_s, xpL_s, xpV_s, xpQ_n, xpQ_r, yl_0, yl_1, yl_2, yl_3, yl_4, yl_5, yl_6, xcs_nil, xcs_i, xcs_a, xcs_l, xcs_n, xNl_z, xNl_s, xNl_i, xNl_a, xNl_n, xNl_d, cat_i, cat_a, cat_n, List.getElem?_cons_zero, List.getElem?_cons_succ, List.set_cons_zero, List.set_cons_succ, List.length_cons, List.length_nil, true_and, and_true, eq_self, ite_true, ite_false, if_true, if_false, or_true, true_or, or_false, false_or, Nat.reduceAdd, Nat.reduceLT, Nat.reduceLeDiff, Nat.reduceEqDiff, Nat.reduceSub, ↓reduceIte, reduceCtorEq, not_false_eq_true, not_true_eq_false, false_implies, true_implies, forall_const, imp_self, implies_true, Nat.add_left_cancel_iff, Nat.left_eq_add, Nat.add_eq_left, Nat.zero_lt_succ, Nat.lt_add_left_iff_pos, one_ne_zero_n, zero_ne_one_n, zero_ne_one_i, one_ne_zero_i, xF_r q0, xPf_r q0, xO_r q0]
      exact hK hq2 (xAg_tr ha ha2 (by simp)) hr2 (isText_R hru ha2 ht)
    intro k
    induction k with
    | zero =>
      intro _ p v hq hp ha hr ht hK
      have zzx : (3 : Int32) ≤ nI (3 - 0) := by decide
      rw [s_Rule_number_4]
      simp only [s_Rule_number_0, s_Rule_number_1, s_Rule_number_2, s_Rule_number_3, s_Rule_number_5, s_Rule_number_6, s_Rule_number_9, s_Rule_number_10, s_Rule_number_13, s_Rule_number_16, s_Rule_number_19, s_Rule_number_21, s_Rule_number_22, s_Rule_number_23, s_Rule_number_24, s_Rule_number_27, s_Rule_number_28, s_Rule_number_30, s_Rule_number_31, s_Rule_number_32, s_Rule_number_33, s_Rule_number_34, s_Rule_number_37, s_Rule_number_38, s_Rule_number_39, s_Rule_number_42, s_Rule_number_45, s_Rule_number_49, s_Rule_number_50, s_Rule_number_53, s_Rule_number_54, xg_0, xg_s, xF_up, xPf_up, xO_up, xAi_up, xAl_up, xLn_up, xup_xup, ty_i, ty_b, ty_z, ty_l, ty_q, tb_b, tb_z, xup_2, xpI_s, xpL_s, xpV_s, xpQ_n, xpQ_r, yl_0, yl_1, yl_2, yl_3, yl_4, yl_5, yl_6, xcs_nil, xcs_i, xcs_a, xcs_l, xcs_n, xNl_z, xNl_s, xNl_i, xNl_a, xNl_n, xNl_d, cat_i, cat_a, cat_n, List.getElem?_cons_zero, List.getElem?_cons_succ, List.set_cons_zero, List.set_cons_succ, List.length_cons, List.length_nil, true_and, and_true, eq_self, ite_true, ite_false, if_true, if_false, or_true, true_or, or_false, false_or, Nat.reduceAdd, Nat.reduceLT, Nat.reduceLeDiff, Nat.reduceEqDiff, Nat.reduceSub, ↓reduceIte, reduceCtorEq, not_false_eq_true, not_true_eq_false, false_implies, true_implies, forall_const, imp_self, implies_true, Nat.add_left_cancel_iff, Nat.left_eq_add, Nat.add_eq_left, Nat.zero_lt_succ, Nat.lt_add_left_iff_pos, one_ne_zero_n, zero_ne_one_n, zero_ne_one_i, one_ne_zero_i, zzx]
      exact fin p v hq ha hr ht hK _
    | succ k ih =>
      intro hk p v hq hp ha hr ht hK
      have q0 := hr.1
      have zzx : ¬ (3 : Int32) ≤ nI (3 - (k + 1)) := by
        rw [show (3 : Int32) = nI 3 by decide]
        exact nI_ge (by omega) (by omega)
      have hs : 3 - (k + 1) + 1 = 3 - k := by omega
      rw [s_Rule_number_4]
      simp only [s_Rule_number_0, s_Rule_number_1, s_Rule_number_2, s_Rule_number_3, s_Rule_number_5, s_Rule_number_6, s_Rule_number_9, s_Rule_number_10, s_Rule_number_13, s_Rule_number_16, s_Rule_number_19, s_Rule_number_21, s_Rule_number_22, s_Rule_number_23, s_Rule_number_24, s_Rule_number_27, s_Rule_number_28, s_Rule_number_30, s_Rule_number_31, s_Rule_number_32, s_Rule_number_33, s_Rule_number_34, s_Rule_number_37, s_Rule_number_38, s_Rule_number_39, s_Rule_number_42, s_Rule_number_45, s_Rule_number_49, s_Rule_number_50, s_Rule_number_53, s_Rule_number_54, xg_0, xg_s, xF_up, xPf_up, xO_up, xAi_up, xAl_up, xLn_up, xup_xup, ty_i, ty_b, ty_z, ty_l, ty_q, tb_b, tb_z, xup_2, xpI_s, xpL_s, xpV_s, xpQ_n, xpQ_r, yl_0, yl_1, yl_2, yl_3, yl_4, yl_5, yl_6, xcs_nil, xcs_i, xcs_a, xcs_l, xcs_n, xNl_z, xNl_s, xNl_i, xNl_a, xNl_n, xNl_d, cat_i, cat_a, cat_n, List.getElem?_cons_zero, List.getElem?_cons_succ, List.set_cons_zero, List.set_cons_succ, List.length_cons, List.length_nil, true_and, and_true, eq_self, ite_true, ite_false, if_true, if_false, or_true, true_or, or_false, false_or, Nat.reduceAdd, Nat.reduceLT, Nat.reduceLeDiff, Nat.reduceEqDiff, Nat.reduceSub, ↓reduceIte, reduceCtorEq, not_false_eq_true, not_true_eq_false, false_implies, true_implies, forall_const, imp_self, implies_true, Nat.add_left_cancel_iff, Nat.left_eq_add, Nat.add_eq_left, Nat.zero_lt_succ, Nat.lt_add_left_iff_pos, one_ne_zero_n, zero_ne_one_n, zero_ne_one_i, one_ne_zero_i, zzx, xF_r q0, xPf_r q0, xO_r q0]
      refine c_R_look hr ht hN hp ?_
      try simp only [s_Rule_number_0, s_Rule_number_1, s_Rule_number_2, s_Rule_number_3, s_Rule_number_5, s_Rule_number_6, s_Rule_number_9, s_Rule_number_10, s_Rule_number_13, s_Rule_number_16, s_Rule_number_19, s_Rule_number_21, s_Rule_number_22, s_Rule_number_23, s_Rule_number_24, s_Rule_number_27, s_Rule_number_28, s_Rule_number_30, s_Rule_number_31, s_Rule_number_32, s_Rule_number_33, s_Rule_number_34, s_Rule_number_37, s_Rule_number_38, s_Rule_number_39, s_Rule_number_42, s_Rule_number_45, s_Rule_number_49, s_Rule_number_50, s_Rule_number_53, s_Rule_number_54, xg_0, xg_s, xF_up, xPf_up, xO_up, xAi_up, xAl_up, xLn_up, xup_xup, ty_i, ty_b, ty_z, ty_l, ty_q, tb_b, tb_z, xup_2, xpI_s, xpL_s, xpV_s, xpQ_n, xpQ_r, yl_0, yl_1, yl_2, yl_3, yl_4, yl_5, yl_6, xcs_nil, xcs_i, xcs_a, xcs_l, xcs_n, xNl_z, xNl_s, xNl_i, xNl_a, xNl_n, xNl_d, cat_i, cat_a, cat_n, List.getElem?_cons_zero, List.getElem?_cons_succ, List.set_cons_zero, List.set_cons_succ, List.length_cons, List.length_nil, true_and, and_true, eq_self, ite_true, ite_false, if_true, if_false, or_true, true_or, or_false, false_or, Nat.reduceAdd, Nat.reduceLT, Nat.reduceLeDiff, Nat.reduceEqDiff, Nat.reduceSub, ↓reduceIte, reduceCtorEq, not_false_eq_true, not_true_eq_false, false_implies, true_implies, forall_const, imp_self, implies_true, Nat.add_left_cancel_iff, Nat.left_eq_add, Nat.add_eq_left, Nat.zero_lt_succ, Nat.lt_add_left_iff_pos, one_ne_zero_n, zero_ne_one_n, zero_ne_one_i, one_ne_zero_i, zzx, xF_r q0, xPf_r q0, xO_r q0]
      refine c_Text_isDigit ?_
      unfold gnum at hK
      by_cases z : tisd (lk T N p) = 0
      · rw [if_pos z] at hK
        simp only [s_Rule_number_0, s_Rule_number_1, s_Rule_number_2, s_Rule_number_3, s_Rule_number_5, s_Rule_number_6, s_Rule_number_9, s_Rule_number_10, s_Rule_number_13, s_Rule_number_16, s_Rule_number_19, s_Rule_number_21, s_Rule_number_22, s_Rule_number_23, s_Rule_number_24, s_Rule_number_27, s_Rule_number_28, s_Rule_number_30, s_Rule_number_31, s_Rule_number_32, s_Rule_number_33, s_Rule_number_34, s_Rule_number_37, s_Rule_number_38, s_Rule_number_39, s_Rule_number_42, s_Rule_number_45, s_Rule_number_49, s_Rule_number_50, s_Rule_number_53, s_Rule_number_54, xg_0, xg_s, xF_up, xPf_up, xO_up, xAi_up, xAl_up, xLn_up, xup_xup, ty_i, ty_b, ty_z, ty_l, ty_q, tb_b, tb_z, xup_2, xpI_s, xpL_s, xpV_s, xpQ_n, xpQ_r, yl_0, yl_1, yl_2, yl_3, yl_4, yl_5, yl_6, xcs_nil, xcs_i, xcs_a, xcs_l, xcs_n, xNl_z, xNl_s, xNl_i, xNl_a, xNl_n, xNl_d, cat_i, cat_a, cat_n, List.getElem?_cons_zero, List.getElem?_cons_succ, List.set_cons_zero, List.set_cons_succ, List.length_cons, List.length_nil, true_and, and_true, eq_self, ite_true, ite_false, if_true, if_false, or_true, true_or, or_false, false_or, Nat.reduceAdd, Nat.reduceLT, Nat.reduceLeDiff, Nat.reduceEqDiff, Nat.reduceSub, ↓reduceIte, reduceCtorEq, not_false_eq_true, not_true_eq_false, false_implies, true_implies, forall_const, imp_self, implies_true, Nat.add_left_cancel_iff, Nat.left_eq_add, Nat.add_eq_left, Nat.zero_lt_succ, Nat.lt_add_left_iff_pos, one_ne_zero_n, zero_ne_one_n, zero_ne_one_i, one_ne_zero_i, z]
        exact fin p v hq ha hr ht hK _
      · rw [if_neg z] at hK
        have hl : p < 40 ∧ p < N := by
          by_cases e : lk T N p = -1
          · rw [e, tisd_n1] at z; exact absurd rfl z
          · exact lk_lt rfl e
        simp only [s_Rule_number_0, s_Rule_number_1, s_Rule_number_2, s_Rule_number_3, s_Rule_number_5, s_Rule_number_6, s_Rule_number_9, s_Rule_number_10, s_Rule_number_13, s_Rule_number_16, s_Rule_number_19, s_Rule_number_21, s_Rule_number_22, s_Rule_number_23, s_Rule_number_24, s_Rule_number_27, s_Rule_number_28, s_Rule_number_30, s_Rule_number_31, s_Rule_number_32, s_Rule_number_33, s_Rule_number_34, s_Rule_number_37, s_Rule_number_38, s_Rule_number_39, s_Rule_number_42, s_Rule_number_45, s_Rule_number_49, s_Rule_number_50, s_Rule_number_53, s_Rule_number_54, xg_0, xg_s, xF_up, xPf_up, xO_up, xAi_up, xAl_up, xLn_up, xup_xup, ty_i, ty_b, ty_z, ty_l, ty_q, tb_b, tb_z, xup_2, xpI_s, xpL_s, xpV_s, xpQ_n, xpQ_r, yl_0, yl_1, yl_2, yl_3, yl_4, yl_5, yl_6, xcs_nil, xcs_i, xcs_a, xcs_l, xcs_n, xNl_z, xNl_s, xNl_i, xNl_a, xNl_n, xNl_d, cat_i, cat_a, cat_n, List.getElem?_cons_zero, List.getElem?_cons_succ, List.set_cons_zero, List.set_cons_succ, List.length_cons, List.length_nil, true_and, and_true, eq_self, ite_true, ite_false, if_true, if_false, or_true, true_or, or_false, false_or, Nat.reduceAdd, Nat.reduceLT, Nat.reduceLeDiff, Nat.reduceEqDiff, Nat.reduceSub, ↓reduceIte, reduceCtorEq, not_false_eq_true, not_true_eq_false, false_implies, true_implies, forall_const, imp_self, implies_true, Nat.add_left_cancel_iff, Nat.left_eq_add, Nat.add_eq_left, Nat.zero_lt_succ, Nat.lt_add_left_iff_pos, one_ne_zero_n, zero_ne_one_n, zero_ne_one_i, one_ne_zero_i, z, xF_r q0, xPf_r q0, xO_r q0]
        refine c_R_look hr ht hN hp ?_
        try simp only [s_Rule_number_0, s_Rule_number_1, s_Rule_number_2, s_Rule_number_3, s_Rule_number_5, s_Rule_number_6, s_Rule_number_9, s_Rule_number_10, s_Rule_number_13, s_Rule_number_16, s_Rule_number_19, s_Rule_number_21, s_Rule_number_22, s_Rule_number_23, s_Rule_number_24, s_Rule_number_27, s_Rule_number_28, s_Rule_number_30, s_Rule_number_31, s_Rule_number_32, s_Rule_number_33, s_Rule_number_34, s_Rule_number_37, s_Rule_number_38, s_Rule_number_39, s_Rule_number_42, s_Rule_number_45, s_Rule_number_49, s_Rule_number_50, s_Rule_number_53, s_Rule_number_54, xg_0, xg_s, xF_up, xPf_up, xO_up, xAi_up, xAl_up, xLn_up, xup_xup, ty_i, ty_b, ty_z, ty_l, ty_q, tb_b, tb_z, xup_2, xpI_s, xpL_s, xpV_s, xpQ_n, xpQ_r, yl_0, yl_1, yl_2, yl_3, yl_4, yl_5, yl_6, xcs_nil, xcs_i, xcs_a, xcs_l, xcs_n, xNl_z, xNl_s, xNl_i, xNl_a, xNl_n, xNl_d, cat_i, cat_a, cat_n, List.getElem?_cons_zero, List.getElem?_cons_succ, List.set_cons_zero, List.set_cons_succ, List.length_cons, List.length_nil, true_and, and_true, eq_self, ite_true, ite_false, if_true, if_false, or_true, true_or, or_false, false_or, Nat.reduceAdd, Nat.reduceLT, Nat.reduceLeDiff, Nat.reduceEqDiff, Nat.reduceSub, ↓reduceIte, reduceCtorEq, not_false_eq_true, not_true_eq_false, false_implies, true_implies, forall_const, imp_self, implies_true, Nat.add_left_cancel_iff, Nat.left_eq_add, Nat.add_eq_left, Nat.zero_lt_succ, Nat.lt_add_left_iff_pos, one_ne_zero_n, zero_ne_one_n, zero_ne_one_i, one_ne_zero_i, xF_r q0, xPf_r q0, xO_r q0, nI_1, hs]
        exact ih (by omega) (p + 1) _ _ (by omega) (xAg_up ha (by simp)) (isRule_nx hr) (isText_nx hru ht) hK
  exact loop 3 (Nat.le_refl 3) p 0 hp hp40 (xAg_rf _ _) h ht hK
end RH
