/-! ===== Rooms ===== -/
def isRoom (hp : xHp) (H G B : Nat → Int32) (gu bs mo an : Int32) : Prop := hp.1 97 = .inr (6, [.ref 5, .ref 14, .ref 98, .ref 99, .ref 100, .int gu, .int bs, .int mo, .int an]) ∧ hp.1 98 = .inl (.int, 42, .inl H) ∧ hp.1 99 = .inl (.int, 7, .inl G) ∧ hp.1 100 = .inl (.int, 7, .inl B)
theorem isRoom_ag {hp hq : xHp} {X : List Nat} {H G B : Nat → Int32} {gu bs mo an : Int32} (ha : xAg hp hq X) (hx : ∀ k ∈ X, k < 97 ∨ 100 < k) (h : isRoom hp H G B gu bs mo an) : isRoom hq H G B gu bs mo an :=
  ⟨xAg_at ha (fun z => by have := hx _ z; omega) h.1, xAg_at ha (fun z => by have := hx _ z; omega) h.2.1, xAg_at ha (fun z => by have := hx _ z; omega) h.2.2.1, xAg_at ha (fun z => by have := hx _ z; omega) h.2.2.2⟩
def ybit (p : Nat) : Int32 := (1 : Int32) <<< (nI p &&& 31)
def catR (ff : Nat → List (List Int32 × Int32)) (taken : Int32) : Nat → Nat → List (List Int32 × Int32)
  | 0, _ => []
  | m + 1, p => (if taken &&& ybit p = 0 then (ff p).map (fun r => (nI p :: r.1, r.2)) else []) ++ catR ff taken m (p + 1)
def rgive (hf : Nat → Nat → Int32) (Nl : Nat) : Nat → Nat → Int32 → Int32 → List (List Int32 × Int32)
  | 0, _, _, sum => [([], sum)]
  | L + 1, o, taken, sum => catR (fun p => rgive hf Nl L (o + 1) (taken ||| ybit p) (sum + hf o p)) taken Nl 0
def rstp (mo : Int32) (st : Option (Int32 × List Int32)) (x : List Int32 × Int32) : Option (Int32 × List Int32) := match st with
  | none => some (x.2, x.1)
  | some q => if (if mo = 0 then q.1 ≤ x.2 else x.2 ≤ q.1) then some q else some (x.2, x.1)
def rall (mo : Int32) (pre : List Int32) : Option (Int32 × List Int32) → List (List Int32 × Int32) → Option (Int32 × List Int32)
  | st, [] => st
  | st, x :: r => rall mo pre (rstp mo st (pre ++ x.1, x.2)) r
theorem rall_app (mo : Int32) (pre : List Int32) (l1 l2 : List (List Int32 × Int32)) : ∀ st, rall mo pre st (l1 ++ l2) = rall mo pre (rall mo pre st l1) l2 := by
  induction l1 with
  | nil => intro st; rfl
  | cons x r ih => intro st; exact ih _
theorem rall_map (mo : Int32) (pre : List Int32) (w : Int32) (l1 : List (List Int32 × Int32)) : ∀ st, rall mo pre st (l1.map (fun r => (w :: r.1, r.2))) = rall mo (pre ++ [w]) st l1 := by
  induction l1 with
  | nil => intro st; rfl
  | cons x r ih =>
    intro st
    show rall mo pre (rstp mo st (pre ++ w :: x.1, x.2)) _ = rall mo (pre ++ [w]) (rstp mo st (pre ++ [w] ++ x.1, x.2)) r
    rw [ih, List.append_assoc]
    rfl
/-- the best so far, as it lies there -/
def isBest (B : Nat → Int32) (bs an : Int32) (st : Option (Int32 × List Int32)) : Prop := match st with
  | none => an = 0
  | some q => an = 1 ∧ bs = q.1 ∧ ypath B 0 q.2
theorem ypath_cg {f g : Nat → Int32} (r : List Int32) : ∀ s, (∀ i, s ≤ i → i < s + r.length → f i = g i) → ypath f s r → ypath g s r := by
  induction r with
  | nil => intro s _ _; trivial
  | cons x r ih =>
    intro s h h2
    refine ⟨(h s (Nat.le_refl s) (by rw [List.length_cons]; omega)).symm.trans h2.1, ih (s + 1) (fun i h3 h4 => h i (by omega) (by rw [List.length_cons]; omega)) h2.2⟩
theorem ypath_snoc {f : Nat → Int32} (r : List Int32) (w : Int32) : ∀ s, ypath f s r → f (s + r.length) = w → ypath f s (r ++ [w]) := by
  induction r with
  | nil => intro s _ h; exact ⟨h, trivial⟩
  | cons x r ih =>
    intro s h h2
    refine ⟨h.1, ih (s + 1) h.2 ?_⟩
    rw [List.length_cons] at h2
    rw [← h2]
    congr 1
    omega
section RM
variable {l : Launch} {d b lo gz N Nl Gn : Nat} {hp : xHp} {lg sk A P SS H G B : Nat → Int32} {day bs mo an sum tu : Int32} {V : (Nat → Int32) → Int32}
theorem c_Rooms_compare {gl : List Int32} {st : Option (Int32 × List Int32)} {K : xHp → Prop} (hG : Gn ≤ 7) (hR : isRoom hp H G B (nI Gn) bs mo an) (hg : ypath G 0 gl) (hgl : gl.length = Gn) (hb : isBest B bs an st)
    (hK : ∀ hq B2 bs2 an2, xAg hp hq [97, 100] → isRoom hq H G B2 (nI Gn) bs2 mo an2 → isBest B2 bs2 an2 (rstp mo st (gl, sum)) → K hq) : xMv l (d + 1) b lo gz m_Rooms_compare [.ref 97, .int sum] hp K := by
  obtain ⟨w0, w1, w2, w3⟩ := hR
  have y7 : (7 : Nat) < 2 ^ 31 := by decide
  have put : rstp mo st (gl, sum) = some (sum, gl) → xV k_Rooms_compare (l, d + 1, b, lo, gz, hp.2.1, hp.2.2, m_Rooms_compare, xpV K) 34 [.ref 97, .int sum, .retAddr 0] [] hp := by
    intro hst
    rw [hst] at hK
    have loop : ∀ j, j ≤ Gn → ∀ hq, xAg hp hq [97, 100] → isRoom hq H G (fcp B G j) (nI Gn) sum mo 1 → xV k_Rooms_compare (l, d + 1, b, lo, gz, hp.2.1, hp.2.2, m_Rooms_compare, xpV K) 46 [.ref 97, .int sum, .int (nI j)] [] hq := by
      refine yloop Gn ?_ fun j hj ih => ?_
      · intro hq ha hR2
        have q0 := hR2.1
        have zzx := nI_le (Nat.le_refl Gn) (show Gn < 2 ^ 31 by omega)
        rw [s_Rooms_compare_46]
        simp only [s_Rooms_compare_0, s_Rooms_compare_1, s_Rooms_compare_4, s_Rooms_compare_7, s_Rooms_compare_8, s_Rooms_compare_11, s_Rooms_compare_14, s_Rooms_compare_15, s_Rooms_compare_16, s_Rooms_compare_19, s_Rooms_compare_22, s_Rooms_compare_25, s_Rooms_compare_26, s_Rooms_compare_27, s_Rooms_compare_30, s_Rooms_compare_33, s_Rooms_compare_34, s_Rooms_compare_35, s_Rooms_compare_36, s_Rooms_compare_39, s_Rooms_compare_40, s_Rooms_compare_41, s_Rooms_compare_44, s_Rooms_compare_45, s_Rooms_compare_47, s_Rooms_compare_48, s_Rooms_compare_51, s_Rooms_compare_54, s_Rooms_compare_55, s_Rooms_compare_58, s_Rooms_compare_59, s_Rooms_compare_60, s_Rooms_compare_63, s_Rooms_compare_64, s_Rooms_compare_67, s_Rooms_compare_70, s_Rooms_compare_73, s_Rooms_compare_76, xg_0, xg_s, xF_up, xPf_up, xO_up, xAi_up, xAl_up, xLn_up, xup_xup, ty_i, ty_b, ty_z, ty_l, ty_q, tb_b, tb_z, xup_2, xpI_s, xpL_s, xpV_s, xpQ_n, xpQ_r, yl_0, yl_1, yl_2, yl_3, yl_4, yl_5, yl_6, xcs_nil, xcs_i, xcs_a, xcs_l, xcs_n, xNl_z, xNl_s, xNl_i, xNl_a, xNl_n, xNl_d, cat_i, cat_a, cat_n, List.getElem?_cons_zero, List.getElem?_cons_succ, List.set_cons_zero, List.set_cons_succ, List.length_cons, List.length_nil, true_and, and_true, eq_self, ite_true, ite_false, if_true, if_false, or_true, true_or, or_false, false_or, Nat.reduceAdd, Nat.reduceLT, Nat.reduceLeDiff, Nat.reduceEqDiff, Nat.reduceSub, ↓reduceIte, reduceCtorEq, not_false_eq_true, not_true_eq_false, false_implies, true_implies, forall_const, imp_self, implies_true, Nat.add_left_cancel_iff, Nat.left_eq_add, Nat.add_eq_left, Nat.zero_lt_succ, Nat.lt_add_left_iff_pos, one_ne_zero_n, zero_ne_one_n, zero_ne_one_i, one_ne_zero_i, xF_r q0, xPf_r q0, xO_r q0, zzx]
        refine hK hq _ _ _ ha hR2 ⟨rfl, rfl, ypath_cg gl 0 (fun i _ h => ?_) hg⟩
        unfold fcp
        rw [if_pos (by omega)]
      · intro hq ha hR2
        obtain ⟨q0, q1, q2, q3⟩ := hR2
        have zzx : ¬ nI Gn ≤ nI j := nI_ge hj (by omega)
        rw [s_Rooms_compare_46]
        simp only [s_Rooms_compare_0, s_Rooms_compare_1, s_Rooms_compare_4, s_Rooms_compare_7, s_Rooms_compare_8, s_Rooms_compare_11, s_Rooms_compare_14, s_Rooms_compare_15, s_Rooms_compare_16, s_Rooms_compare_19, s_Rooms_compare_22, s_Rooms_compare_25, s_Rooms_compare_26, s_Rooms_compare_27, s_Rooms_compare_30, s_Rooms_compare_33, s_Rooms_compare_34, s_Rooms_compare_35, s_Rooms_compare_36, s_Rooms_compare_39, s_Rooms_compare_40, s_Rooms_compare_41, s_Rooms_compare_44, s_Rooms_compare_45, s_Rooms_compare_47, s_Rooms_compare_48, s_Rooms_compare_51, s_Rooms_compare_54, s_Rooms_compare_55, s_Rooms_compare_58, s_Rooms_compare_59, s_Rooms_compare_60, s_Rooms_compare_63, s_Rooms_compare_64, s_Rooms_compare_67, s_Rooms_compare_70, s_Rooms_compare_73, s_Rooms_compare_76, xg_0, xg_s, xF_up, xPf_up, xO_up, xAi_up, xAl_up, xLn_up, xup_xup, ty_i, ty_b, ty_z, ty_l, ty_q, tb_b, tb_z, xup_2, xpI_s, xpL_s, xpV_s, xpQ_n, xpQ_r, yl_0, yl_1, yl_2, yl_3, yl_4, yl_5, yl_6, xcs_nil, xcs_i, xcs_a, xcs_l, xcs_n, xNl_z, xNl_s, xNl_i, xNl_a, xNl_n, xNl_d, cat_i, cat_a, cat_n, List.getElem?_cons_zero, List.getElem?_cons_succ, List.set_cons_zero, List.set_cons_succ, List.length_cons, List.length_nil, true_and, and_true, eq_self, ite_true, ite_false, if_true, if_false, or_true, true_or, or_false, false_or, Nat.reduceAdd, Nat.reduceLT, Nat.reduceLeDiff, Nat.reduceEqDiff, Nat.reduceSub, ↓reduceIte, reduceCtorEq, not_false_eq_true, not_true_eq_false, false_implies, true_implies, forall_const, imp_self, implies_true, Nat.add_left_cancel_iff, Nat.left_eq_add, Nat.add_eq_left, Nat.zero_lt_succ, Nat.lt_add_left_iff_pos, one_ne_zero_n, zero_ne_one_n, zero_ne_one_i, one_ne_zero_i, xF_r q0, xPf_r q0, xO_r q0, zzx]
        refine c_So_at q2 (by decide) ?_
        rw [yat_nI (show j < 7 by omega) y7]
        try simp only [s_Rooms_compare_0, s_Rooms_compare_1, s_Rooms_compare_4, s_Rooms_compare_7, s_Rooms_compare_8, s_Rooms_compare_11, s_Rooms_compare_14, s_Rooms_compare_15, s_Rooms_compare_16, s_Rooms_compare_19, s_Rooms_compare_22, s_Rooms_compare_25, s_Rooms_compare_26, s_Rooms_compare_27, s_Rooms_compare_30, s_Rooms_compare_33, s_Rooms_compare_34, s_Rooms_compare_35, s_Rooms_compare_36, s_Rooms_compare_39, s_Rooms_compare_40, s_Rooms_compare_41, s_Rooms_compare_44, s_Rooms_compare_45, s_Rooms_compare_47, s_Rooms_compare_48, s_Rooms_compare_51, s_Rooms_compare_54, s_Rooms_compare_55, s_Rooms_compare_58, s_Rooms_compare_59, s_Rooms_compare_60, s_Rooms_compare_63, s_Rooms_compare_64, s_Rooms_compare_67, s_Rooms_compare_70, s_Rooms_compare_73, s_Rooms_compare_76, xg_0, xg_s, xF_up, xPf_up, xO_up, xAi_up, xAl_up, xLn_up, xup_xup, ty_i, ty_b, ty_z, ty_l, ty_q, tb_b, tb_z, xup_2, xpI_s, xpL_s, xpV_s, xpQ_n, xpQ_r, yl_0, yl_1, yl_2, yl_3, yl_4, yl_5, yl_6, xcs_nil, xcs_i, xcs_a, xcs_l, xcs_n, xNl_z, xNl_s, xNl_i, xNl_a, xNl_n, xNl_d, cat_i, cat_a, cat_n, List.getElem?_cons_zero, List.getElem?_cons_succ, List.set_cons_zero, List.set_cons_succ, List.length_cons, List.length_nil, true_and, and_true, eq_self, ite_true, ite_false, if_true, if_false, or_true, true_or, or_false, false_or, Nat.reduceAdd, Nat.reduceLT, Nat.reduceLeDiff, Nat.reduceEqDiff, Nat.reduceSub, ↓reduceIte, reduceCtorEq, not_false_eq_true, not_true_eq_false, false_implies, true_implies, forall_const, imp_self, implies_true, Nat.add_left_cancel_iff, Nat.left_eq_add, Nat.add_eq_left, Nat.zero_lt_succ, Nat.lt_add_left_iff_pos, one_ne_zero_n, zero_ne_one_n, zero_ne_one_i, one_ne_zero_i, xF_r q0, xPf_r q0, xO_r q0]
        refine c_So_put q3 (by decide) ?_
        rw [yput_nI (show j < 7 by omega) y7, fcp_s]
        try simp only [s_Rooms_compare_0, s_Rooms_compare_1, s_Rooms_compare_4, s_Rooms_compare_7, s_Rooms_compare_8, s_Rooms_compare_11, s_Rooms_compare_14, s_Rooms_compare_15, s_Rooms_compare_16, s_Rooms_compare_19, s_Rooms_compare_22, s_Rooms_compare_25, s_Rooms_compare_26, s_Rooms_compare_27, s_Rooms_compare_30, s_Rooms_compare_33, s_Rooms_compare_34, s_Rooms_compare_35, s_Rooms_compare_36, s_Rooms_compare_39, s_Rooms_compare_40, s_Rooms_compare_41, s_Rooms_compare_44, s_Rooms_compare_45, s_Rooms_compare_47, s_Rooms_compare_48, s_Rooms_compare_51, s_Rooms_compare_54, s_Rooms_compare_55, s_Rooms_compare_58, s_Rooms_compare_59, s_Rooms_compare_60, s_Rooms_compare_63, s_Rooms_compare_64, s_Rooms_compare_67, s_Rooms_compare_70, s_Rooms_compare_73, s_Rooms_compare_76, xg_0, xg_s, xF_up, xPf_up, xO_up, xAi_up, xAl_up, xLn_up, xup_xup, ty_i, ty_b, ty_z, ty_l, ty_q, tb_b, tb_z, xup_2, xpI_s, xpL_s, xpV_s, xpQ_n, xpQ_r, yl_0, yl_1, yl_2, yl_3, yl_4, yl_5, yl_6, xcs_nil, xcs_i, xcs_a, xcs_l, xcs_n, xNl_z, xNl_s, xNl_i, xNl_a, xNl_n, xNl_d, cat_i, cat_a, cat_n, List.getElem?_cons_zero, List.getElem?_cons_succ, List.set_cons_zero, List.set_cons_succ, List.length_cons, List.length_nil, true_and, and_true, eq_self, ite_true, ite_false, if_true, if_false, or_true, true_or, or_false, false_or, Nat.reduceAdd, Nat.reduceLT, Nat.reduceLeDiff, Nat.reduceEqDiff, Nat.reduceSub, ↓reduceIte, reduceCtorEq, not_false_eq_true, not_true_eq_false, false_implies, true_implies, forall_const, imp_self, implies_true, Nat.add_left_cancel_iff, Nat.left_eq_add, Nat.add_eq_left, Nat.zero_lt_succ, Nat.lt_add_left_iff_pos, one_ne_zero_n, zero_ne_one_n, zero_ne_one_i, one_ne_zero_i, nI_1]
        exact ih _ (xAg_up ha (by simp)) ⟨xup_o q0 (by omega), xup_o q1 (by omega), xup_o q2 (by omega), xup_s⟩
    simp only [s_Rooms_compare_0, s_Rooms_compare_1, s_Rooms_compare_4, s_Rooms_compare_7, s_Rooms_compare_8, s_Rooms_compare_11, s_Rooms_compare_14, s_Rooms_compare_15, s_Rooms_compare_16, s_Rooms_compare_19, s_Rooms_compare_22, s_Rooms_compare_25, s_Rooms_compare_26, s_Rooms_compare_27, s_Rooms_compare_30, s_Rooms_compare_33, s_Rooms_compare_34, s_Rooms_compare_35, s_Rooms_compare_36, s_Rooms_compare_39, s_Rooms_compare_40, s_Rooms_compare_41, s_Rooms_compare_44, s_Rooms_compare_45, s_Rooms_compare_47, s_Rooms_compare_48, s_Rooms_compare_51, s_Rooms_compare_54, s_Rooms_compare_55, s_Rooms_compare_58, s_Rooms_compare_59, s_Rooms_compare_60, s_Rooms_compare_63, s_Rooms_compare_64, s_Rooms_compare_67, s_Rooms_compare_70, s_Rooms_compare_73, s_Rooms_compare_76, xg_0, xg_s, xF_up, xPf_up, xO_up, xAi_up, xAl_up, xLn_up, xup_xup, ty_i, ty_b, ty_z, ty_l, ty_q, tb_b, tb_z, xup_2, xpI_s, xpL_s, xpV_s, xpQ_n, xpQ_r, yl_0, yl_1, yl_2, yl_3, yl_4, yl_5, yl_6, xcs_nil, xcs_i, xcs_a, xcs_l, xcs_n, xNl_z, xNl_s, xNl_i, xNl_a, xNl_n, xNl_d, cat_i, cat_a, cat_n, List.getElem?_cons_zero, List.getElem?_cons_succ, List.set_cons_zero, List.set_cons_succ, List.length_cons, List.length_nil, true_and, and_true, eq_self, ite_true, ite_false, if_true, if_false, or_true, true_or, or_false, false_or, Nat.reduceAdd, Nat.reduceLT, Nat.reduceLeDiff, Nat.reduceEqDiff, Nat.reduceSub, ↓reduceIte, reduceCtorEq, not_false_eq_true, not_true_eq_false, false_implies, true_implies, forall_const, imp_self, implies_true, Nat.add_left_cancel_iff, Nat.left_eq_add, Nat.add_eq_left, Nat.zero_lt_succ, Nat.lt_add_left_iff_pos, one_ne_zero_n, zero_ne_one_n, zero_ne_one_i, one_ne_zero_i, xF_r w0, xPf_r w0, xO_r w0]
    exact loop 0 (Nat.zero_le _) _ (xAg_up (xAg_rf _ _) (by simp)) ⟨xup_s, xup_o w1 (by omega), xup_o w2 (by omega), by rw [fcp_0]; exact xup_o w3 (by omega)⟩
  have stay : rstp mo st (gl, sum) = st → K hp := by
    intro hst
    rw [hst] at hK
    exact hK hp B bs an (xAg_rf _ _) ⟨w0, w1, w2, w3⟩ hb
  refine xMC_V ok_Rooms_compare (by decide) (L0 := [.ref 97, .int sum, .retAddr 0]) rfl rfl ?_
  cases st with
  | none =>
    have e : an = 0 := hb
    simp only [s_Rooms_compare_0, s_Rooms_compare_1, s_Rooms_compare_4, s_Rooms_compare_7, s_Rooms_compare_8, s_Rooms_compare_11, s_Rooms_compare_14, s_Rooms_compare_15, s_Rooms_compare_16, s_Rooms_compare_19, s_Rooms_compare_22, s_Rooms_compare_25, s_Rooms_compare_26, s_Rooms_compare_27, s_Rooms_compare_30, s_Rooms_compare_33, s_Rooms_compare_35, s_Rooms_compare_36, s_Rooms_compare_39, s_Rooms_compare_40, s_Rooms_compare_41, s_Rooms_compare_44, s_Rooms_compare_45, s_Rooms_compare_46, s_Rooms_compare_47, s_Rooms_compare_48, s_Rooms_compare_51, s_Rooms_compare_54, s_Rooms_compare_55, s_Rooms_compare_58, s_Rooms_compare_59, s_Rooms_compare_60, s_Rooms_compare_63, s_Rooms_compare_64, s_Rooms_compare_67, s_Rooms_compare_70, s_Rooms_compare_73, s_Rooms_compare_76, xg_0, xg_s, xF_up, xPf_up, xO_up, xAi_up, xAl_up, xLn_up, xup_xup, ty_i, ty_b, ty_z, ty_l, ty_q, tb_b, tb_z, xup_2, xpI_s, xpL_s, xpV_s, xpQ_n, xpQ_r, yl_0, yl_1, yl_2, yl_3, yl_4, yl_5, yl_6, xcs_nil, xcs_i, xcs_a, xcs_l, xcs_n, xNl_z, xNl_s, xNl_i, xNl_a, xNl_n, xNl_d, cat_i, cat_a, cat_n, List.getElem?_cons_zero, List.getElem?_cons_succ, List.set_cons_zero, List.set_cons_succ, List.length_cons, List.length_nil, true_and, and_true, eq_self, ite_true, ite_false, if_true, if_false, or_true, true_or, or_false, false_or, Nat.reduceAdd, Nat.reduceLT, Nat.reduceLeDiff, Nat.reduceEqDiff, Nat.reduceSub, ↓reduceIte, reduceCtorEq, not_false_eq_true, not_true_eq_false, false_implies, true_implies, forall_const, imp_self, implies_true, Nat.add_left_cancel_iff, Nat.left_eq_add, Nat.add_eq_left, Nat.zero_lt_succ, Nat.lt_add_left_iff_pos, one_ne_zero_n, zero_ne_one_n, zero_ne_one_i, one_ne_zero_i, xF_r w0, xPf_r w0, xO_r w0, e]
    exact put rfl
  | some qq =>
    obtain ⟨e1, e2, e3⟩ := hb
    have z1 : ¬ an = 0 := by rw [e1]; decide
    subst e2
    by_cases zm : mo = 0
    · by_cases zs : qq.1 ≤ sum
      · have zs2 : ¬ sum < qq.1 := Int32.not_lt.mpr zs
        simp only [s_Rooms_compare_0, s_Rooms_compare_1, s_Rooms_compare_4, s_Rooms_compare_7, s_Rooms_compare_8, s_Rooms_compare_11, s_Rooms_compare_14, s_Rooms_compare_15, s_Rooms_compare_16, s_Rooms_compare_19, s_Rooms_compare_22, s_Rooms_compare_25, s_Rooms_compare_26, s_Rooms_compare_27, s_Rooms_compare_30, s_Rooms_compare_33, s_Rooms_compare_35, s_Rooms_compare_36, s_Rooms_compare_39, s_Rooms_compare_40, s_Rooms_compare_41, s_Rooms_compare_44, s_Rooms_compare_45, s_Rooms_compare_46, s_Rooms_compare_47, s_Rooms_compare_48, s_Rooms_compare_51, s_Rooms_compare_54, s_Rooms_compare_55, s_Rooms_compare_58, s_Rooms_compare_59, s_Rooms_compare_60, s_Rooms_compare_63, s_Rooms_compare_64, s_Rooms_compare_67, s_Rooms_compare_70, s_Rooms_compare_73, s_Rooms_compare_76, xg_0, xg_s, xF_up, xPf_up, xO_up, xAi_up, xAl_up, xLn_up, xup_xup, ty_i, ty_b, ty_z, ty_l, ty_q, tb_b, tb_z, xup_2, xpI_s, xpL_s, xpV_s, xpQ_n, xpQ_r, yl_0, yl_1, yl_2, yl_3, yl_4, yl_5, yl_6, xcs_nil, xcs_i, xcs_a, xcs_l, xcs_n, xNl_z, xNl_s, xNl_i, xNl_a, xNl_n, xNl_d, cat_i, cat_a, cat_n, List.getElem?_cons_zero, List.getElem?_cons_succ, List.set_cons_zero, List.set_cons_succ, List.length_cons, List.length_nil, true_and, and_true, eq_self, ite_true, ite_false, if_true, if_false, or_true, true_or, or_false, false_or, Nat.reduceAdd, Nat.reduceLT, Nat.reduceLeDiff, Nat.reduceEqDiff, Nat.reduceSub, ↓reduceIte, reduceCtorEq, not_false_eq_true, not_true_eq_false, false_implies, true_implies, forall_const, imp_self, implies_true, Nat.add_left_cancel_iff, Nat.left_eq_add, Nat.add_eq_left, Nat.zero_lt_succ, Nat.lt_add_left_iff_pos, one_ne_zero_n, zero_ne_one_n, zero_ne_one_i, one_ne_zero_i, xF_r w0, xPf_r w0, xO_r w0, z1, zm, zs2]
        refine stay ?_
        show (if (if mo = 0 then qq.1 ≤ sum else sum ≤ qq.1) then some qq else some (sum, gl)) = some qq
        rw [if_pos (by rw [if_pos zm]; exact zs)]
      · have zs2 : sum < qq.1 := Int32.not_le.mp zs
        simp only [s_Rooms_compare_0, s_Rooms_compare_1, s_Rooms_compare_4, s_Rooms_compare_7, s_Rooms_compare_8, s_Rooms_compare_11, s_Rooms_compare_14, s_Rooms_compare_15, s_Rooms_compare_16, s_Rooms_compare_19, s_Rooms_compare_22, s_Rooms_compare_25, s_Rooms_compare_26, s_Rooms_compare_27, s_Rooms_compare_30, s_Rooms_compare_33, s_Rooms_compare_35, s_Rooms_compare_36, s_Rooms_compare_39, s_Rooms_compare_40, s_Rooms_compare_41, s_Rooms_compare_44, s_Rooms_compare_45, s_Rooms_compare_46, s_Rooms_compare_47, s_Rooms_compare_48, s_Rooms_compare_51, s_Rooms_compare_54, s_Rooms_compare_55, s_Rooms_compare_58, s_Rooms_compare_59, s_Rooms_compare_60, s_Rooms_compare_63, s_Rooms_compare_64, s_Rooms_compare_67, s_Rooms_compare_70, s_Rooms_compare_73, s_Rooms_compare_76, xg_0, xg_s, xF_up, xPf_up, xO_up, xAi_up, xAl_up, xLn_up, xup_xup, ty_i, ty_b, ty_z, ty_l, ty_q, tb_b, tb_z, xup_2, xpI_s, xpL_s, xpV_s, xpQ_n, xpQ_r, yl_0, yl_1, yl_2, yl_3, yl_4, yl_5, yl_6, xcs_nil, xcs_i, xcs_a, xcs_l, xcs_n, xNl_z, xNl_s, xNl_i, xNl_a, xNl_n, xNl_d, cat_i, cat_a, cat_n, List.getElem?_cons_zero, List.getElem?_cons_succ, List.set_cons_zero, List.set_cons_succ, List.length_cons, List.length_nil, true_and, and_true, eq_self, ite_true, ite_false, if_true, if_false, or_true, true_or, or_false, false_or, Nat.reduceAdd, Nat.reduceLT, Nat.reduceLeDiff, Nat.reduceEqDiff, Nat.reduceSub, ↓reduceIte, reduceCtorEq, not_false_eq_true, not_true_eq_false, false_implies, true_implies, forall_const, imp_self, implies_true, Nat.add_left_cancel_iff, Nat.left_eq_add, Nat.add_eq_left, Nat.zero_lt_succ, Nat.lt_add_left_iff_pos, one_ne_zero_n, zero_ne_one_n, zero_ne_one_i, one_ne_zero_i, xF_r w0, xPf_r w0, xO_r w0, z1, zm, zs2]
        refine put ?_
        show (if (if mo = 0 then qq.1 ≤ sum else sum ≤ qq.1) then some qq else some (sum, gl)) = _
        rw [if_neg (by rw [if_pos zm]; exact zs)]
    · by_cases zs : sum ≤ qq.1
      · have zs2 : ¬ qq.1 < sum := Int32.not_lt.mpr zs
        simp only [s_Rooms_compare_0, s_Rooms_compare_1, s_Rooms_compare_4, s_Rooms_compare_7, s_Rooms_compare_8, s_Rooms_compare_11, s_Rooms_compare_14, s_Rooms_compare_15, s_Rooms_compare_16, s_Rooms_compare_19, s_Rooms_compare_22, s_Rooms_compare_25, s_Rooms_compare_26, s_Rooms_compare_27, s_Rooms_compare_30, s_Rooms_compare_33, s_Rooms_compare_35, s_Rooms_compare_36, s_Rooms_compare_39, s_Rooms_compare_40, s_Rooms_compare_41, s_Rooms_compare_44, s_Rooms_compare_45, s_Rooms_compare_46, s_Rooms_compare_47, s_Rooms_compare_48, s_Rooms_compare_51, s_Rooms_compare_54, s_Rooms_compare_55, s_Rooms_compare_58, s_Rooms_compare_59, s_Rooms_compare_60, s_Rooms_compare_63, s_Rooms_compare_64, s_Rooms_compare_67, s_Rooms_compare_70, s_Rooms_compare_73, s_Rooms_compare_76, xg_0, xg_s, xF_up, xPf_up, xO_up, xAi_up, xAl_up, xLn_up, xup_xup, ty_i, ty_b, ty_z, ty_l, ty_q, tb_b, tb_z, xup_2, xpI_s, xpL_s, xpV_s, xpQ_n, xpQ_r, yl_0, yl_1, yl_2, yl_3, yl_4, yl_5, yl_6, xcs_nil, xcs_i, xcs_a, xcs_l, xcs_n, xNl_z, xNl_s, xNl_i, xNl_a, xNl_n, xNl_d, cat_i, cat_a, cat_n, List.getElem?_cons_zero, List.getElem?_cons_succ, List.set_cons_zero, List.set_cons_succ, List.length_cons, List.length_nil, true_and, and_true, eq_self, ite_true, ite_false, if_true, if_false, or_true, true_or, or_false, false_or, Nat.reduceAdd, Nat.reduceLT, Nat.reduceLeDiff, Nat.reduceEqDiff, Nat.reduceSub, ↓reduceIte, reduceCtorEq, not_false_eq_true, not_true_eq_false, false_implies, true_implies, forall_const, imp_self, implies_true, Nat.add_left_cancel_iff, Nat.left_eq_add, Nat.add_eq_left, Nat.zero_lt_succ, Nat.lt_add_left_iff_pos, one_ne_zero_n, zero_ne_one_n, zero_ne_one_i, one_ne_zero_i, xF_r w0, xPf_r w0, xO_r w0, z1, zm, zs, zs2]
        refine stay ?_
        show (if (if mo = 0 then qq.1 ≤ sum else sum ≤ qq.1) then some qq else some (sum, gl)) = some qq
        rw [if_pos (by rw [if_neg zm]; exact zs)]
      · have zs2 : qq.1 < sum := Int32.not_le.mp zs
        simp only [s_Rooms_compare_0, s_Rooms_compare_1, s_Rooms_compare_4, s_Rooms_compare_7, s_Rooms_compare_8, s_Rooms_compare_11, s_Rooms_compare_14, s_Rooms_compare_15, s_Rooms_compare_16, s_Rooms_compare_19, s_Rooms_compare_22, s_Rooms_compare_25, s_Rooms_compare_26, s_Rooms_compare_27, s_Rooms_compare_30, s_Rooms_compare_33, s_Rooms_compare_35, s_Rooms_compare_36, s_Rooms_compare_39, s_Rooms_compare_40, s_Rooms_compare_41, s_Rooms_compare_44, s_Rooms_compare_45, s_Rooms_compare_46, s_Rooms_compare_47, s_Rooms_compare_48, s_Rooms_compare_51, s_Rooms_compare_54, s_Rooms_compare_55, s_Rooms_compare_58, s_Rooms_compare_59, s_Rooms_compare_60, s_Rooms_compare_63, s_Rooms_compare_64, s_Rooms_compare_67, s_Rooms_compare_70, s_Rooms_compare_73, s_Rooms_compare_76, xg_0, xg_s, xF_up, xPf_up, xO_up, xAi_up, xAl_up, xLn_up, xup_xup, ty_i, ty_b, ty_z, ty_l, ty_q, tb_b, tb_z, xup_2, xpI_s, xpL_s, xpV_s, xpQ_n, xpQ_r, yl_0, yl_1, yl_2, yl_3, yl_4, yl_5, yl_6, xcs_nil, xcs_i, xcs_a, xcs_l, xcs_n, xNl_z, xNl_s, xNl_i, xNl_a, xNl_n, xNl_d, cat_i, cat_a, cat_n, List.getElem?_cons_zero, List.getElem?_cons_succ, List.set_cons_zero, List.set_cons_succ, List.length_cons, List.length_nil, true_and, and_true, eq_self, ite_true, ite_false, if_true, if_false, or_true, true_or, or_false, false_or, Nat.reduceAdd, Nat.reduceLT, Nat.reduceLeDiff, Nat.reduceEqDiff, Nat.reduceSub, ↓reduceIte, reduceCtorEq, not_false_eq_true, not_true_eq_false, false_implies, true_implies, forall_const, imp_self, implies_true, Nat.add_left_cancel_iff, Nat.left_eq_add, Nat.add_eq_left, Nat.zero_lt_succ, Nat.lt_add_left_iff_pos, one_ne_zero_n, zero_ne_one_n, zero_ne_one_i, one_ne_zero_i, xF_r w0, xPf_r w0, xO_r w0, z1, zm, zs, zs2]
        refine put ?_
        show (if (if mo = 0 then qq.1 ≤ sum else sum ≤ qq.1) then some qq else some (sum, gl)) = _
        rw [if_neg (by rw [if_neg zm]; exact zs)]
end RM
