/-! ===== the model: its object, what is asked of numbers ===== -/
abbrev MO := Int32 × Int32 × Int32 × Int32 × Int32 × Int32 × Value × Int32 × Int32 × Int32 × Int32 × Nat × Nat × Int32 × Int32 × Int32 × Int32 × Int32 × Int32 × Int32 × Int32
abbrev MO.pe (o : MO) : Int32 := o.1
abbrev MO.pl (o : MO) : Int32 := o.2.1
abbrev MO.sm (o : MO) : Int32 := o.2.2.1
abbrev MO.ty (o : MO) : Int32 := o.2.2.2.1
abbrev MO.rm (o : MO) : Int32 := o.2.2.2.2.1
abbrev MO.th (o : MO) : Int32 := o.2.2.2.2.2.1
abbrev MO.rd (o : MO) : Value := o.2.2.2.2.2.2.1
abbrev MO.le (o : MO) : Int32 := o.2.2.2.2.2.2.2.1
abbrev MO.tp (o : MO) : Int32 := o.2.2.2.2.2.2.2.2.1
abbrev MO.at (o : MO) : Int32 := o.2.2.2.2.2.2.2.2.2.1
abbrev MO.wr (o : MO) : Int32 := o.2.2.2.2.2.2.2.2.2.2.1
abbrev MO.ru (o : MO) : Nat := o.2.2.2.2.2.2.2.2.2.2.2.1
abbrev MO.oru (o : MO) : Nat := o.2.2.2.2.2.2.2.2.2.2.2.2.1
abbrev MO.rs (o : MO) : Int32 := o.2.2.2.2.2.2.2.2.2.2.2.2.2.1
abbrev MO.ia (o : MO) : Int32 := o.2.2.2.2.2.2.2.2.2.2.2.2.2.2.1
abbrev MO.um (o : MO) : Int32 := o.2.2.2.2.2.2.2.2.2.2.2.2.2.2.2.1
abbrev MO.wm (o : MO) : Int32 := o.2.2.2.2.2.2.2.2.2.2.2.2.2.2.2.2.1
abbrev MO.sam (o : MO) : Int32 := o.2.2.2.2.2.2.2.2.2.2.2.2.2.2.2.2.2.1
abbrev MO.hm (o : MO) : Int32 := o.2.2.2.2.2.2.2.2.2.2.2.2.2.2.2.2.2.2.1
abbrev MO.dr (o : MO) : Int32 := o.2.2.2.2.2.2.2.2.2.2.2.2.2.2.2.2.2.2.2.1
abbrev MO.cm (o : MO) : Int32 := o.2.2.2.2.2.2.2.2.2.2.2.2.2.2.2.2.2.2.2.2
abbrev MO.wPe (o : MO) (z : Int32) : MO := (z, o.pl, o.sm, o.ty, o.rm, o.th, o.rd, o.le, o.tp, o.at, o.wr, o.ru, o.oru, o.rs, o.ia, o.um, o.wm, o.sam, o.hm, o.dr, o.cm)
abbrev MO.wPl (o : MO) (z : Int32) : MO := (o.pe, z, o.sm, o.ty, o.rm, o.th, o.rd, o.le, o.tp, o.at, o.wr, o.ru, o.oru, o.rs, o.ia, o.um, o.wm, o.sam, o.hm, o.dr, o.cm)
abbrev MO.wSm (o : MO) (z : Int32) : MO := (o.pe, o.pl, z, o.ty, o.rm, o.th, o.rd, o.le, o.tp, o.at, o.wr, o.ru, o.oru, o.rs, o.ia, o.um, o.wm, o.sam, o.hm, o.dr, o.cm)
abbrev MO.wTy (o : MO) (z : Int32) : MO := (o.pe, o.pl, o.sm, z, o.rm, o.th, o.rd, o.le, o.tp, o.at, o.wr, o.ru, o.oru, o.rs, o.ia, o.um, o.wm, o.sam, o.hm, o.dr, o.cm)
abbrev MO.wRm (o : MO) (z : Int32) : MO := (o.pe, o.pl, o.sm, o.ty, z, o.th, o.rd, o.le, o.tp, o.at, o.wr, o.ru, o.oru, o.rs, o.ia, o.um, o.wm, o.sam, o.hm, o.dr, o.cm)
abbrev MO.wTh (o : MO) (z : Int32) : MO := (o.pe, o.pl, o.sm, o.ty, o.rm, z, o.rd, o.le, o.tp, o.at, o.wr, o.ru, o.oru, o.rs, o.ia, o.um, o.wm, o.sam, o.hm, o.dr, o.cm)
abbrev MO.wRd (o : MO) (z : Value) : MO := (o.pe, o.pl, o.sm, o.ty, o.rm, o.th, z, o.le, o.tp, o.at, o.wr, o.ru, o.oru, o.rs, o.ia, o.um, o.wm, o.sam, o.hm, o.dr, o.cm)
abbrev MO.wLe (o : MO) (z : Int32) : MO := (o.pe, o.pl, o.sm, o.ty, o.rm, o.th, o.rd, z, o.tp, o.at, o.wr, o.ru, o.oru, o.rs, o.ia, o.um, o.wm, o.sam, o.hm, o.dr, o.cm)
abbrev MO.wTp (o : MO) (z : Int32) : MO := (o.pe, o.pl, o.sm, o.ty, o.rm, o.th, o.rd, o.le, z, o.at, o.wr, o.ru, o.oru, o.rs, o.ia, o.um, o.wm, o.sam, o.hm, o.dr, o.cm)
abbrev MO.wAt (o : MO) (z : Int32) : MO := (o.pe, o.pl, o.sm, o.ty, o.rm, o.th, o.rd, o.le, o.tp, z, o.wr, o.ru, o.oru, o.rs, o.ia, o.um, o.wm, o.sam, o.hm, o.dr, o.cm)
abbrev MO.wWr (o : MO) (z : Int32) : MO := (o.pe, o.pl, o.sm, o.ty, o.rm, o.th, o.rd, o.le, o.tp, o.at, z, o.ru, o.oru, o.rs, o.ia, o.um, o.wm, o.sam, o.hm, o.dr, o.cm)
abbrev MO.wRu (o : MO) (z : Nat) : MO := (o.pe, o.pl, o.sm, o.ty, o.rm, o.th, o.rd, o.le, o.tp, o.at, o.wr, z, o.oru, o.rs, o.ia, o.um, o.wm, o.sam, o.hm, o.dr, o.cm)
abbrev MO.wOru (o : MO) (z : Nat) : MO := (o.pe, o.pl, o.sm, o.ty, o.rm, o.th, o.rd, o.le, o.tp, o.at, o.wr, o.ru, z, o.rs, o.ia, o.um, o.wm, o.sam, o.hm, o.dr, o.cm)
abbrev MO.wRs (o : MO) (z : Int32) : MO := (o.pe, o.pl, o.sm, o.ty, o.rm, o.th, o.rd, o.le, o.tp, o.at, o.wr, o.ru, o.oru, z, o.ia, o.um, o.wm, o.sam, o.hm, o.dr, o.cm)
abbrev MO.wIa (o : MO) (z : Int32) : MO := (o.pe, o.pl, o.sm, o.ty, o.rm, o.th, o.rd, o.le, o.tp, o.at, o.wr, o.ru, o.oru, o.rs, z, o.um, o.wm, o.sam, o.hm, o.dr, o.cm)
abbrev MO.wUm (o : MO) (z : Int32) : MO := (o.pe, o.pl, o.sm, o.ty, o.rm, o.th, o.rd, o.le, o.tp, o.at, o.wr, o.ru, o.oru, o.rs, o.ia, z, o.wm, o.sam, o.hm, o.dr, o.cm)
abbrev MO.wWm (o : MO) (z : Int32) : MO := (o.pe, o.pl, o.sm, o.ty, o.rm, o.th, o.rd, o.le, o.tp, o.at, o.wr, o.ru, o.oru, o.rs, o.ia, o.um, z, o.sam, o.hm, o.dr, o.cm)
abbrev MO.wSam (o : MO) (z : Int32) : MO := (o.pe, o.pl, o.sm, o.ty, o.rm, o.th, o.rd, o.le, o.tp, o.at, o.wr, o.ru, o.oru, o.rs, o.ia, o.um, o.wm, z, o.hm, o.dr, o.cm)
abbrev MO.wHm (o : MO) (z : Int32) : MO := (o.pe, o.pl, o.sm, o.ty, o.rm, o.th, o.rd, o.le, o.tp, o.at, o.wr, o.ru, o.oru, o.rs, o.ia, o.um, o.wm, o.sam, z, o.dr, o.cm)
abbrev MO.wDr (o : MO) (z : Int32) : MO := (o.pe, o.pl, o.sm, o.ty, o.rm, o.th, o.rd, o.le, o.tp, o.at, o.wr, o.ru, o.oru, o.rs, o.ia, o.um, o.wm, o.sam, o.hm, z, o.cm)
abbrev MO.wCm (o : MO) (z : Int32) : MO := (o.pe, o.pl, o.sm, o.ty, o.rm, o.th, o.rd, o.le, o.tp, o.at, o.wr, o.ru, o.oru, o.rs, o.ia, o.um, o.wm, o.sam, o.hm, o.dr, z)
def isOb (hp : xHp) (o : MO) : Prop := hp.1 103 = .inr (12, .ref 104 :: .int o.pe :: .int o.pl :: .ref 105 :: .ref 106 :: .int o.sm :: .ref 107 :: .int o.ty :: .ref 108 :: .int o.rm :: .int o.th :: o.rd :: .int o.le :: .int o.tp :: .int o.at :: .int o.wr :: .ref 109 :: .ref 110 :: .ref o.ru :: .ref o.oru :: .int o.rs :: .int o.ia :: .ref 113 :: .ref 114 :: .int o.um :: .ref 115 :: .ref 116 :: .ref 117 :: .ref 118 :: .ref 119 :: .ref 120 :: .ref 121 :: .int o.wm :: .ref 122 :: .ref 123 :: .ref 124 :: .ref 125 :: .int o.sam :: .ref 126 :: .ref 127 :: .int o.hm :: .ref 128 :: .int o.dr :: .int o.cm :: .ref 129 :: .ref 130 :: .ref 131 :: [])
theorem isOb_ag {hp hq : xHp} {X : List Nat} {o : MO} (ha : xAg hp hq X) (hx : 103 ∉ X) (h : isOb hp o) : isOb hq o := xAg_at ha hx h
def mIn (v x y : Int32) : Int32 := if v < x then 0 else if y < v then 0 else 1
def mHas (x k : Int32) : Int32 := if (x >>> (k &&& 31)) &&& 1 = 1 then 1 else 0
theorem mIn_n {q : Int32} {n : Nat} (hn : n ≤ 80) : mIn q 0 (nI n - 1) = yhas q (nI n) := by
  unfold mIn yhas
  by_cases z1 : q < 0
  · rw [if_pos z1, if_pos z1]
  · rw [if_neg z1, if_neg z1]
    obtain ⟨j, hj, rfl⟩ := nI_of z1
    cases n with
    | zero =>
      have e1 : nI 0 - 1 < nI j := Int32.lt_of_lt_of_le (show nI 0 - 1 < 0 by decide) (Int32.not_lt.mp z1)
      have e2 : nI 0 ≤ nI j := Int32.not_lt.mp z1
      rw [if_pos e1, if_pos e2]
    | succ n =>
      rw [nI_s1]
      by_cases e : j < n + 1
      · rw [if_neg (Int32.not_lt.mpr (nI_le (show j ≤ n by omega) (by omega))), if_neg (nI_ge e (by omega))]
      · rw [if_pos (Int32.not_le.mp (nI_ge (show n < j by omega) (by omega))), if_pos (nI_le (by omega) (by omega))]
theorem vin {j n : Nat} (h : j < n) (hn : n < 2 ^ 31) : vp_in (nI j) n := yin hn (nI_pos (by omega)) (nI_ge h hn)
theorem gb_all : ∀ k, k < 256 → ((Int8.ofNat k).toInt32 &&& 255 = nI k) ∧ (k < 128 → (Int8.ofNat k).toInt32 = nI k) := by decide +kernel
def gbt (x : Int32) : Prop := ∃ k, k < 256 ∧ x = (Int8.ofNat k).toInt32
theorem gbt_of (x : Int32) : gbt x.toInt8.toInt32 := by
  refine ⟨x.toInt8.toUInt8.toNat, UInt8.toNat_lt _, ?_⟩
  congr 1
  show _ = (⟨UInt8.ofNat _⟩ : Int8)
  rw [UInt8.ofNat_toNat]
theorem gbt_lo {x : Int32} {k : Nat} (h : gbt x) (hk : k < 128) (e : x &&& 255 = nI k) : x = nI k := by
  obtain ⟨j, hj, rfl⟩ := h
  rw [(gb_all j hj).1] at e
  have e2 := congrArg Int32.toNatClampNeg e
  rw [nI_clamp (by omega), nI_clamp (by omega)] at e2
  subst e2
  exact (gb_all j hj).2 hk
theorem gbt_and {x : Int32} (h : gbt x) : x.toInt8.toInt32 = x := by
  obtain ⟨j, hj, rfl⟩ := h
  rw [Int8.toInt8_toInt32]
theorem gbt_255 {x : Int32} (h : gbt x) : ∃ k, k < 256 ∧ x &&& 255 = nI k := by
  obtain ⟨j, hj, rfl⟩ := h
  exact ⟨j, hj, (gb_all j hj).1⟩
theorem yhas_01 (x n : Int32) : yhas x n = 0 ∨ yhas x n = 1 := by
  unfold yhas
  split
  · exact Or.inl rfl
  · split
    · exact Or.inl rfl
    · exact Or.inr rfl
section MO1
variable {l : Launch} {d b lo gz f : Nat} {hp : xHp} {o : MO} {n one other v g x y w i k : Int32}
theorem c_Mo_in {K : Int32 → xHp → Prop} (hK : K (mIn v x y) hp) : xMi l d b lo gz m_Mo_in [.int v, .int x, .int y] hp K := by
  unfold mIn at hK
  refine xMC_V ok_Mo_in (by decide) (L0 := [.int v, .int x, .int y]) rfl rfl ?_
  by_cases z1 : v < x
  · rw [if_pos z1] at hK
    try simp only [s_Mo_in_0, s_Mo_in_1, s_Mo_in_2, s_Mo_in_5, s_Mo_in_6, s_Mo_in_7, s_Mo_in_10, s_Mo_in_11, s_Mo_in_14, s_Mo_in_15, xg_0, xg_s, xF_up, xPf_up, xO_up, xAi_up, xAl_up, xLn_up, xup_xup, ty_i, ty_b, ty_z, ty_l, ty_q, tb_b, tb_z, xup_2, xpI_s, xpL_s, xpV_s, xpQ_n, xpQ_r, yl_0, yl_1, yl_2, yl_3, yl_4, yl_5, yl_6, xcs_nil, xcs_i, xcs_a, xcs_l, xcs_n, xNl_z, xNl_s, xNl_i, xNl_a, xNl_n, xNl_d, cat_i, cat_a, cat_n, List.getElem?_cons_zero, List.getElem?_cons_succ, List.set_cons_zero, List.set_cons_succ, List.length_cons, List.length_nil, true_and, and_true, eq_self, ite_true, ite_false, if_true, if_false, or_true, true_or, or_false, false_or, Nat.reduceAdd, Nat.reduceLT, Nat.reduceLeDiff, Nat.reduceEqDiff, Nat.reduceSub, ↓reduceIte, reduceCtorEq, not_false_eq_true, not_true_eq_false, false_implies, true_implies, forall_const, imp_self, implies_true, Nat.add_left_cancel_iff, Nat.left_eq_add, Nat.add_eq_left, Nat.zero_lt_succ, Nat.lt_add_left_iff_pos, one_ne_zero_n, zero_ne_one_n, zero_ne_one_i, one_ne_zero_i, z1]
    exact hK
  · rw [if_neg z1] at hK
    by_cases z2 : y < v
    · rw [if_pos z2] at hK
      try simp only [s_Mo_in_0, s_Mo_in_1, s_Mo_in_2, s_Mo_in_5, s_Mo_in_6, s_Mo_in_7, s_Mo_in_10, s_Mo_in_11, s_Mo_in_14, s_Mo_in_15, xg_0, xg_s, xF_up, xPf_up, xO_up, xAi_up, xAl_up, xLn_up, xup_xup, ty_i, ty_b, ty_z, ty_l, ty_q, tb_b, tb_z, xup_2, xpI_s, xpL_s, xpV_s, xpQ_n, xpQ_r, yl_0, yl_1, yl_2, yl_3, yl_4, yl_5, yl_6, xcs_nil, xcs_i, xcs_a, xcs_l, xcs_n, xNl_z, xNl_s, xNl_i, xNl_a, xNl_n, xNl_d, cat_i, cat_a, cat_n, List.getElem?_cons_zero, List.getElem?_cons_succ, List.set_cons_zero, List.set_cons_succ, List.length_cons, List.length_nil, true_and, and_true, eq_self, ite_true, ite_false, if_true, if_false, or_true, true_or, or_false, false_or, Nat.reduceAdd, Nat.reduceLT, Nat.reduceLeDiff, Nat.reduceEqDiff, Nat.reduceSub, ↓reduceIte, reduceCtorEq, not_false_eq_true, not_true_eq_false, false_implies, true_implies, forall_const, imp_self, implies_true, Nat.add_left_cancel_iff, Nat.left_eq_add, Nat.add_eq_left, Nat.zero_lt_succ, Nat.lt_add_left_iff_pos, one_ne_zero_n, zero_ne_one_n, zero_ne_one_i, one_ne_zero_i, z1, z2]
      exact hK
    · rw [if_neg z2] at hK
      try simp only [s_Mo_in_0, s_Mo_in_1, s_Mo_in_2, s_Mo_in_5, s_Mo_in_6, s_Mo_in_7, s_Mo_in_10, s_Mo_in_11, s_Mo_in_14, s_Mo_in_15, xg_0, xg_s, xF_up, xPf_up, xO_up, xAi_up, xAl_up, xLn_up, xup_xup, ty_i, ty_b, ty_z, ty_l, ty_q, tb_b, tb_z, xup_2, xpI_s, xpL_s, xpV_s, xpQ_n, xpQ_r, yl_0, yl_1, yl_2, yl_3, yl_4, yl_5, yl_6, xcs_nil, xcs_i, xcs_a, xcs_l, xcs_n, xNl_z, xNl_s, xNl_i, xNl_a, xNl_n, xNl_d, cat_i, cat_a, cat_n, List.getElem?_cons_zero, List.getElem?_cons_succ, List.set_cons_zero, List.set_cons_succ, List.length_cons, List.length_nil, true_and, and_true, eq_self, ite_true, ite_false, if_true, if_false, or_true, true_or, or_false, false_or, Nat.reduceAdd, Nat.reduceLT, Nat.reduceLeDiff, Nat.reduceEqDiff, Nat.reduceSub, ↓reduceIte, reduceCtorEq, not_false_eq_true, not_true_eq_false, false_implies, true_implies, forall_const, imp_self, implies_true, Nat.add_left_cancel_iff, Nat.left_eq_add, Nat.add_eq_left, Nat.zero_lt_succ, Nat.lt_add_left_iff_pos, one_ne_zero_n, zero_ne_one_n, zero_ne_one_i, one_ne_zero_i, z1, z2]
      exact hK
theorem c_Mo_has {K : Int32 → xHp → Prop} (hK : K (mHas x k) hp) : xMi l d b lo gz m_Mo_has [.int x, .int k] hp K := by
  unfold mHas at hK
  refine xMC_V ok_Mo_has (by decide) (L0 := [.int x, .int k]) rfl rfl ?_
  by_cases z1 : (x >>> (k &&& 31)) &&& 1 = 1
  · rw [if_pos z1] at hK
    try simp only [s_Mo_has_0, s_Mo_has_1, s_Mo_has_2, s_Mo_has_3, s_Mo_has_4, s_Mo_has_5, s_Mo_has_6, s_Mo_has_9, s_Mo_has_10, s_Mo_has_13, s_Mo_has_14, xg_0, xg_s, xF_up, xPf_up, xO_up, xAi_up, xAl_up, xLn_up, xup_xup, ty_i, ty_b, ty_z, ty_l, ty_q, tb_b, tb_z, xup_2, xpI_s, xpL_s, xpV_s, xpQ_n, xpQ_r, yl_0, yl_1, yl_2, yl_3, yl_4, yl_5, yl_6, xcs_nil, xcs_i, xcs_a, xcs_l, xcs_n, xNl_z, xNl_s, xNl_i, xNl_a, xNl_n, xNl_d, cat_i, cat_a, cat_n, List.getElem?_cons_zero, List.getElem?_cons_succ, List.set_cons_zero, List.set_cons_succ, List.length_cons, List.length_nil, true_and, and_true, eq_self, ite_true, ite_false, if_true, if_false, or_true, true_or, or_false, false_or, Nat.reduceAdd, Nat.reduceLT, Nat.reduceLeDiff, Nat.reduceEqDiff, Nat.reduceSub, ↓reduceIte, reduceCtorEq, not_false_eq_true, not_true_eq_false, false_implies, true_implies, forall_const, imp_self, implies_true, Nat.add_left_cancel_iff, Nat.left_eq_add, Nat.add_eq_left, Nat.zero_lt_succ, Nat.lt_add_left_iff_pos, one_ne_zero_n, zero_ne_one_n, zero_ne_one_i, one_ne_zero_i, z1]
    exact hK
  · rw [if_neg z1] at hK
    try simp only [s_Mo_has_0, s_Mo_has_1, s_Mo_has_2, s_Mo_has_3, s_Mo_has_4, s_Mo_has_5, s_Mo_has_6, s_Mo_has_9, s_Mo_has_10, s_Mo_has_13, s_Mo_has_14, xg_0, xg_s, xF_up, xPf_up, xO_up, xAi_up, xAl_up, xLn_up, xup_xup, ty_i, ty_b, ty_z, ty_l, ty_q, tb_b, tb_z, xup_2, xpI_s, xpL_s, xpV_s, xpQ_n, xpQ_r, yl_0, yl_1, yl_2, yl_3, yl_4, yl_5, yl_6, xcs_nil, xcs_i, xcs_a, xcs_l, xcs_n, xNl_z, xNl_s, xNl_i, xNl_a, xNl_n, xNl_d, cat_i, cat_a, cat_n, List.getElem?_cons_zero, List.getElem?_cons_succ, List.set_cons_zero, List.set_cons_succ, List.length_cons, List.length_nil, true_and, and_true, eq_self, ite_true, ite_false, if_true, if_false, or_true, true_or, or_false, false_or, Nat.reduceAdd, Nat.reduceLT, Nat.reduceLeDiff, Nat.reduceEqDiff, Nat.reduceSub, ↓reduceIte, reduceCtorEq, not_false_eq_true, not_true_eq_false, false_implies, true_implies, forall_const, imp_self, implies_true, Nat.add_left_cancel_iff, Nat.left_eq_add, Nat.add_eq_left, Nat.zero_lt_succ, Nat.lt_add_left_iff_pos, one_ne_zero_n, zero_ne_one_n, zero_ne_one_i, one_ne_zero_i, z1]
    exact hK
theorem c_Mo_thrown {K : Int32 → xHp → Prop} (h : isOb hp o) (hK : K o.th hp) : xMi l d b lo gz m_Mo_thrown [.ref 103] hp K := by
  have o1 : hp.1 103 = _ := h
  refine xMC_V ok_Mo_thrown (by decide) (L0 := [.ref 103]) rfl rfl ?_
  try simp only [s_Mo_thrown_0, s_Mo_thrown_1, s_Mo_thrown_4, xg_0, xg_s, xF_up, xPf_up, xO_up, xAi_up, xAl_up, xLn_up, xup_xup, ty_i, ty_b, ty_z, ty_l, ty_q, tb_b, tb_z, xup_2, xpI_s, xpL_s, xpV_s, xpQ_n, xpQ_r, yl_0, yl_1, yl_2, yl_3, yl_4, yl_5, yl_6, xcs_nil, xcs_i, xcs_a, xcs_l, xcs_n, xNl_z, xNl_s, xNl_i, xNl_a, xNl_n, xNl_d, cat_i, cat_a, cat_n, List.getElem?_cons_zero, List.getElem?_cons_succ, List.set_cons_zero, List.set_cons_succ, List.length_cons, List.length_nil, true_and, and_true, eq_self, ite_true, ite_false, if_true, if_false, or_true, true_or, or_false, false_or, Nat.reduceAdd, Nat.reduceLT, Nat.reduceLeDiff, Nat.reduceEqDiff, Nat.reduceSub, ↓reduceIte, reduceCtorEq, not_false_eq_true, not_true_eq_false, false_implies, true_implies, forall_const, imp_self, implies_true, Nat.add_left_cancel_iff, Nat.left_eq_add, Nat.add_eq_left, Nat.zero_lt_succ, Nat.lt_add_left_iff_pos, one_ne_zero_n, zero_ne_one_n, zero_ne_one_i, one_ne_zero_i, xF_r o1, xPf_r o1, xO_r o1]
  exact hK
theorem c_Mo_lost {K : Int32 → xHp → Prop} (h : isOb hp o) (hK : ∀ hq, xAg hp hq [103] → isOb hq (o.wTh 1) → K 0 hq) : xMi l d b lo gz m_Mo_lost [.ref 103] hp K := by
  have o1 : hp.1 103 = _ := h
  refine xMC_V ok_Mo_lost (by decide) (L0 := [.ref 103]) rfl rfl ?_
  try simp only [s_Mo_lost_0, s_Mo_lost_1, s_Mo_lost_2, s_Mo_lost_5, s_Mo_lost_6, xg_0, xg_s, xF_up, xPf_up, xO_up, xAi_up, xAl_up, xLn_up, xup_xup, ty_i, ty_b, ty_z, ty_l, ty_q, tb_b, tb_z, xup_2, xpI_s, xpL_s, xpV_s, xpQ_n, xpQ_r, yl_0, yl_1, yl_2, yl_3, yl_4, yl_5, yl_6, xcs_nil, xcs_i, xcs_a, xcs_l, xcs_n, xNl_z, xNl_s, xNl_i, xNl_a, xNl_n, xNl_d, cat_i, cat_a, cat_n, List.getElem?_cons_zero, List.getElem?_cons_succ, List.set_cons_zero, List.set_cons_succ, List.length_cons, List.length_nil, true_and, and_true, eq_self, ite_true, ite_false, if_true, if_false, or_true, true_or, or_false, false_or, Nat.reduceAdd, Nat.reduceLT, Nat.reduceLeDiff, Nat.reduceEqDiff, Nat.reduceSub, ↓reduceIte, reduceCtorEq, not_false_eq_true, not_true_eq_false, false_implies, true_implies, forall_const, imp_self, implies_true, Nat.add_left_cancel_iff, Nat.left_eq_add, Nat.add_eq_left, Nat.zero_lt_succ, Nat.lt_add_left_iff_pos, one_ne_zero_n, zero_ne_one_n, zero_ne_one_i, one_ne_zero_i, xF_r o1, xPf_r o1, xO_r o1]
  exact hK _ (xAg_up (xAg_rf _ _) (by simp)) xup_s
theorem c_Mo_tell {N : Nat} {R : Nat → Int64} {u : Int64} {K : xHp → Prop} (h : isOb hp o) (hr : hp.1 108 = .inl (.long, 16, .inr (.inl R))) (hn : o.rm = nI N) (hN : N < 16) (hK : ∀ hq, xAg hp hq [103, 108] → isOb hq (o.wRm (nI (N + 1))) → hq.1 108 = .inl (.long, 16, .inr (.inl (vp_updL R N u))) → K hq) : xMv l d b lo gz m_Mo_tell [.ref 103, .long u] hp K := by
  have o1 : hp.1 103 = _ := h
  have e1 := nI_clamp (show N < 2 ^ 31 by omega)
  have e2 := vin (show N < 16 by omega) (by decide)
  rw [hn] at o1
  refine xMC_V ok_Mo_tell (by decide) (L0 := [.ref 103, .long u, .retAddr 0]) rfl rfl ?_
  try simp only [s_Mo_tell_0, s_Mo_tell_1, s_Mo_tell_4, s_Mo_tell_5, s_Mo_tell_8, s_Mo_tell_9, s_Mo_tell_10, s_Mo_tell_11, s_Mo_tell_12, s_Mo_tell_15, s_Mo_tell_16, s_Mo_tell_17, s_Mo_tell_20, xg_0, xg_s, xF_up, xPf_up, xO_up, xAi_up, xAl_up, xLn_up, xup_xup, ty_i, ty_b, ty_z, ty_l, ty_q, tb_b, tb_z, xup_2, xpI_s, xpL_s, xpV_s, xpQ_n, xpQ_r, yl_0, yl_1, yl_2, yl_3, yl_4, yl_5, yl_6, xcs_nil, xcs_i, xcs_a, xcs_l, xcs_n, xNl_z, xNl_s, xNl_i, xNl_a, xNl_n, xNl_d, cat_i, cat_a, cat_n, List.getElem?_cons_zero, List.getElem?_cons_succ, List.set_cons_zero, List.set_cons_succ, List.length_cons, List.length_nil, true_and, and_true, eq_self, ite_true, ite_false, if_true, if_false, or_true, true_or, or_false, false_or, Nat.reduceAdd, Nat.reduceLT, Nat.reduceLeDiff, Nat.reduceEqDiff, Nat.reduceSub, ↓reduceIte, reduceCtorEq, not_false_eq_true, not_true_eq_false, false_implies, true_implies, forall_const, imp_self, implies_true, Nat.add_left_cancel_iff, Nat.left_eq_add, Nat.add_eq_left, Nat.zero_lt_succ, Nat.lt_add_left_iff_pos, one_ne_zero_n, zero_ne_one_n, zero_ne_one_i, one_ne_zero_i, xF_r o1, xPf_r o1, xO_r o1, xAl_r hr, xLn_r hr, e1, e2, nI_1]
  refine hK _ (xAg_up (xAg_up (xAg_rf _ _) (by simp)) (by simp)) xup_s (xup_o xup_s (by omega))
theorem c_Mo_isOne {N : Nat} {K : Int32 → xHp → Prop} (h : isOb hp o) (hn : o.pe = nI N) (hN : N ≤ 80) (hK : K (yhas x (nI N)) hp) : xMi l (d + 1) b lo gz m_Mo_isOne [.ref 103, .int x] hp K := by
  have o1 : hp.1 103 = _ := h
  rw [hn] at o1
  refine xMC_V ok_Mo_isOne (by decide) (L0 := [.ref 103, .int x]) rfl rfl ?_
  try simp only [s_Mo_isOne_0, s_Mo_isOne_1, s_Mo_isOne_2, s_Mo_isOne_3, s_Mo_isOne_6, s_Mo_isOne_7, s_Mo_isOne_8, s_Mo_isOne_11, xg_0, xg_s, xF_up, xPf_up, xO_up, xAi_up, xAl_up, xLn_up, xup_xup, ty_i, ty_b, ty_z, ty_l, ty_q, tb_b, tb_z, xup_2, xpI_s, xpL_s, xpV_s, xpQ_n, xpQ_r, yl_0, yl_1, yl_2, yl_3, yl_4, yl_5, yl_6, xcs_nil, xcs_i, xcs_a, xcs_l, xcs_n, xNl_z, xNl_s, xNl_i, xNl_a, xNl_n, xNl_d, cat_i, cat_a, cat_n, List.getElem?_cons_zero, List.getElem?_cons_succ, List.set_cons_zero, List.set_cons_succ, List.length_cons, List.length_nil, true_and, and_true, eq_self, ite_true, ite_false, if_true, if_false, or_true, true_or, or_false, false_or, Nat.reduceAdd, Nat.reduceLT, Nat.reduceLeDiff, Nat.reduceEqDiff, Nat.reduceSub, ↓reduceIte, reduceCtorEq, not_false_eq_true, not_true_eq_false, false_implies, true_implies, forall_const, imp_self, implies_true, Nat.add_left_cancel_iff, Nat.left_eq_add, Nat.add_eq_left, Nat.zero_lt_succ, Nat.lt_add_left_iff_pos, one_ne_zero_n, zero_ne_one_n, zero_ne_one_i, one_ne_zero_i, xF_r o1, xPf_r o1, xO_r o1]
  refine c_Mo_in ?_
  rw [mIn_n hN]
  rcases yhas_01 x (nI N) with e | e
  · rw [e] at hK ⊢
    try simp only [s_Mo_isOne_0, s_Mo_isOne_1, s_Mo_isOne_2, s_Mo_isOne_3, s_Mo_isOne_6, s_Mo_isOne_7, s_Mo_isOne_8, s_Mo_isOne_11, xg_0, xg_s, xF_up, xPf_up, xO_up, xAi_up, xAl_up, xLn_up, xup_xup, ty_i, ty_b, ty_z, ty_l, ty_q, tb_b, tb_z, xup_2, xpI_s, xpL_s, xpV_s, xpQ_n, xpQ_r, yl_0, yl_1, yl_2, yl_3, yl_4, yl_5, yl_6, xcs_nil, xcs_i, xcs_a, xcs_l, xcs_n, xNl_z, xNl_s, xNl_i, xNl_a, xNl_n, xNl_d, cat_i, cat_a, cat_n, List.getElem?_cons_zero, List.getElem?_cons_succ, List.set_cons_zero, List.set_cons_succ, List.length_cons, List.length_nil, true_and, and_true, eq_self, ite_true, ite_false, if_true, if_false, or_true, true_or, or_false, false_or, Nat.reduceAdd, Nat.reduceLT, Nat.reduceLeDiff, Nat.reduceEqDiff, Nat.reduceSub, ↓reduceIte, reduceCtorEq, not_false_eq_true, not_true_eq_false, false_implies, true_implies, forall_const, imp_self, implies_true, Nat.add_left_cancel_iff, Nat.left_eq_add, Nat.add_eq_left, Nat.zero_lt_succ, Nat.lt_add_left_iff_pos, one_ne_zero_n, zero_ne_one_n, zero_ne_one_i, one_ne_zero_i]
    exact hK
  · rw [e] at hK ⊢
    try simp only [s_Mo_isOne_0, s_Mo_isOne_1, s_Mo_isOne_2, s_Mo_isOne_3, s_Mo_isOne_6, s_Mo_isOne_7, s_Mo_isOne_8, s_Mo_isOne_11, xg_0, xg_s, xF_up, xPf_up, xO_up, xAi_up, xAl_up, xLn_up, xup_xup, ty_i, ty_b, ty_z, ty_l, ty_q, tb_b, tb_z, xup_2, xpI_s, xpL_s, xpV_s, xpQ_n, xpQ_r, yl_0, yl_1, yl_2, yl_3, yl_4, yl_5, yl_6, xcs_nil, xcs_i, xcs_a, xcs_l, xcs_n, xNl_z, xNl_s, xNl_i, xNl_a, xNl_n, xNl_d, cat_i, cat_a, cat_n, List.getElem?_cons_zero, List.getElem?_cons_succ, List.set_cons_zero, List.set_cons_succ, List.length_cons, List.length_nil, true_and, and_true, eq_self, ite_true, ite_false, if_true, if_false, or_true, true_or, or_false, false_or, Nat.reduceAdd, Nat.reduceLT, Nat.reduceLeDiff, Nat.reduceEqDiff, Nat.reduceSub, ↓reduceIte, reduceCtorEq, not_false_eq_true, not_true_eq_false, false_implies, true_implies, forall_const, imp_self, implies_true, Nat.add_left_cancel_iff, Nat.left_eq_add, Nat.add_eq_left, Nat.zero_lt_succ, Nat.lt_add_left_iff_pos, one_ne_zero_n, zero_ne_one_n, zero_ne_one_i, one_ne_zero_i]
    exact hK
theorem c_Mo_isPlace {N : Nat} {K : Int32 → xHp → Prop} (h : isOb hp o) (hn : o.pl = nI N) (hN : N ≤ 80) (hK : K (yhas x (nI N)) hp) : xMi l (d + 1) b lo gz m_Mo_isPlace [.ref 103, .int x] hp K := by
  have o1 : hp.1 103 = _ := h
  rw [hn] at o1
  refine xMC_V ok_Mo_isPlace (by decide) (L0 := [.ref 103, .int x]) rfl rfl ?_
  try simp only [s_Mo_isPlace_0, s_Mo_isPlace_1, s_Mo_isPlace_2, s_Mo_isPlace_3, s_Mo_isPlace_6, s_Mo_isPlace_7, s_Mo_isPlace_8, s_Mo_isPlace_11, xg_0, xg_s, xF_up, xPf_up, xO_up, xAi_up, xAl_up, xLn_up, xup_xup, ty_i, ty_b, ty_z, ty_l, ty_q, tb_b, tb_z, xup_2, xpI_s, xpL_s, xpV_s, xpQ_n, xpQ_r, yl_0, yl_1, yl_2, yl_3, yl_4, yl_5, yl_6, xcs_nil, xcs_i, xcs_a, xcs_l, xcs_n, xNl_z, xNl_s, xNl_i, xNl_a, xNl_n, xNl_d, cat_i, cat_a, cat_n, List.getElem?_cons_zero, List.getElem?_cons_succ, List.set_cons_zero, List.set_cons_succ, List.length_cons, List.length_nil, true_and, and_true, eq_self, ite_true, ite_false, if_true, if_false, or_true, true_or, or_false, false_or, Nat.reduceAdd, Nat.reduceLT, Nat.reduceLeDiff, Nat.reduceEqDiff, Nat.reduceSub, ↓reduceIte, reduceCtorEq, not_false_eq_true, not_true_eq_false, false_implies, true_implies, forall_const, imp_self, implies_true, Nat.add_left_cancel_iff, Nat.left_eq_add, Nat.add_eq_left, Nat.zero_lt_succ, Nat.lt_add_left_iff_pos, one_ne_zero_n, zero_ne_one_n, zero_ne_one_i, one_ne_zero_i, xF_r o1, xPf_r o1, xO_r o1]
  refine c_Mo_in ?_
  rw [mIn_n hN]
  rcases yhas_01 x (nI N) with e | e
  · rw [e] at hK ⊢
    try simp only [s_Mo_isPlace_0, s_Mo_isPlace_1, s_Mo_isPlace_2, s_Mo_isPlace_3, s_Mo_isPlace_6, s_Mo_isPlace_7, s_Mo_isPlace_8, s_Mo_isPlace_11, xg_0, xg_s, xF_up, xPf_up, xO_up, xAi_up, xAl_up, xLn_up, xup_xup, ty_i, ty_b, ty_z, ty_l, ty_q, tb_b, tb_z, xup_2, xpI_s, xpL_s, xpV_s, xpQ_n, xpQ_r, yl_0, yl_1, yl_2, yl_3, yl_4, yl_5, yl_6, xcs_nil, xcs_i, xcs_a, xcs_l, xcs_n, xNl_z, xNl_s, xNl_i, xNl_a, xNl_n, xNl_d, cat_i, cat_a, cat_n, List.getElem?_cons_zero, List.getElem?_cons_succ, List.set_cons_zero, List.set_cons_succ, List.length_cons, List.length_nil, true_and, and_true, eq_self, ite_true, ite_false, if_true, if_false, or_true, true_or, or_false, false_or, Nat.reduceAdd, Nat.reduceLT, Nat.reduceLeDiff, Nat.reduceEqDiff, Nat.reduceSub, ↓reduceIte, reduceCtorEq, not_false_eq_true, not_true_eq_false, false_implies, true_implies, forall_const, imp_self, implies_true, Nat.add_left_cancel_iff, Nat.left_eq_add, Nat.add_eq_left, Nat.zero_lt_succ, Nat.lt_add_left_iff_pos, one_ne_zero_n, zero_ne_one_n, zero_ne_one_i, one_ne_zero_i]
    exact hK
  · rw [e] at hK ⊢
    try simp only [s_Mo_isPlace_0, s_Mo_isPlace_1, s_Mo_isPlace_2, s_Mo_isPlace_3, s_Mo_isPlace_6, s_Mo_isPlace_7, s_Mo_isPlace_8, s_Mo_isPlace_11, xg_0, xg_s, xF_up, xPf_up, xO_up, xAi_up, xAl_up, xLn_up, xup_xup, ty_i, ty_b, ty_z, ty_l, ty_q, tb_b, tb_z, xup_2, xpI_s, xpL_s, xpV_s, xpQ_n, xpQ_r, yl_0, yl_1, yl_2, yl_3, yl_4, yl_5, yl_6, xcs_nil, xcs_i, xcs_a, xcs_l, xcs_n, xNl_z, xNl_s, xNl_i, xNl_a, xNl_n, xNl_d, cat_i, cat_a, cat_n, List.getElem?_cons_zero, List.getElem?_cons_succ, List.set_cons_zero, List.set_cons_succ, List.length_cons, List.length_nil, true_and, and_true, eq_self, ite_true, ite_false, if_true, if_false, or_true, true_or, or_false, false_or, Nat.reduceAdd, Nat.reduceLT, Nat.reduceLeDiff, Nat.reduceEqDiff, Nat.reduceSub, ↓reduceIte, reduceCtorEq, not_false_eq_true, not_true_eq_false, false_implies, true_implies, forall_const, imp_self, implies_true, Nat.add_left_cancel_iff, Nat.left_eq_add, Nat.add_eq_left, Nat.zero_lt_succ, Nat.lt_add_left_iff_pos, one_ne_zero_n, zero_ne_one_n, zero_ne_one_i, one_ne_zero_i]
    exact hK
theorem c_Mo_areTwo {N : Nat} {K : Int32 → xHp → Prop} (h : isOb hp o) (hn : o.pe = nI N) (hN : N ≤ 80) (hK0 : yhas x (nI N) = 0 ∨ yhas y (nI N) = 0 ∨ x = y → K 0 hp) (hK : ¬ (yhas x (nI N) = 0 ∨ yhas y (nI N) = 0 ∨ x = y) → K 1 hp) : xMi l (d + 2) b lo gz m_Mo_areTwo [.ref 103, .int x, .int y] hp K := by
  have o1 : hp.1 103 = _ := h
  refine xMC_V ok_Mo_areTwo (by decide) (L0 := [.ref 103, .int x, .int y]) rfl rfl ?_
  try simp only [s_Mo_areTwo_0, s_Mo_areTwo_1, s_Mo_areTwo_2, s_Mo_areTwo_5, s_Mo_areTwo_8, s_Mo_areTwo_9, s_Mo_areTwo_10, s_Mo_areTwo_13, s_Mo_areTwo_16, s_Mo_areTwo_17, s_Mo_areTwo_18, s_Mo_areTwo_21, s_Mo_areTwo_22, s_Mo_areTwo_25, s_Mo_areTwo_26, xg_0, xg_s, xF_up, xPf_up, xO_up, xAi_up, xAl_up, xLn_up, xup_xup, ty_i, ty_b, ty_z, ty_l, ty_q, tb_b, tb_z, xup_2, xpI_s, xpL_s, xpV_s, xpQ_n, xpQ_r, yl_0, yl_1, yl_2, yl_3, yl_4, yl_5, yl_6, xcs_nil, xcs_i, xcs_a, xcs_l, xcs_n, xNl_z, xNl_s, xNl_i, xNl_a, xNl_n, xNl_d, cat_i, cat_a, cat_n, List.getElem?_cons_zero, List.getElem?_cons_succ, List.set_cons_zero, List.set_cons_succ, List.length_cons, List.length_nil, true_and, and_true, eq_self, ite_true, ite_false, if_true, if_false, or_true, true_or, or_false, false_or, Nat.reduceAdd, Nat.reduceLT, Nat.reduceLeDiff, Nat.reduceEqDiff, Nat.reduceSub, ↓reduceIte, reduceCtorEq, not_false_eq_true, not_true_eq_false, false_implies, true_implies, forall_const, imp_self, implies_true, Nat.add_left_cancel_iff, Nat.left_eq_add, Nat.add_eq_left, Nat.zero_lt_succ, Nat.lt_add_left_iff_pos, one_ne_zero_n, zero_ne_one_n, zero_ne_one_i, one_ne_zero_i, xF_r o1, xPf_r o1, xO_r o1]
  refine c_Mo_isOne h hn hN ?_
  by_cases z1 : yhas x (nI N) = 0
  · try simp only [s_Mo_areTwo_0, s_Mo_areTwo_1, s_Mo_areTwo_2, s_Mo_areTwo_5, s_Mo_areTwo_8, s_Mo_areTwo_9, s_Mo_areTwo_10, s_Mo_areTwo_13, s_Mo_areTwo_16, s_Mo_areTwo_17, s_Mo_areTwo_18, s_Mo_areTwo_21, s_Mo_areTwo_22, s_Mo_areTwo_25, s_Mo_areTwo_26, xg_0, xg_s, xF_up, xPf_up, xO_up, xAi_up, xAl_up, xLn_up, xup_xup, ty_i, ty_b, ty_z, ty_l, ty_q, tb_b, tb_z, xup_2, xpI_s, xpL_s, xpV_s, xpQ_n, xpQ_r, yl_0, yl_1, yl_2, yl_3, yl_4, yl_5, yl_6, xcs_nil, xcs_i, xcs_a, xcs_l, xcs_n, xNl_z, xNl_s, xNl_i, xNl_a, xNl_n, xNl_d, cat_i, cat_a, cat_n, List.getElem?_cons_zero, List.getElem?_cons_succ, List.set_cons_zero, List.set_cons_succ, List.length_cons, List.length_nil, true_and, and_true, eq_self, ite_true, ite_false, if_true, if_false, or_true, true_or, or_false, false_or, Nat.reduceAdd, Nat.reduceLT, Nat.reduceLeDiff, Nat.reduceEqDiff, Nat.reduceSub, ↓reduceIte, reduceCtorEq, not_false_eq_true, not_true_eq_false, false_implies, true_implies, forall_const, imp_self, implies_true, Nat.add_left_cancel_iff, Nat.left_eq_add, Nat.add_eq_left, Nat.zero_lt_succ, Nat.lt_add_left_iff_pos, one_ne_zero_n, zero_ne_one_n, zero_ne_one_i, one_ne_zero_i, z1]
    exact hK0 (Or.inl z1)
  try simp only [s_Mo_areTwo_0, s_Mo_areTwo_1, s_Mo_areTwo_2, s_Mo_areTwo_5, s_Mo_areTwo_8, s_Mo_areTwo_9, s_Mo_areTwo_10, s_Mo_areTwo_13, s_Mo_areTwo_16, s_Mo_areTwo_17, s_Mo_areTwo_18, s_Mo_areTwo_21, s_Mo_areTwo_22, s_Mo_areTwo_25, s_Mo_areTwo_26, xg_0, xg_s, xF_up, xPf_up, xO_up, xAi_up, xAl_up, xLn_up, xup_xup, ty_i, ty_b, ty_z, ty_l, ty_q, tb_b, tb_z, xup_2, xpI_s, xpL_s, xpV_s, xpQ_n, xpQ_r, yl_0, yl_1, yl_2, yl_3, yl_4, yl_5, yl_6, xcs_nil, xcs_i, xcs_a, xcs_l, xcs_n, xNl_z, xNl_s, xNl_i, xNl_a, xNl_n, xNl_d, cat_i, cat_a, cat_n, List.getElem?_cons_zero, List.getElem?_cons_succ, List.set_cons_zero, List.set_cons_succ, List.length_cons, List.length_nil, true_and, and_true, eq_self, ite_true, ite_false, if_true, if_false, or_true, true_or, or_false, false_or, Nat.reduceAdd, Nat.reduceLT, Nat.reduceLeDiff, Nat.reduceEqDiff, Nat.reduceSub, ↓reduceIte, reduceCtorEq, not_false_eq_true, not_true_eq_false, false_implies, true_implies, forall_const, imp_self, implies_true, Nat.add_left_cancel_iff, Nat.left_eq_add, Nat.add_eq_left, Nat.zero_lt_succ, Nat.lt_add_left_iff_pos, one_ne_zero_n, zero_ne_one_n, zero_ne_one_i, one_ne_zero_i, z1, xF_r o1, xPf_r o1, xO_r o1]
  refine c_Mo_isOne h hn hN ?_
  by_cases z2 : yhas y (nI N) = 0
  · try simp only [s_Mo_areTwo_0, s_Mo_areTwo_1, s_Mo_areTwo_2, s_Mo_areTwo_5, s_Mo_areTwo_8, s_Mo_areTwo_9, s_Mo_areTwo_10, s_Mo_areTwo_13, s_Mo_areTwo_16, s_Mo_areTwo_17, s_Mo_areTwo_18, s_Mo_areTwo_21, s_Mo_areTwo_22, s_Mo_areTwo_25, s_Mo_areTwo_26, xg_0, xg_s, xF_up, xPf_up, xO_up, xAi_up, xAl_up, xLn_up, xup_xup, ty_i, ty_b, ty_z, ty_l, ty_q, tb_b, tb_z, xup_2, xpI_s, xpL_s, xpV_s, xpQ_n, xpQ_r, yl_0, yl_1, yl_2, yl_3, yl_4, yl_5, yl_6, xcs_nil, xcs_i, xcs_a, xcs_l, xcs_n, xNl_z, xNl_s, xNl_i, xNl_a, xNl_n, xNl_d, cat_i, cat_a, cat_n, List.getElem?_cons_zero, List.getElem?_cons_succ, List.set_cons_zero, List.set_cons_succ, List.length_cons, List.length_nil, true_and, and_true, eq_self, ite_true, ite_false, if_true, if_false, or_true, true_or, or_false, false_or, Nat.reduceAdd, Nat.reduceLT, Nat.reduceLeDiff, Nat.reduceEqDiff, Nat.reduceSub, ↓reduceIte, reduceCtorEq, not_false_eq_true, not_true_eq_false, false_implies, true_implies, forall_const, imp_self, implies_true, Nat.add_left_cancel_iff, Nat.left_eq_add, Nat.add_eq_left, Nat.zero_lt_succ, Nat.lt_add_left_iff_pos, one_ne_zero_n, zero_ne_one_n, zero_ne_one_i, one_ne_zero_i, z2]
    exact hK0 (Or.inr (Or.inl z2))
  by_cases z3 : x = y
  · try simp only [s_Mo_areTwo_0, s_Mo_areTwo_1, s_Mo_areTwo_2, s_Mo_areTwo_5, s_Mo_areTwo_8, s_Mo_areTwo_9, s_Mo_areTwo_10, s_Mo_areTwo_13, s_Mo_areTwo_16, s_Mo_areTwo_17, s_Mo_areTwo_18, s_Mo_areTwo_21, s_Mo_areTwo_22, s_Mo_areTwo_25, s_Mo_areTwo_26, xg_0, xg_s, xF_up, xPf_up, xO_up, xAi_up, xAl_up, xLn_up, xup_xup, ty_i, ty_b, ty_z, ty_l, ty_q, tb_b, tb_z, xup_2, xpI_s, xpL_s, xpV_s, xpQ_n, xpQ_r, yl_0, yl_1, yl_2, yl_3, yl_4, yl_5, yl_6, xcs_nil, xcs_i, xcs_a, xcs_l, xcs_n, xNl_z, xNl_s, xNl_i, xNl_a, xNl_n, xNl_d, cat_i, cat_a, cat_n, List.getElem?_cons_zero, List.getElem?_cons_succ, List.set_cons_zero, List.set_cons_succ, List.length_cons, List.length_nil, true_and, and_true, eq_self, ite_true, ite_false, if_true, if_false, or_true, true_or, or_false, false_or, Nat.reduceAdd, Nat.reduceLT, Nat.reduceLeDiff, Nat.reduceEqDiff, Nat.reduceSub, ↓reduceIte, reduceCtorEq, not_false_eq_true, not_true_eq_false, false_implies, true_implies, forall_const, imp_self, implies_true, Nat.add_left_cancel_iff, Nat.left_eq_add, Nat.add_eq_left, Nat.zero_lt_succ, Nat.lt_add_left_iff_pos, one_ne_zero_n, zero_ne_one_n, zero_ne_one_i, one_ne_zero_i, z2, z3]
    exact hK0 (Or.inr (Or.inr z3))
  try simp only [s_Mo_areTwo_0, s_Mo_areTwo_1, s_Mo_areTwo_2, s_Mo_areTwo_5, s_Mo_areTwo_8, s_Mo_areTwo_9, s_Mo_areTwo_10, s_Mo_areTwo_13, s_Mo_areTwo_16, s_Mo_areTwo_17, s_Mo_areTwo_18, s_Mo_areTwo_21, s_Mo_areTwo_22, s_Mo_areTwo_25, s_Mo_areTwo_26, xg_0, xg_s, xF_up, xPf_up, xO_up, xAi_up, xAl_up, xLn_up, xup_xup, ty_i, ty_b, ty_z, ty_l, ty_q, tb_b, tb_z, xup_2, xpI_s, xpL_s, xpV_s, xpQ_n, xpQ_r, yl_0, yl_1, yl_2, yl_3, yl_4, yl_5, yl_6, xcs_nil, xcs_i, xcs_a, xcs_l, xcs_n, xNl_z, xNl_s, xNl_i, xNl_a, xNl_n, xNl_d, cat_i, cat_a, cat_n, List.getElem?_cons_zero, List.getElem?_cons_succ, List.set_cons_zero, List.set_cons_succ, List.length_cons, List.length_nil, true_and, and_true, eq_self, ite_true, ite_false, if_true, if_false, or_true, true_or, or_false, false_or, Nat.reduceAdd, Nat.reduceLT, Nat.reduceLeDiff, Nat.reduceEqDiff, Nat.reduceSub, ↓reduceIte, reduceCtorEq, not_false_eq_true, not_true_eq_false, false_implies, true_implies, forall_const, imp_self, implies_true, Nat.add_left_cancel_iff, Nat.left_eq_add, Nat.add_eq_left, Nat.zero_lt_succ, Nat.lt_add_left_iff_pos, one_ne_zero_n, zero_ne_one_n, zero_ne_one_i, one_ne_zero_i, z2, z3]
  exact hK (fun z => z.elim z1 (fun z => z.elim z2 z3))
end MO1
