/-! ===== what RULES come to ===== -/
def rfold (lt : Nat → Int32) : List Int32 → Int32 × (Nat → Int32) → Int32 × (Nat → Int32)
  | [], q => q
  | w :: r, q => rfold lt r (rstep lt w q)
theorem rfold_app (lt : Nat → Int32) (c1 c2 : List Int32) : ∀ q, rfold lt (c1 ++ c2) q = rfold lt c2 (rfold lt c1 q) := by
  induction c1 with
  | nil => intro q; rfl
  | cons w r ih => intro q; exact ih _
theorem capp_lt (c : List Int32) : ∀ (code : Nat → Int32) (m j : Nat), j < m → capp code m c j = code j := by
  induction c with
  | nil => intro code m j hj; rfl
  | cons w r ih =>
    intro code m j hj
    show capp (upd code m w) (m + 1) r j = code j
    rw [ih _ _ _ (by omega)]
    unfold upd
    rw [if_neg (by omega)]
theorem rrun_congr {code code2 lt S : Nat → Int32} (m : Nat) (h : ∀ j, j < m → code j = code2 j) : rrun code lt S m = rrun code2 lt S m := by
  induction m with
  | zero => rfl
  | succ m ih =>
    show rstep lt (code m) (rrun code lt S m) = rstep lt (code2 m) (rrun code2 lt S m)
    rw [ih (fun j hj => h j (by omega)), h m (by omega)]
theorem rrun_capp (lt S : Nat → Int32) (c : List Int32) : ∀ (code : Nat → Int32) (m : Nat), rrun (capp code m c) lt S (m + c.length) = rfold lt c (rrun code lt S m) := by
  induction c with
  | nil => intro code m; rfl
  | cons w r ih =>
    intro code m
    show rrun (capp (upd code m w) (m + 1) r) lt S (m + (r.length + 1)) = rfold lt r (rstep lt w (rrun code lt S m))
    rw [show m + (r.length + 1) = m + 1 + r.length by omega, ih]
    congr 1
    show rstep lt (upd code m w m) (rrun (upd code m w) lt S m) = rstep lt w (rrun code lt S m)
    rw [show upd code m w m = w by simp [upd]]
    congr 1
    refine rrun_congr m fun j hj => ?_
    unfold upd
    rw [if_neg (by omega)]
theorem nI_ad (a b : Nat) : nI a + nI b = nI (a + b) := (Int32.ofNat_add a b).symm
theorem nI_s1 (a : Nat) : nI (a + 1) - 1 = nI a := by rw [← nI_1, Int32.add_sub_cancel]
theorem nI_m1 (a : Nat) : nI (a + 1) + (-1) = nI a := by rw [← nI_1, Int32.add_assoc, show (1 : Int32) + (-1) = 0 by decide, Int32.add_zero]
section RS
variable {lt S : Nat → Int32} {t : Nat} {w : Int32}
theorem y40 : (40 : Nat) < 2 ^ 31 := by decide
theorem rstep_op (hw : w = -11 ∨ w = -12 ∨ w = -13 ∨ w = -14 ∨ w = -15 ∨ w = -16 ∨ w = -17) (ht : t + 1 < 40) : rstep lt w (nI (t + 1 + 1), S) = (nI (t + 1), upd S t (rk w (S t) (S (t + 1)))) := by
  have h : w < 0 ∧ w < -7 ∧ ¬ w = -18 := by rcases hw with rfl | rfl | rfl | rfl | rfl | rfl | rfl <;> decide
  unfold rstep
  rw [if_pos h.1, if_pos h.2.1, if_neg h.2.2]
  simp only [nI_m1, nI_s1]
  rw [yat_nI (show t < 40 by omega) y40, yat_nI ht y40, yput_nI (show t < 40 by omega) y40]
theorem rstep_neg (ht : t < 40) : rstep lt (-18) (nI (t + 1), S) = (nI (t + 1), upd S t (-(S t))) := by
  unfold rstep
  rw [if_pos (by decide), if_pos (by decide), if_pos rfl]
  simp only [nI_s1]
  rw [yat_nI ht y40, yput_nI ht y40]
theorem rstep_num (hw : ¬ w < 0) (ht : t < 40) : rstep lt w (nI t, S) = (nI (t + 1), upd S t w) := by
  unfold rstep
  rw [if_neg hw]
  simp only [nI_1]
  rw [yput_nI ht y40]
theorem rstep_let {j : Nat} (hj : j < 7) (ht : t < 40) : rstep lt (-1 - nI j) (nI t, S) = (nI (t + 1), upd S t (lt j)) := by
  have h : ∀ j, j < 7 → (-1 - nI j < 0) ∧ ¬ (-1 - nI j < -7) ∧ (-1 - (-1 - nI j) = nI j) := by decide
  obtain ⟨h1, h2, h3⟩ := h j hj
  unfold rstep
  rw [if_pos h1, if_neg h2, h3, yat_nI hj (by decide)]
  simp only [nI_1]
  rw [yput_nI ht y40]
end RS
theorem dig_of {s : Int32} (h : ¬ tisd s = 0) : ∃ g, g < 10 ∧ s = nI (48 + g) := by
  unfold tisd at h
  by_cases h1 : s < 48
  · rw [if_pos h1] at h; exact absurd rfl h
  · rw [if_neg h1] at h
    by_cases h2 : (57 : Int32) < s
    · rw [if_pos h2] at h; exact absurd rfl h
    · have h0 : ¬ s < 0 := fun z => h1 (Int32.lt_trans z (by decide))
      obtain ⟨n, hn, rfl⟩ := nI_of h0
      have a1 : 48 ≤ n := by
        by_cases e : 48 ≤ n
        · exact e
        · exact absurd (Int32.not_le.mp (show ¬ nI 48 ≤ nI n from nI_ge (by omega) (by omega))) (by rw [show nI 48 = 48 by decide]; exact h1)
      have a2 : n ≤ 57 := by
        by_cases e : n ≤ 57
        · exact e
        · exact absurd (Int32.not_le.mp (show ¬ nI n ≤ nI 57 from nI_ge (by omega) (by omega))) (by rw [show nI 57 = 57 by decide]; exact h2)
      exact ⟨n - 48, by omega, by congr 1; omega⟩
theorem gnum_v {T : Nat → Int32} {N : Nat} (k : Nat) : ∀ p a, ∃ b, (gnum T N k p (nI a)).2 = nI b ∧ b < (a + 1) * 10 ^ k := by
  induction k with
  | zero => intro p a; exact ⟨a, rfl, by omega⟩
  | succ k ih =>
    intro p a
    unfold gnum
    by_cases z : tisd (lk T N p) = 0
    · rw [if_pos z]
      refine ⟨a, rfl, ?_⟩
      have : 1 ≤ 10 ^ (k + 1) := Nat.one_le_pow _ _ (by decide)
      calc a < a + 1 := Nat.lt_succ_self a
        _ = (a + 1) * 1 := (Nat.mul_one _).symm
        _ ≤ (a + 1) * 10 ^ (k + 1) := Nat.mul_le_mul_left _ this
    · rw [if_neg z]
      obtain ⟨g, hg, e⟩ := dig_of z
      have e2 : 10 * nI a + lk T N p - 48 = nI (10 * a + g) := by
        rw [e, show (10 : Int32) = nI 10 by decide, show nI 10 * nI a = nI (10 * a) from (Int32.ofNat_mul 10 a).symm, nI_ad, show 10 * a + (48 + g) = 10 * a + g + 48 by omega, ← nI_ad, show nI 48 = 48 by decide, Int32.add_sub_cancel]
      rw [e2]
      obtain ⟨b, hb, hb2⟩ := ih (p + 1) (10 * a + g)
      refine ⟨b, hb, ?_⟩
      have : (10 * a + g + 1) * 10 ^ k ≤ (a + 1) * 10 ^ (k + 1) := by
        rw [Nat.pow_succ, Nat.mul_comm (10 ^ k) 10, ← Nat.mul_assoc]
        exact Nat.mul_le_mul_right _ (by omega)
      omega
theorem gop_op {w : Int32} : gop w = -11 ∨ gop w = -12 ∨ gop w = -13 ∨ gop w = -14 ∨ gop w = -15 ∨ gop w = -16 ∨ gop w = -17 := by
  unfold gop
  split
  · simp
  split
  · simp
  split
  · simp
  split
  · simp
  split
  · simp
  split
  · simp
  · simp
/-- c, run over a stack of t numbers, lays v on it -/
def PEv (lt : Nat → Int32) (c : List Int32) (v : (Nat → Int32) → Int32) : Prop := ∀ t S, t + c.length ≤ 40 → ∃ S', rfold lt c (nI t, S) = (nI (t + 1), S') ∧ S' t = v lt ∧ ∀ i, i < t → S' i = S i
def PEl (lt : Nat → Int32) (c : List Int32) (v0 v : (Nat → Int32) → Int32) : Prop := ∀ t S, t + 1 + c.length ≤ 40 → S t = v0 lt → ∃ S', rfold lt c (nI (t + 1), S) = (nI (t + 1), S') ∧ S' t = v lt ∧ ∀ i, i < t → S' i = S i
def PE (lt : Nat → Int32) (k : GK) (c : List Int32) (v : (Nat → Int32) → Int32) : Prop := match k.1 with
  | 2 => PEl lt c k.2 v
  | 4 => PEl lt c k.2 v
  | _ => PEv lt c v
section PEX
variable {lt : Nat → Int32} {c c1 c2 : List Int32} {v v0 v1 v2 : (Nat → Int32) → Int32} {w : Int32}
theorem PE_app (h1 : PEv lt c1 v1) (h2 : PEl lt c2 v1 v2) : PEv lt (c1 ++ c2) v2 := by
  intro t S ht
  rw [List.length_append] at ht
  obtain ⟨S1, e1, e2, e3⟩ := h1 t S (by omega)
  by_cases hc : t + 1 + c2.length ≤ 40
  · obtain ⟨S2, f1, f2, f3⟩ := h2 t S1 hc e2
    exact ⟨S2, by rw [rfold_app, e1, f1], f2, fun i hi => (f3 i hi).trans (e3 i hi)⟩
  · exfalso
    have : c1.length = 0 := by omega
    have hn : c1 = [] := List.length_eq_zero_iff.mp this
    subst hn
    have e1' : (nI t, S) = (nI (t + 1), S1) := e1
    have e4 : nI t = nI (t + 1) := congrArg Prod.fst e1'
    have e5 : ¬ nI (t + 1) ≤ nI t := nI_ge (by omega) (by omega)
    exact e5 (by rw [← e4]; exact Int32.le_refl _)
theorem PE_op (h1 : PEv lt c1 v1) (h2 : PEl lt c2 (fun lt => rk (gop w) (v0 lt) (v1 lt)) v2) : PEl lt (c1 ++ gop w :: c2) v0 v2 := by
  intro t S ht hv
  rw [List.length_append, List.length_cons] at ht
  obtain ⟨S1, e1, e2, e3⟩ := h1 (t + 1) S (by omega)
  obtain ⟨S2, f1, f2, f3⟩ := h2 t (upd S1 t (rk (gop w) (S1 t) (S1 (t + 1)))) (by omega) (by
    rw [show upd S1 t (rk (gop w) (S1 t) (S1 (t + 1))) t = rk (gop w) (S1 t) (S1 (t + 1)) by simp [upd], e2, e3 t (by omega), hv])
  refine ⟨S2, ?_, f2, fun i hi => ?_⟩
  · rw [rfold_app, e1]
    show rfold lt c2 (rstep lt (gop w) (nI (t + 1 + 1), S1)) = _
    rw [rstep_op gop_op (by omega), f1]
  · rw [f3 i hi]
    unfold upd
    rw [if_neg (by omega), e3 i (by omega)]
theorem PE_two (h1 : PEv lt c1 v1) (h2 : PEv lt c2 v2) : PEv lt (c1 ++ c2 ++ [gop w]) (fun lt => rk (gop w) (v1 lt) (v2 lt)) := by
  intro t S ht
  simp only [List.length_append, List.length_cons, List.length_nil] at ht
  obtain ⟨S1, e1, e2, e3⟩ := h1 t S (by omega)
  by_cases hc : t + 1 < 40
  · obtain ⟨S2, f1, f2, f3⟩ := h2 (t + 1) S1 (by
      by_cases z : c1.length = 0
      · exfalso
        have hn : c1 = [] := List.length_eq_zero_iff.mp z
        subst hn
        have e1' : (nI t, S) = (nI (t + 1), S1) := e1
        have e4 : nI t = nI (t + 1) := congrArg Prod.fst e1'
        have e5 : ¬ nI (t + 1) ≤ nI t := nI_ge (by omega) (by omega)
        exact e5 (by rw [← e4]; exact Int32.le_refl _)
      · omega)
    refine ⟨upd S2 t (rk (gop w) (S2 t) (S2 (t + 1))), ?_, ?_, fun i hi => ?_⟩
    · rw [rfold_app, rfold_app, e1, f1]
      show rstep lt (gop w) (nI (t + 1 + 1), S2) = _
      rw [rstep_op gop_op hc]
    · show (if t = t then rk (gop w) (S2 t) (S2 (t + 1)) else S2 t) = _
      rw [if_pos rfl, f2, f3 t (by omega), e2]
    · unfold upd
      rw [if_neg (by omega), f3 i (by omega), e3 i hi]
  · exfalso
    have hn : c1.length = 0 ∨ c2.length = 0 := by omega
    have : t = 39 := by omega
    have z : c1.length = 0 := by omega
    have hn : c1 = [] := List.length_eq_zero_iff.mp z
    subst hn
    have e1' : (nI t, S) = (nI (t + 1), S1) := e1
    have e4 : nI t = nI (t + 1) := congrArg Prod.fst e1'
    have e5 : ¬ nI (t + 1) ≤ nI t := nI_ge (by omega) (by omega)
    exact e5 (by rw [← e4]; exact Int32.le_refl _)
theorem PE_neg {k : Nat} (h1 : PEv lt c v) : PEv lt (c ++ if k % 2 = 1 then [-18] else []) (fun lt => if k % 2 = 1 then -(v lt) else v lt) := by
  by_cases z : k % 2 = 1
  · simp only [if_pos z]
    intro t S ht
    simp only [List.length_append, List.length_cons, List.length_nil] at ht
    obtain ⟨S1, e1, e2, e3⟩ := h1 t S (by omega)
    refine ⟨upd S1 t (-(S1 t)), ?_, ?_, fun i hi => ?_⟩
    · rw [rfold_app, e1]
      show rstep lt (-18) (nI (t + 1), S1) = _
      rw [rstep_neg (by omega)]
    · show (if t = t then -(S1 t) else S1 t) = _
      rw [if_pos rfl, e2]
    · unfold upd
      rw [if_neg (by omega), e3 i hi]
  · simp only [if_neg z, List.append_nil]
    exact h1
theorem PE_1 {x : Int32} (h : ∀ t S, t < 40 → rstep lt w (nI t, S) = (nI (t + 1), upd S t x)) (hv : v lt = x) : PEv lt [w] v := by
  intro t S ht
  simp only [List.length_cons, List.length_nil] at ht
  refine ⟨upd S t x, h t S (by omega), ?_, fun i hi => ?_⟩
  · show (if t = t then x else S t) = _
    rw [if_pos rfl, hv]
  · unfold upd
    rw [if_neg (by omega)]
theorem PE_Der {T : Nat → Int32} {N : Nat} {kd : GK} {e p p1 : Nat} {ok : Bool} (lt : Nat → Int32) (h : Der T N kd e p ok p1 c v) : ok = true → PE lt kd c v := by
  refine Der_ind (M := fun kd e p ok p1 c v => ok = true → PE lt kd c v) ?num ?grp ?grpD ?grpF ?grpC ?lett ?letF ?thg ?prF ?pr ?plS ?plT ?plF ?suF ?su ?slS ?slT ?slF ?heF ?he0 ?heS ?he2 h
  case num =>
    intro d p h
    intro _
    have hb0 := gnum_v (T := T) (N := N) 3 p 0
    rw [show nI 0 = (0 : Int32) by decide] at hb0
    refine hb0.elim fun b hb => ?_
    have hpos : ¬ (gnum T N 3 p 0).2 < 0 := by
      rw [hb.1]
      refine nI_pos (Nat.lt_of_lt_of_le hb.2 ?_)
      decide
    show PEv lt [(gnum T N 3 p 0).2] (fun _ => (gnum T N 3 p 0).2)
    generalize (gnum T N 3 p 0).2 = x at hpos
    exact PE_1 (v := fun _ => x) (x := x) (fun t S ht => rstep_num hpos ht) rfl
  case grp =>
    intro _ _ _ _ _ h hd h1 h2 ih
    exact ih
  case grpD =>
    intro _ _ h hd
    exact fun z => absurd z (by decide)
  case grpF =>
    intro _ _ _ _ _ h hd h1 ih
    exact fun z => absurd z (by decide)
  case grpC =>
    intro _ _ _ _ _ h hd h1 h2 ih
    exact fun z => absurd z (by decide)
  case lett =>
    intro d p j h h2 hj h3
    intro _
    show PEv lt [-1 - nI j] (fun lt => lt j)
    exact PE_1 (x := lt j) (fun t S ht => rstep_let hj ht) rfl
  case letF =>
    intro _ _ h h2 h3
    exact fun z => absurd z (by decide)
  case thg =>
    intro _ _ _ _ _ _ _ h h2 h3 ih
    exact fun hk => PE_neg (ih hk)
  case prF =>
    intro _ _ _ _ _ h ih
    exact fun z => absurd z (by decide)
  case pr =>
    intro _ _ _ _ _ _ _ _ _ h h2 ih ih2
    exact fun hk => PE_app (ih rfl) (ih2 hk)
  case plS =>
    intro _ _ _ h h2
    exact fun _ t S ht hv => ⟨S, rfl, hv, fun _ _ => rfl⟩
  case plT =>
    intro _ _ _ _ _ _ _ _ _ _ _ hw h h1 h2 ih ih2
    exact fun hk => PE_op (ih rfl) (ih2 hk)
  case plF =>
    intro _ _ _ _ _ _ _ hw h h1 ih
    exact fun z => absurd z (by decide)
  case suF =>
    intro _ _ _ _ _ h ih
    exact fun z => absurd z (by decide)
  case su =>
    intro _ _ _ _ _ _ _ _ _ h h2 ih ih2
    exact fun hk => PE_app (ih rfl) (ih2 hk)
  case slS =>
    intro _ _ _ h h2
    exact fun _ t S ht hv => ⟨S, rfl, hv, fun _ _ => rfl⟩
  case slT =>
    intro _ _ _ _ _ _ _ _ _ _ _ hw h h1 h2 ih ih2
    exact fun hk => PE_op (ih rfl) (ih2 hk)
  case slF =>
    intro _ _ _ _ _ _ _ hw h h1 ih
    exact fun z => absurd z (by decide)
  case heF =>
    intro _ _ _ _ _ h ih
    exact fun z => absurd z (by decide)
  case he0 =>
    intro _ _ _ _ _ h h1 h2 h3 ih
    exact ih
  case heS =>
    intro _ _ _ _ _ _ _ _ _ hw h h1 h2 ih ih2
    exact fun z => absurd z (by decide)
  case he2 =>
    intro _ _ _ _ _ _ _ _ _ hw h h1 h2 ih ih2
    exact fun _ => PE_two (ih rfl) (ih2 rfl)
end PEX
theorem rstep_cut (lt : Nat → Int32) (w : Int32) (q : Int32 × (Nat → Int32)) : rstep lt w q = rstep (fun j => if j < 7 then lt j else 0) w q := by
  have e : ∀ i, yat 7 lt i = yat 7 (fun j => if j < 7 then lt j else 0) i := by
    intro i
    unfold yat
    by_cases h1 : i < 0
    · rw [if_pos h1, if_pos h1]
    · rw [if_neg h1, if_neg h1]
      by_cases h2 : Int32.ofNat 7 ≤ i
      · rw [if_pos h2, if_pos h2]
      · rw [if_neg h2, if_neg h2]
        have hin := yin (n := 7) (by decide) h1 h2
        unfold vp_in at hin
        have hz : i.toNatClampNeg < 7 := by
          by_cases z : i.toNatClampNeg < 7
          · exact z
          · exact absurd (Or.inr (by omega)) hin
        show lt i.toNatClampNeg = if i.toNatClampNeg < 7 then lt i.toNatClampNeg else 0
        rw [if_pos hz]
  unfold rstep
  rw [e]
theorem rrun_cut (code lt S : Nat → Int32) (m : Nat) : rrun code lt S m = rrun code (fun j => if j < 7 then lt j else 0) S m := by
  induction m with
  | zero => rfl
  | succ m ih =>
    show rstep lt (code m) (rrun code lt S m) = rstep _ (code m) (rrun code _ S m)
    rw [ih, rstep_cut]
theorem RuleOK_of {c : List Int32} {v : (Nat → Int32) → Int32} {code : Nat → Int32} (hc : c.length ≤ 40) (h : ∀ lt, PEv lt c v) : RuleOK (capp code 0 c) c.length v := by
  intro lt S
  unfold rval
  rw [rrun_cut]
  obtain ⟨S', e1, e2, e3⟩ := h (fun j => if j < 7 then lt j else 0) 0 S (by omega)
  have := rrun_capp (fun j => if j < 7 then lt j else 0) S c code 0
  rw [Nat.zero_add] at this
  rw [this]
  show yat 40 (rfold _ c (nI 0, S)).2 0 = _
  rw [e1, show (0 : Int32) = nI 0 by decide, yat_nI (by decide) y40]
  exact e2
theorem RuleOK_Der {T : Nat → Int32} {N p1 : Nat} {c : List Int32} {v : (Nat → Int32) → Int32} {code : Nat → Int32} (h : Der T N .held 0 0 true p1 c v) : RuleOK (capp code 0 c) c.length v := by
  have hl := Der_len h (by omega)
  exact RuleOK_of (by omega) (fun lt => PE_Der lt h rfl)
def vusual : (Nat → Int32) → Int32 := fun lt => rk (-17) (rk (-16) (lt 0) (lt 1)) 9
theorem RuleOK_usual {code : Nat → Int32} : RuleOK (yusual code) 5 vusual := by
  have h : ∀ lt, PEv lt [-1, -2, -16, 9, -17] vusual := by
    intro lt
    have h0 : PEv lt [-1] (fun lt => lt 0) := PE_1 (fun t S ht => rstep_let (j := 0) (by decide) ht) rfl
    have h1 : PEv lt [-2] (fun lt => lt 1) := PE_1 (fun t S ht => rstep_let (j := 1) (by decide) ht) rfl
    have h9 : PEv lt [9] (fun lt => 9) := PE_1 (fun t S ht => rstep_num (by decide) ht) rfl
    have a := PE_two (w := 42) h0 h1
    have b := PE_two (w := 47) a h9
    exact b
  exact RuleOK_of (c := [-1, -2, -16, 9, -17]) (by decide) h
