/-! ===== rooms: the table and the first best row ===== -/
def iI (a : Int) : Int32 := Int32.ofInt a
theorem iI_n (n : Nat) : nI n = iI (n : Int) := Int32.ofInt_eq_ofNat.symm
theorem iI_add (a c : Int) : iI a + iI c = iI (a + c) := (Int32.ofInt_add a c).symm
theorem iI_mul (a c : Int) : iI a * iI c = iI (a * c) := (Int32.ofInt_mul a c).symm
theorem iI_to {a : Int} (h1 : -1100000 ≤ a) (h2 : a ≤ 1100000) : (iI a).toInt = a := Int32.toInt_ofInt_of_le (by omega) (by omega)
theorem iI_le {a c : Int} (h1 : -1100000 ≤ a) (h2 : a ≤ 1100000) (h3 : -1100000 ≤ c) (h4 : c ≤ 1100000) : iI a ≤ iI c ↔ a ≤ c := by rw [Int32.le_iff_toInt_le, iI_to h1 h2, iI_to h3 h4]
theorem iI_inj {a c : Int} (h1 : -1100000 ≤ a) (h2 : a ≤ 1100000) (h3 : -1100000 ≤ c) (h4 : c ≤ 1100000) (h : iI a = iI c) : a = c := by
  have e := congrArg Int32.toInt h
  rwa [iI_to h1 h2, iI_to h3 h4] at e
theorem iI_max {a c : Int} (h1 : -1100000 ≤ a) (h2 : a ≤ 1100000) (h3 : -1100000 ≤ c) (h4 : c ≤ 1100000) : ymax (iI a) (iI c) = iI (max a c) := by
  unfold ymax
  by_cases z : c ≤ a
  · rw [if_pos ((iI_le h3 h4 h1 h2).mpr z)]
    congr 1
    omega
  · rw [if_neg (fun e => z ((iI_le h3 h4 h1 h2).mp e))]
    congr 1
    omega
theorem or_p : ∀ set, set < 64 → ∀ p, p < 6 → nI set ||| ybit p = nI (set ||| 2 ^ p) := by decide +kernel
def mxP (W : Nat → Int) (set : Nat) : Nat → Int
  | 0 => -1000000
  | j + 1 => if Nat.testBit set j = true then mxP W set j else max (mxP W set j) (W j)
def dpZ (hN : Nat → Nat → Int) (sg : Int) (nl : Nat) : Nat → Nat → Nat → Int
  | 0, _, _ => 0
  | L + 1, o, set => mxP (fun p => sg * hN o p + dpZ hN sg nl L (o + 1) (set ||| 2 ^ p)) set nl
def frc (set : Nat) : Nat → Nat
  | 0 => 0
  | j + 1 => frc set j + (if Nat.testBit set j = true then 0 else 1)
theorem tb_or (set p j : Nat) : Nat.testBit (set ||| 2 ^ p) j = (Nat.testBit set j || decide (p = j)) := by rw [Nat.testBit_or, Nat.testBit_two_pow]
theorem frc_or (set p : Nat) : ∀ j, frc set j ≤ frc (set ||| 2 ^ p) j + (if p < j then 1 else 0) := by
  intro j
  induction j with
  | zero => exact Nat.zero_le _
  | succ j ih =>
    unfold frc
    rw [tb_or]
    by_cases e : p = j
    · subst e
      rw [if_neg (show ¬ p < p by omega)] at ih
      rw [if_pos (show p < p + 1 by omega)]
      cases Nat.testBit set p <;> simp <;> omega
    · have e2 : decide (p = j) = false := by simpa using e
      rw [e2, Bool.or_false]
      by_cases e3 : p < j
      · rw [if_pos e3] at ih
        rw [if_pos (show p < j + 1 by omega)]
        omega
      · rw [if_neg e3] at ih
        rw [if_neg (show ¬ p < j + 1 by omega)]
        omega
theorem frc_ex (set : Nat) : ∀ j, 1 ≤ frc set j → ∃ p, p < j ∧ Nat.testBit set p = false := by
  intro j
  induction j with
  | zero => intro h; exact absurd h (Nat.not_succ_le_zero 0)
  | succ j ih =>
    intro h
    cases e : Nat.testBit set j
    · exact ⟨j, by omega, e⟩
    · unfold frc at h
      rw [if_pos e] at h
      obtain ⟨p, hp, ep⟩ := ih h
      exact ⟨p, by omega, ep⟩
theorem mxP_bd {W : Nat → Int} {set : Nat} {c : Int} (hc : -1000000 ≤ c) (hW : ∀ p, W p ≤ c) : ∀ j, -1000000 ≤ mxP W set j ∧ mxP W set j ≤ c := by
  intro j
  induction j with
  | zero => exact ⟨Int.le_refl _, hc⟩
  | succ j ih =>
    have := hW j
    unfold mxP
    split <;> omega
theorem mxP_ge {W : Nat → Int} {set p : Nat} (hp : Nat.testBit set p = false) : ∀ j, p < j → W p ≤ mxP W set j := by
  intro j
  induction j with
  | zero => intro h; exact absurd h (Nat.not_lt_zero _)
  | succ j ih =>
    intro h
    unfold mxP
    by_cases e : p = j
    · subst e
      rw [if_neg (by rw [hp]; decide)]
      omega
    · have := ih (by omega)
      split <;> omega
def stP (W : Nat → Int) (set : Nat) : Nat → Option (Nat × Int)
  | 0 => none
  | j + 1 => if Nat.testBit set j = true then stP W set j else match stP W set j with
    | none => some (j, W j)
    | some e => if W j ≤ e.2 then some e else some (j, W j)
theorem stP_sp {W : Nat → Int} {set : Nat} (hW : ∀ p, Nat.testBit set p = false → -1000000 < W p) : ∀ j, (stP W set j = none ∧ (∀ p, p < j → Nat.testBit set p = true) ∧ mxP W set j = -1000000) ∨ (∃ p, stP W set j = some (p, W p) ∧ p < j ∧ Nat.testBit set p = false ∧ mxP W set j = W p ∧ ∀ p', p' < p → Nat.testBit set p' = false → W p' < W p) := by
  intro j
  induction j with
  | zero => exact Or.inl ⟨rfl, fun p hp => absurd hp (Nat.not_lt_zero _), rfl⟩
  | succ j ih =>
    unfold stP mxP
    cases e : Nat.testBit set j
    · have hj := hW j e
      rw [if_neg (by decide), if_neg (by decide)]
      rcases ih with ⟨h1, h2, h3⟩ | ⟨p, h1, h2, h3, h4, h5⟩
      · refine Or.inr ⟨j, by rw [h1], by omega, e, by rw [h3]; omega, fun p' hp' hf => ?_⟩
        rw [h2 p' hp'] at hf
        exact absurd hf (by decide)
      · rw [h1, h4]
        by_cases z : W j ≤ W p
        · exact Or.inr ⟨p, if_pos z, by omega, h3, by omega, h5⟩
        · refine Or.inr ⟨j, if_neg z, by omega, e, by omega, fun p' hp' hf => ?_⟩
          have := mxP_ge (W := W) hf j hp'
          omega
    · rw [if_pos rfl, if_pos rfl]
      rcases ih with ⟨h1, h2, h3⟩ | ⟨p, h1, h2, h3, h4, h5⟩
      · refine Or.inl ⟨h1, fun p hp => ?_, h3⟩
        by_cases ep : p = j
        · rw [ep]; exact e
        · exact h2 p (by omega)
      · exact Or.inr ⟨p, h1, by omega, h3, h4, h5⟩
def chZ (W : Nat → Int) (set nl : Nat) : Nat := match stP W set nl with
  | none => 0
  | some e => e.1
def wZ (hN : Nat → Nat → Int) (sg : Int) (nl L o set : Nat) : Nat → Int := fun p => sg * hN o p + dpZ hN sg nl L (o + 1) (set ||| 2 ^ p)
def pthZ (hN : Nat → Nat → Int) (sg : Int) (nl : Nat) : Nat → Nat → Nat → List Nat
  | 0, _, _ => []
  | L + 1, o, set => chZ (wZ hN sg nl L o set) set nl :: pthZ hN sg nl L (o + 1) (set ||| 2 ^ chZ (wZ hN sg nl L o set) set nl)
theorem dpZ_bd {hN : Nat → Nat → Int} {sg : Int} {nl : Nat} (hH : ∀ o p, 0 ≤ hN o p ∧ hN o p ≤ 9) (hs : sg = 1 ∨ sg = -1) : ∀ L o set, -1000000 ≤ dpZ hN sg nl L o set ∧ dpZ hN sg nl L o set ≤ 9 * (L : Int) := by
  intro L
  induction L with
  | zero => intro o set; exact ⟨by show (-1000000 : Int) ≤ 0; decide, by show (0 : Int) ≤ 9 * ((0 : Nat) : Int); decide⟩
  | succ L ih =>
    intro o set
    refine mxP_bd (by omega) (fun p => ?_) nl
    have h1 := ih (o + 1) (set ||| 2 ^ p)
    have h2 := hH o p
    rcases hs with rfl | rfl
    · show 1 * hN o p + _ ≤ _
      omega
    · show -1 * hN o p + _ ≤ _
      omega
theorem dpZ_lo {hN : Nat → Nat → Int} {sg : Int} {nl : Nat} (hH : ∀ o p, 0 ≤ hN o p ∧ hN o p ≤ 9) (hs : sg = 1 ∨ sg = -1) : ∀ L o set, L ≤ frc set nl → -(9 * (L : Int)) ≤ dpZ hN sg nl L o set := by
  intro L
  induction L with
  | zero => intro o set _; show -(9 * ((0 : Nat) : Int)) ≤ 0; decide
  | succ L ih =>
    intro o set hf
    obtain ⟨p, hp, ep⟩ := frc_ex set nl (by omega)
    have h1 := mxP_ge (W := wZ hN sg nl L o set) ep nl hp
    have h3 := frc_or set p nl
    rw [if_pos hp] at h3
    have h4 := ih (o + 1) (set ||| 2 ^ p) (by omega)
    have h2 := hH o p
    have e : dpZ hN sg nl (L + 1) o set = mxP (wZ hN sg nl L o set) set nl := rfl
    have e2 : wZ hN sg nl L o set p = sg * hN o p + dpZ hN sg nl L (o + 1) (set ||| 2 ^ p) := rfl
    rw [e]
    rw [e2] at h1
    rcases hs with rfl | rfl
    · omega
    · omega
/-- what is chosen at a set with room enough -/
theorem chZ_sp {hN : Nat → Nat → Int} {sg : Int} {nl L o set : Nat} (hH : ∀ o p, 0 ≤ hN o p ∧ hN o p ≤ 9) (hs : sg = 1 ∨ sg = -1) (hL : L ≤ 7) (hf : L + 1 ≤ frc set nl) : stP (wZ hN sg nl L o set) set nl = some (chZ (wZ hN sg nl L o set) set nl, wZ hN sg nl L o set (chZ (wZ hN sg nl L o set) set nl)) ∧ chZ (wZ hN sg nl L o set) set nl < nl ∧ Nat.testBit set (chZ (wZ hN sg nl L o set) set nl) = false ∧ dpZ hN sg nl (L + 1) o set = wZ hN sg nl L o set (chZ (wZ hN sg nl L o set) set nl) ∧ (∀ p', p' < chZ (wZ hN sg nl L o set) set nl → Nat.testBit set p' = false → wZ hN sg nl L o set p' < wZ hN sg nl L o set (chZ (wZ hN sg nl L o set) set nl)) := by
  obtain ⟨p0, hp0, ep0⟩ := frc_ex set nl (by omega)
  have hW : ∀ p, Nat.testBit set p = false → p < nl → -1000000 < wZ hN sg nl L o set p := fun p ep hp => by
    have h3 := frc_or set p nl
    rw [if_pos hp] at h3
    have h4 := dpZ_lo (nl := nl) hH hs L (o + 1) (set ||| 2 ^ p) (by omega)
    have h2 := hH o p
    show -1000000 < sg * hN o p + dpZ hN sg nl L (o + 1) (set ||| 2 ^ p)
    rcases hs with rfl | rfl
    · omega
    · omega
  have key : ∀ j, j ≤ nl → (stP (wZ hN sg nl L o set) set j = none ∧ (∀ p, p < j → Nat.testBit set p = true)) ∨ (∃ p, stP (wZ hN sg nl L o set) set j = some (p, wZ hN sg nl L o set p) ∧ p < j ∧ Nat.testBit set p = false ∧ mxP (wZ hN sg nl L o set) set j = wZ hN sg nl L o set p ∧ ∀ p', p' < p → Nat.testBit set p' = false → wZ hN sg nl L o set p' < wZ hN sg nl L o set p) := by
    intro j hj
    have hW2 : ∀ p, Nat.testBit (set ||| (2 ^ nl * 0)) p = false → True := fun _ _ => trivial
    revert hj
    induction j with
    | zero => intro _; exact Or.inl ⟨rfl, fun p hp => absurd hp (Nat.not_lt_zero _)⟩
    | succ j ih =>
      intro hj
      unfold stP mxP
      cases e : Nat.testBit set j
      · have hj2 := hW j e (by omega)
        rw [if_neg (by decide), if_neg (by decide)]
        rcases ih (by omega) with ⟨h1, h2⟩ | ⟨p, h1, h2, h3, h4, h5⟩
        · have h3 : mxP (wZ hN sg nl L o set) set j = -1000000 := by
            clear ih h1 hj hj2 e
            induction j with
            | zero => rfl
            | succ j ih2 =>
              unfold mxP
              rw [if_pos (h2 j (by omega))]
              exact ih2 (fun p hp => h2 p (by omega))
          refine Or.inr ⟨j, by rw [h1], by omega, e, by rw [h3]; omega, fun p' hp' hf => ?_⟩
          rw [h2 p' hp'] at hf
          exact absurd hf (by decide)
        · rw [h1, h4]
          by_cases z : wZ hN sg nl L o set j ≤ wZ hN sg nl L o set p
          · exact Or.inr ⟨p, if_pos z, by omega, h3, by omega, h5⟩
          · refine Or.inr ⟨j, if_neg z, by omega, e, by omega, fun p' hp' hf => ?_⟩
            have := mxP_ge (W := wZ hN sg nl L o set) hf j hp'
            omega
      · rw [if_pos rfl, if_pos rfl]
        rcases ih (by omega) with ⟨h1, h2⟩ | ⟨p, h1, h2, h3, h4, h5⟩
        · refine Or.inl ⟨h1, fun p hp => ?_⟩
          by_cases ep : p = j
          · rw [ep]; exact e
          · exact h2 p (by omega)
        · exact Or.inr ⟨p, h1, by omega, h3, h4, h5⟩
  rcases key nl (Nat.le_refl _) with ⟨h1, h2⟩ | ⟨p, h1, h2, h3, h4, h5⟩
  · rw [h2 p0 hp0] at ep0
    exact absurd ep0 (by decide)
  · have ec : chZ (wZ hN sg nl L o set) set nl = p := by
      unfold chZ
      rw [h1]
    rw [ec]
    exact ⟨h1, h2, h3, h4, h5⟩
def kpR (mo : Int32) (q : Int32 × List Int32) (v : Int32) : Prop := if mo = 0 then q.1 ≤ v else v ≤ q.1
theorem rstp_k {mo : Int32} {q : Int32 × List Int32} {x : List Int32 × Int32} (h : kpR mo q x.2) : rstp mo (some q) x = some q := if_pos h
theorem rstp_n {mo : Int32} {q : Int32 × List Int32} {x : List Int32 × Int32} (h : ¬ kpR mo q x.2) : rstp mo (some q) x = some (x.2, x.1) := if_neg h
theorem kpR_tr {mo : Int32} {q r : Int32 × List Int32} {v : Int32} (h1 : kpR mo q r.1) (h2 : kpR mo r v) : kpR mo q v := by
  unfold kpR at h1 h2 ⊢
  by_cases z : mo = 0
  · rw [if_pos z] at h1 h2 ⊢
    exact Int32.le_trans h1 h2
  · rw [if_neg z] at h1 h2 ⊢
    exact Int32.le_trans h2 h1
theorem kpR_nt {mo : Int32} {q r : Int32 × List Int32} {v : Int32} (h1 : ¬ kpR mo q r.1) (h2 : ¬ kpR mo r v) : ¬ kpR mo q v := by
  unfold kpR at h1 h2 ⊢
  by_cases z : mo = 0
  · rw [if_pos z] at h1 h2 ⊢
    exact fun e => h1 (Int32.le_trans e (Int32.le_of_lt (Int32.not_le.mp h2)))
  · rw [if_neg z] at h1 h2 ⊢
    exact fun e => h1 (Int32.le_trans (Int32.le_of_lt (Int32.not_le.mp h2)) e)
theorem rall_st (mo : Int32) (pre : List Int32) : ∀ (l : List (List Int32 × Int32)) (q : Int32 × List Int32), rall mo pre (some q) l = match rall mo pre none l with
    | none => some q
    | some r => rstp mo (some q) (r.2, r.1) := by
  intro l
  induction l with
  | nil => intro q; rfl
  | cons x l ih =>
    intro q
    have e1 : rall mo pre none (x :: l) = rall mo pre (some (x.2, pre ++ x.1)) l := rfl
    have e2 : rall mo pre (some q) (x :: l) = rall mo pre (rstp mo (some q) (pre ++ x.1, x.2)) l := rfl
    rw [e1, e2, ih (x.2, pre ++ x.1)]
    by_cases k1 : kpR mo q x.2
    · rw [rstp_k (x := (pre ++ x.1, x.2)) k1, ih q]
      cases ht : rall mo pre none l with
      | none => exact (rstp_k (x := (pre ++ x.1, x.2)) k1).symm
      | some t =>
        show rstp mo (some q) (t.2, t.1) = match rstp mo (some (x.2, pre ++ x.1)) (t.2, t.1) with
          | none => some q
          | some r => rstp mo (some q) (r.2, r.1)
        by_cases k2 : kpR mo (x.2, pre ++ x.1) t.1
        · rw [rstp_k (x := (t.2, t.1)) k2]
          show _ = rstp mo (some q) (pre ++ x.1, x.2)
          rw [rstp_k (x := (pre ++ x.1, x.2)) k1, rstp_k (x := (t.2, t.1)) (kpR_tr (r := (x.2, pre ++ x.1)) k1 k2)]
        · rw [rstp_n (x := (t.2, t.1)) k2]
    · rw [rstp_n (x := (pre ++ x.1, x.2)) k1, ih (x.2, pre ++ x.1)]
      cases ht : rall mo pre none l with
      | none => exact (rstp_n (x := (pre ++ x.1, x.2)) k1).symm
      | some t =>
        show rstp mo (some (x.2, pre ++ x.1)) (t.2, t.1) = match rstp mo (some (x.2, pre ++ x.1)) (t.2, t.1) with
          | none => some q
          | some r => rstp mo (some q) (r.2, r.1)
        by_cases k2 : kpR mo (x.2, pre ++ x.1) t.1
        · rw [rstp_k (x := (t.2, t.1)) k2]
          exact (rstp_n (x := (pre ++ x.1, x.2)) k1).symm
        · rw [rstp_n (x := (t.2, t.1)) k2]
          exact (rstp_n (x := (t.2, t.1)) (kpR_nt (r := (x.2, pre ++ x.1)) k1 k2)).symm
def moSg (mo : Int32) (sg : Int) : Prop := (mo = 1 ∧ sg = 1) ∨ (mo = 0 ∧ sg = -1)
theorem kp_W {mo : Int32} {sg S w v : Int} {l : List Int32} (hm : moSg mo sg) (hS : 0 ≤ S ∧ S ≤ 1000) (hw : -10000 ≤ w ∧ w ≤ 10000) (hv : -10000 ≤ v ∧ v ≤ 10000) : kpR mo (iI (S + sg * w), l) (iI (S + sg * v)) ↔ v ≤ w := by
  unfold kpR
  rcases hm with ⟨rfl, rfl⟩ | ⟨rfl, rfl⟩
  · rw [if_neg (by decide), iI_le (by omega) (by omega) (by omega) (by omega)]
    omega
  · rw [if_pos rfl, iI_le (by omega) (by omega) (by omega) (by omega)]
    omega
theorem rall_cat {mo : Int32} {sg S : Int} {W : Nat → Int} {set nl : Nat} {pre : List Int32} {tl : Nat → List Int32} {ff : Nat → List (List Int32 × Int32)} (hm : moSg mo sg) (hS : 0 ≤ S ∧ S ≤ 1000) (hset : set < 64) (hnl : nl ≤ 6) (hW : ∀ p, p < nl → Nat.testBit set p = false → -10000 ≤ W p ∧ W p ≤ 10000)
    (hff : ∀ p, p < nl → Nat.testBit set p = false → rall mo (pre ++ [nI p]) none (ff p) = some (iI (S + sg * W p), pre ++ [nI p] ++ tl p)) : ∀ m p, p + m = nl → (∀ e, stP W set p = some e → e.1 < p ∧ Nat.testBit set e.1 = false ∧ e.2 = W e.1) → rall mo pre ((stP W set p).map (fun e => (iI (S + sg * e.2), pre ++ [nI e.1] ++ tl e.1))) (catR ff (nI set) m p) = (stP W set nl).map (fun e => (iI (S + sg * e.2), pre ++ [nI e.1] ++ tl e.1)) := by
  intro m
  induction m with
  | zero =>
    intro p hp _
    rw [show p = nl by omega]
    rfl
  | succ m ih =>
    intro p hp hst
    have ec : catR ff (nI set) (m + 1) p = (if nI set &&& ybit p = 0 then (ff p).map (fun r => (nI p :: r.1, r.2)) else []) ++ catR ff (nI set) m (p + 1) := rfl
    have es : stP W set (p + 1) = if Nat.testBit set p = true then stP W set p else match stP W set p with
      | none => some (p, W p)
      | some e => if W p ≤ e.2 then some e else some (p, W p) := rfl
    rw [ec, rall_app]
    cases eb : Nat.testBit set p
    · rw [eb, if_neg (by decide)] at es
      rw [if_pos ((bt_and set (by omega) p (by omega)).mpr eb), rall_map]
      have hp2 := hff p (by omega) eb
      have hW2 := hW p (by omega) eb
      cases e0 : stP W set p with
      | none =>
        rw [e0] at es
        have h9 := ih (p + 1) (by omega) (fun e he => by
          rw [es] at he
          cases he
          exact ⟨by omega, eb, rfl⟩)
        rw [es] at h9
        show rall mo pre (rall mo (pre ++ [nI p]) none (ff p)) _ = _
        rw [hp2]
        exact h9
      | some e =>
        obtain ⟨k1, k2, k3⟩ := hst e e0
        rw [e0] at es
        have hW3 := hW e.1 (by omega) k2
        show rall mo pre (rall mo (pre ++ [nI p]) (some (iI (S + sg * e.2), pre ++ [nI e.1] ++ tl e.1)) (ff p)) _ = _
        rw [rall_st, hp2]
        show rall mo pre (rstp mo (some (iI (S + sg * e.2), pre ++ [nI e.1] ++ tl e.1)) (pre ++ [nI p] ++ tl p, iI (S + sg * W p))) _ = _
        have hk := kp_W (l := pre ++ [nI e.1] ++ tl e.1) (w := e.2) (v := W p) hm hS (by rw [k3]; exact hW3) hW2
        by_cases z : W p ≤ e.2
        · have es2 : stP W set (p + 1) = some e := es.trans (if_pos z)
          have h9 := ih (p + 1) (by omega) (fun e' he => by
            rw [es2] at he
            cases he
            exact ⟨by omega, k2, k3⟩)
          rw [es2] at h9
          rw [rstp_k (x := (pre ++ [nI p] ++ tl p, iI (S + sg * W p))) (hk.mpr z)]
          exact h9
        · have es2 : stP W set (p + 1) = some (p, W p) := es.trans (if_neg z)
          have h9 := ih (p + 1) (by omega) (fun e' he => by
            rw [es2] at he
            cases he
            exact ⟨by omega, eb, rfl⟩)
          rw [es2] at h9
          rw [rstp_n (x := (pre ++ [nI p] ++ tl p, iI (S + sg * W p))) (fun y => z (hk.mp y))]
          exact h9
    · rw [eb, if_pos rfl] at es
      rw [if_neg (fun y => by rw [(bt_and set (by omega) p (by omega)).mp y] at eb; exact absurd eb (by decide))]
      have h9 := ih (p + 1) (by omega) (fun e he => by
        rw [es] at he
        obtain ⟨k1, k2, k3⟩ := hst e he
        exact ⟨by omega, k2, k3⟩)
      rw [es] at h9
      exact h9
theorem rall_dp {mo : Int32} {sg : Int} {hf : Nat → Nat → Int32} {hN : Nat → Nat → Int} {nl : Nat} (hm : moSg mo sg) (hnl : nl ≤ 6) (hH : ∀ o p, 0 ≤ hN o p ∧ hN o p ≤ 9) (hh : ∀ o p, hf o p = iI (hN o p)) : ∀ L o set S pre, L ≤ 7 → set < 2 ^ nl → L ≤ frc set nl → 0 ≤ S → S + 9 * (L : Int) ≤ 900 → rall mo pre none (rgive hf nl L o (nI set) (iI S)) = some (iI (S + sg * dpZ hN sg nl L o set), pre ++ (pthZ hN sg nl L o set).map nI) := by
  have hs : sg = 1 ∨ sg = -1 := hm.elim (fun h => Or.inl h.2) (fun h => Or.inr h.2)
  intro L
  induction L with
  | zero =>
    intro o set S pre _ _ _ _ _
    show some (iI S, pre ++ []) = some (iI (S + sg * 0), pre ++ [])
    rw [Int.mul_zero, Int.add_zero]
  | succ L ih =>
    intro o set S pre hL hset hf0 hS hS9
    have h64 : 2 ^ nl ≤ 2 ^ 6 := Nat.pow_le_pow_right (by decide) hnl
    obtain ⟨c1, c2, c3, c4, c5⟩ := chZ_sp (o := o) hH hs (show L ≤ 7 by omega) hf0
    have hfree : ∀ p, p < nl → Nat.testBit set p = false → L ≤ frc (set ||| 2 ^ p) nl := fun p hp _ => by
      have h3 := frc_or set p nl
      rw [if_pos hp] at h3
      omega
    have hlt : ∀ p, p < nl → set ||| 2 ^ p < 2 ^ nl := fun p hp => Nat.or_lt_two_pow hset (Nat.pow_lt_pow_right (by decide) hp)
    have hW : ∀ p, p < nl → Nat.testBit set p = false → -10000 ≤ wZ hN sg nl L o set p ∧ wZ hN sg nl L o set p ≤ 10000 := fun p hp ep => by
      have h2 := hH o p
      have h3 := (dpZ_bd (nl := nl) hH hs L (o + 1) (set ||| 2 ^ p)).2
      have h4 := dpZ_lo hH hs L (o + 1) (set ||| 2 ^ p) (hfree p hp ep)
      show -10000 ≤ sg * hN o p + dpZ hN sg nl L (o + 1) (set ||| 2 ^ p) ∧ sg * hN o p + dpZ hN sg nl L (o + 1) (set ||| 2 ^ p) ≤ 10000
      rcases hs with rfl | rfl
      · omega
      · omega
    have main := rall_cat (mo := mo) (sg := sg) (S := S) (W := wZ hN sg nl L o set) (set := set) (nl := nl) (pre := pre) (tl := fun p => (pthZ hN sg nl L (o + 1) (set ||| 2 ^ p)).map nI) (ff := fun p => rgive hf nl L (o + 1) (nI set ||| ybit p) (iI S + hf o p)) hm ⟨hS, by omega⟩ (by omega) hnl hW (fun p hp ep => by
      have h2 := hH o p
      have h9 := ih (o + 1) (set ||| 2 ^ p) (S + hN o p) (pre ++ [nI p]) (by omega) (hlt p hp) (hfree p hp ep) (by omega) (by omega)
      show rall mo (pre ++ [nI p]) none (rgive hf nl L (o + 1) (nI set ||| ybit p) (iI S + hf o p)) = _
      rw [or_p set (by omega) p (by omega), hh, iI_add, h9]
      have e9 : S + hN o p + sg * dpZ hN sg nl L (o + 1) (set ||| 2 ^ p) = S + sg * wZ hN sg nl L o set p := by
        show _ = S + sg * (sg * hN o p + dpZ hN sg nl L (o + 1) (set ||| 2 ^ p))
        rcases hs with rfl | rfl
        · omega
        · omega
      rw [e9]) nl 0 (by omega) (fun e he => by cases he)
    have er : rgive hf nl (L + 1) o (nI set) (iI S) = catR (fun p => rgive hf nl L (o + 1) (nI set ||| ybit p) (iI S + hf o p)) (nI set) nl 0 := rfl
    rw [er]
    refine Eq.trans main ?_
    rw [c1]
    show some (iI (S + sg * wZ hN sg nl L o set (chZ (wZ hN sg nl L o set) set nl)), pre ++ [nI (chZ (wZ hN sg nl L o set) set nl)] ++ (pthZ hN sg nl L (o + 1) (set ||| 2 ^ chZ (wZ hN sg nl L o set) set nl)).map nI) = _
    rw [c4, List.append_assoc]
    rfl
theorem frc_0 : ∀ j, frc 0 j = j := by
  intro j
  induction j with
  | zero => rfl
  | succ j ih =>
    unfold frc
    rw [ih, if_neg (by rw [Nat.zero_testBit]; decide)]
def mkZ (hN : Nat → Nat → Int) (sg : Int) (nl n : Nat) : Nat → Nat
  | 0 => 0
  | q + 1 => mkZ hN sg nl n q ||| 2 ^ chZ (wZ hN sg nl (n - (q + 1)) q (mkZ hN sg nl n q)) (mkZ hN sg nl n q) nl
def ccZ (hN : Nat → Nat → Int) (sg : Int) (nl n q : Nat) : Nat := chZ (wZ hN sg nl (n - (q + 1)) q (mkZ hN sg nl n q)) (mkZ hN sg nl n q) nl
theorem mkZ_sp {hN : Nat → Nat → Int} {sg : Int} {nl n : Nat} (hH : ∀ o p, 0 ≤ hN o p ∧ hN o p ≤ 9) (hs : sg = 1 ∨ sg = -1) (hn : n ≤ 7) (hnl : n ≤ nl) : ∀ q, q ≤ n → n - q ≤ frc (mkZ hN sg nl n q) nl ∧ mkZ hN sg nl n q < 2 ^ nl := by
  intro q
  induction q with
  | zero =>
    intro _
    refine ⟨?_, Nat.two_pow_pos nl⟩
    show n - 0 ≤ frc 0 nl
    rw [frc_0]
    omega
  | succ q ih =>
    intro hq
    obtain ⟨h1, h2⟩ := ih (by omega)
    obtain ⟨c1, c2, c3, c4, c5⟩ := chZ_sp (hN := hN) (sg := sg) (nl := nl) (L := n - (q + 1)) (o := q) (set := mkZ hN sg nl n q) hH hs (by omega) (by omega)
    have h3 := frc_or (mkZ hN sg nl n q) (chZ (wZ hN sg nl (n - (q + 1)) q (mkZ hN sg nl n q)) (mkZ hN sg nl n q) nl) nl
    rw [if_pos c2] at h3
    refine ⟨?_, Nat.or_lt_two_pow h2 (Nat.pow_lt_pow_right (by decide) c2)⟩
    show n - (q + 1) ≤ frc (mkZ hN sg nl n q ||| 2 ^ chZ (wZ hN sg nl (n - (q + 1)) q (mkZ hN sg nl n q)) (mkZ hN sg nl n q) nl) nl
    omega
theorem pth_cc {hN : Nat → Nat → Int} {sg : Int} {nl n : Nat} : ∀ i q, q + i < n → (pthZ hN sg nl (n - q) q (mkZ hN sg nl n q))[i]? = some (ccZ hN sg nl n (q + i)) := by
  intro i
  induction i with
  | zero =>
    intro q hq
    rw [show n - q = (n - (q + 1)) + 1 by omega]
    rfl
  | succ i ih =>
    intro q hq
    have h9 := ih (q + 1) (by omega)
    rw [show n - q = (n - (q + 1)) + 1 by omega, show q + (i + 1) = q + 1 + i by omega, ← h9]
    rfl
theorem pth_len {hN : Nat → Nat → Int} {sg : Int} {nl : Nat} : ∀ L o set, (pthZ hN sg nl L o set).length = L := by
  intro L
  induction L with
  | zero => intro o set; rfl
  | succ L ih =>
    intro o set
    show (pthZ hN sg nl L (o + 1) _).length + 1 = _
    rw [ih]
