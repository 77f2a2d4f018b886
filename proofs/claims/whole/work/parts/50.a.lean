/-! ===== the class's state ===== -/
abbrev Fk := (Nat → Int32) × (Nat → Int32) × (Nat → Int32) × Nat × Int32
abbrev Fk.A (q : Fk) : Nat → Int32 := q.1
abbrev Fk.P (q : Fk) : Nat → Int32 := q.2.1
abbrev Fk.S (q : Fk) : Nat → Int32 := q.2.2.1
abbrev Fk.n (q : Fk) : Nat := q.2.2.2.1
abbrev Fk.day (q : Fk) : Int32 := q.2.2.2.2
def isFk (hp : xHp) (f : Nat) (q : Fk) : Prop := isFolk hp f q.A q.P q.S (nI q.n) q.day ∧ q.n ≤ 7
theorem isFk_ag {hp hq : xHp} {X : List Nat} {f : Nat} {q : Fk} (ha : xAg hp hq X) (hx : ∀ k ∈ X, k < f ∨ f + 3 < k) (h : isFk hp f q) : isFk hq f q := ⟨isFolk_ag ha hx h.1, h.2⟩
abbrev St := (Nat → Int32) × (Nat) × (Nat → Int64) × (Nat) × (Nat → Int32) × (Nat → Int32) × (Nat) × (Int32) × ((Nat → Int32) → Int32) × (Fk) × (Nat → Fk) × (Nat) × (Nat) × (Nat → Fk) × (Nat → Int32) × (Nat → Int32) × (Nat → Int32) × (Nat) × (Nat → Int32) × (Nat → Int32) × (Nat)
abbrev St.T (s : St) : Nat → Int32 := s.1
abbrev St.nt (s : St) : Nat := s.2.1
abbrev St.R (s : St) : Nat → Int64 := s.2.2.1
abbrev St.nr (s : St) : Nat := s.2.2.2.1
abbrev St.lg (s : St) : Nat → Int32 := s.2.2.2.2.1
abbrev St.sk (s : St) : Nat → Int32 := s.2.2.2.2.2.1
abbrev St.nl (s : St) : Nat := s.2.2.2.2.2.2.1
abbrev St.tu (s : St) : Int32 := s.2.2.2.2.2.2.2.1
abbrev St.V (s : St) : (Nat → Int32) → Int32 := s.2.2.2.2.2.2.2.2.1
abbrev St.now (s : St) : Fk := s.2.2.2.2.2.2.2.2.2.1
abbrev St.ring (s : St) : Nat → Fk := s.2.2.2.2.2.2.2.2.2.2.1
abbrev St.nx (s : St) : Nat := s.2.2.2.2.2.2.2.2.2.2.2.1
abbrev St.ac (s : St) : Nat := s.2.2.2.2.2.2.2.2.2.2.2.2.1
abbrev St.shelf (s : St) : Nat → Fk := s.2.2.2.2.2.2.2.2.2.2.2.2.2.1
abbrev St.fl (s : St) : Nat → Int32 := s.2.2.2.2.2.2.2.2.2.2.2.2.2.2.1
abbrev St.s1 (s : St) : Nat → Int32 := s.2.2.2.2.2.2.2.2.2.2.2.2.2.2.2.1
abbrev St.s2 (s : St) : Nat → Int32 := s.2.2.2.2.2.2.2.2.2.2.2.2.2.2.2.2.1
abbrev St.sn (s : St) : Nat := s.2.2.2.2.2.2.2.2.2.2.2.2.2.2.2.2.2.1
abbrev St.r1 (s : St) : Nat → Int32 := s.2.2.2.2.2.2.2.2.2.2.2.2.2.2.2.2.2.2.1
abbrev St.r2 (s : St) : Nat → Int32 := s.2.2.2.2.2.2.2.2.2.2.2.2.2.2.2.2.2.2.2.1
abbrev St.rn (s : St) : Nat := s.2.2.2.2.2.2.2.2.2.2.2.2.2.2.2.2.2.2.2.2
abbrev St.wText (s : St) (zT : Nat → Int32) (znt : Nat) : St := (zT, znt, s.R, s.nr, s.lg, s.sk, s.nl, s.tu, s.V, s.now, s.ring, s.nx, s.ac, s.shelf, s.fl, s.s1, s.s2, s.sn, s.r1, s.r2, s.rn)
abbrev St.wRow (s : St) (zR : Nat → Int64) (znr : Nat) : St := (s.T, s.nt, zR, znr, s.lg, s.sk, s.nl, s.tu, s.V, s.now, s.ring, s.nx, s.ac, s.shelf, s.fl, s.s1, s.s2, s.sn, s.r1, s.r2, s.rn)
abbrev St.wLand (s : St) (zlg : Nat → Int32) (znl : Nat) : St := (s.T, s.nt, s.R, s.nr, zlg, s.sk, znl, s.tu, s.V, s.now, s.ring, s.nx, s.ac, s.shelf, s.fl, s.s1, s.s2, s.sn, s.r1, s.r2, s.rn)
abbrev St.wSkies (s : St) (zsk : Nat → Int32) (ztu : Int32) : St := (s.T, s.nt, s.R, s.nr, s.lg, zsk, s.nl, ztu, s.V, s.now, s.ring, s.nx, s.ac, s.shelf, s.fl, s.s1, s.s2, s.sn, s.r1, s.r2, s.rn)
abbrev St.wRule (s : St) (zV : (Nat → Int32) → Int32) : St := (s.T, s.nt, s.R, s.nr, s.lg, s.sk, s.nl, s.tu, zV, s.now, s.ring, s.nx, s.ac, s.shelf, s.fl, s.s1, s.s2, s.sn, s.r1, s.r2, s.rn)
abbrev St.wNow (s : St) (znow : Fk) : St := (s.T, s.nt, s.R, s.nr, s.lg, s.sk, s.nl, s.tu, s.V, znow, s.ring, s.nx, s.ac, s.shelf, s.fl, s.s1, s.s2, s.sn, s.r1, s.r2, s.rn)
abbrev St.wPast (s : St) (zring : Nat → Fk) (znx : Nat) (zac : Nat) : St := (s.T, s.nt, s.R, s.nr, s.lg, s.sk, s.nl, s.tu, s.V, s.now, zring, znx, zac, s.shelf, s.fl, s.s1, s.s2, s.sn, s.r1, s.r2, s.rn)
abbrev St.wShelf (s : St) (zshelf : Nat → Fk) (zfl : Nat → Int32) : St := (s.T, s.nt, s.R, s.nr, s.lg, s.sk, s.nl, s.tu, s.V, s.now, s.ring, s.nx, s.ac, zshelf, zfl, s.s1, s.s2, s.sn, s.r1, s.r2, s.rn)
abbrev St.wSeen (s : St) (zs1 : Nat → Int32) (zs2 : Nat → Int32) (zsn : Nat) : St := (s.T, s.nt, s.R, s.nr, s.lg, s.sk, s.nl, s.tu, s.V, s.now, s.ring, s.nx, s.ac, s.shelf, s.fl, zs1, zs2, zsn, s.r1, s.r2, s.rn)
abbrev St.wHeard (s : St) (zr1 : Nat → Int32) (zr2 : Nat → Int32) (zrn : Nat) : St := (s.T, s.nt, s.R, s.nr, s.lg, s.sk, s.nl, s.tu, s.V, s.now, s.ring, s.nx, s.ac, s.shelf, s.fl, s.s1, s.s2, s.sn, zr1, zr2, zrn)
def isSo (hp : xHp) (lot : Int32) : Prop := hp.1 0 = .inr (0, [.ref 1, .ref 3, .ref 5, .ref 8, .ref 11, .ref 14, .ref 16, .ref 20, .ref 24, .ref 28, .ref 88, .ref 91, .ref 94, .ref 97, .ref 101, .ref 102, .int lot])
def isCl (hp : xHp) (s : St) : Prop := (∃ lot, isSo hp lot) ∧ (isText hp 1 s.T (nI s.nt) ∧ s.nt ≤ 80) ∧ (isRow hp 3 s.R (nI s.nr) ∧ s.nr ≤ 16) ∧ (isEnv hp s.V s.lg s.sk s.nl s.tu) ∧ (∃ code S n nx, isRule hp 11 code S n nx) ∧ (isFk hp 16 s.now) ∧ (∃ q, isFk hp 20 q) ∧ (∃ q, isFk hp 24 q) ∧ (isPast hp (nI s.nx) (nI s.ac) s.fl ∧ s.nx < 12 ∧ s.ac ≤ 12) ∧ (∀ i, i < 12 → isFk hp (32 + 4 * i) (s.ring i)) ∧ (∀ i, i < 2 → isFk hp (80 + 4 * i) (s.shelf i)) ∧ (isClues hp 88 10 s.s1 s.s2 (nI s.sn) ∧ s.sn ≤ 10) ∧ (isClues hp 91 12 s.r1 s.r2 (nI s.rn) ∧ s.rn ≤ 12) ∧ (∃ pa le one goal len found, isWalk hp pa le one goal len found) ∧ (∃ H G B gu bs mo an, isRoom hp H G B gu bs mo an) ∧ (∃ one te go, isCh hp one te go) ∧ (∃ g, hp.1 102 = .inl (.int, 100, .inl g))
theorem isCl.so {hp : xHp} {s : St} (h : isCl hp s) : ∃ lot, isSo hp lot := h.1
theorem isCl.tx {hp : xHp} {s : St} (h : isCl hp s) : isText hp 1 s.T (nI s.nt) ∧ s.nt ≤ 80 := h.2.1
theorem isCl.rw {hp : xHp} {s : St} (h : isCl hp s) : isRow hp 3 s.R (nI s.nr) ∧ s.nr ≤ 16 := h.2.2.1
theorem isCl.ev {hp : xHp} {s : St} (h : isCl hp s) : isEnv hp s.V s.lg s.sk s.nl s.tu := h.2.2.2.1
theorem isCl.pr {hp : xHp} {s : St} (h : isCl hp s) : ∃ code S n nx, isRule hp 11 code S n nx := h.2.2.2.2.1
theorem isCl.nw {hp : xHp} {s : St} (h : isCl hp s) : isFk hp 16 s.now := h.2.2.2.2.2.1
theorem isCl.th {hp : xHp} {s : St} (h : isCl hp s) : ∃ q, isFk hp 20 q := h.2.2.2.2.2.2.1
theorem isCl.be {hp : xHp} {s : St} (h : isCl hp s) : ∃ q, isFk hp 24 q := h.2.2.2.2.2.2.2.1
theorem isCl.pa {hp : xHp} {s : St} (h : isCl hp s) : isPast hp (nI s.nx) (nI s.ac) s.fl ∧ s.nx < 12 ∧ s.ac ≤ 12 := h.2.2.2.2.2.2.2.2.1
theorem isCl.rg {hp : xHp} {s : St} (h : isCl hp s) : ∀ i, i < 12 → isFk hp (32 + 4 * i) (s.ring i) := h.2.2.2.2.2.2.2.2.2.1
theorem isCl.sh {hp : xHp} {s : St} (h : isCl hp s) : ∀ i, i < 2 → isFk hp (80 + 4 * i) (s.shelf i) := h.2.2.2.2.2.2.2.2.2.2.1
theorem isCl.se {hp : xHp} {s : St} (h : isCl hp s) : isClues hp 88 10 s.s1 s.s2 (nI s.sn) ∧ s.sn ≤ 10 := h.2.2.2.2.2.2.2.2.2.2.2.1
theorem isCl.ru {hp : xHp} {s : St} (h : isCl hp s) : isClues hp 91 12 s.r1 s.r2 (nI s.rn) ∧ s.rn ≤ 12 := h.2.2.2.2.2.2.2.2.2.2.2.2.1
theorem isCl.wk {hp : xHp} {s : St} (h : isCl hp s) : ∃ pa le one goal len found, isWalk hp pa le one goal len found := h.2.2.2.2.2.2.2.2.2.2.2.2.2.1
theorem isCl.rm {hp : xHp} {s : St} (h : isCl hp s) : ∃ H G B gu bs mo an, isRoom hp H G B gu bs mo an := h.2.2.2.2.2.2.2.2.2.2.2.2.2.2.1
theorem isCl.ch {hp : xHp} {s : St} (h : isCl hp s) : ∃ one te go, isCh hp one te go := h.2.2.2.2.2.2.2.2.2.2.2.2.2.2.2.1
theorem isCl.ta {hp : xHp} {s : St} (h : isCl hp s) : ∃ g, hp.1 102 = .inl (.int, 100, .inl g) := h.2.2.2.2.2.2.2.2.2.2.2.2.2.2.2.2
theorem isCl_mk {hp : xHp} {s : St} (zso : ∃ lot, isSo hp lot) (ztx : isText hp 1 s.T (nI s.nt) ∧ s.nt ≤ 80) (zrw : isRow hp 3 s.R (nI s.nr) ∧ s.nr ≤ 16) (zev : isEnv hp s.V s.lg s.sk s.nl s.tu) (zpr : ∃ code S n nx, isRule hp 11 code S n nx) (znw : isFk hp 16 s.now) (zth : ∃ q, isFk hp 20 q) (zbe : ∃ q, isFk hp 24 q) (zpa : isPast hp (nI s.nx) (nI s.ac) s.fl ∧ s.nx < 12 ∧ s.ac ≤ 12) (zrg : ∀ i, i < 12 → isFk hp (32 + 4 * i) (s.ring i)) (zsh : ∀ i, i < 2 → isFk hp (80 + 4 * i) (s.shelf i)) (zse : isClues hp 88 10 s.s1 s.s2 (nI s.sn) ∧ s.sn ≤ 10) (zru : isClues hp 91 12 s.r1 s.r2 (nI s.rn) ∧ s.rn ≤ 12) (zwk : ∃ pa le one goal len found, isWalk hp pa le one goal len found) (zrm : ∃ H G B gu bs mo an, isRoom hp H G B gu bs mo an) (zch : ∃ one te go, isCh hp one te go) (zta : ∃ g, hp.1 102 = .inl (.int, 100, .inl g)) : isCl hp s := ⟨zso, ztx, zrw, zev, zpr, znw, zth, zbe, zpa, zrg, zsh, zse, zru, zwk, zrm, zch, zta⟩
section AG
variable {hp hq : xHp} {X : List Nat} {s : St}
theorem so_ag (ha : xAg hp hq X) (hx : 0 ∉ X) (h : ∃ lot, isSo hp lot) : ∃ lot, isSo hq lot := by
  obtain ⟨lot, h⟩ := h
  exact ⟨lot, xAg_at ha hx h⟩
theorem tx_ag {T : Nat → Int32} {n : Nat} (ha : xAg hp hq X) (hx : ∀ k ∈ X, k < 1 ∨ 2 < k) (h : isText hp 1 T (nI n) ∧ n ≤ 80) : isText hq 1 T (nI n) ∧ n ≤ 80 := ⟨isText_ag ha (fun k hk => by have := hx k hk; omega) h.1, h.2⟩
theorem rw_ag {R : Nat → Int64} {n : Nat} (ha : xAg hp hq X) (hx : ∀ k ∈ X, k < 3 ∨ 4 < k) (h : isRow hp 3 R (nI n) ∧ n ≤ 16) : isRow hq 3 R (nI n) ∧ n ≤ 16 := ⟨isRow_ag ha (fun k hk => by have := hx k hk; omega) h.1, h.2⟩
theorem pr_ag (ha : xAg hp hq X) (hx : ∀ k ∈ X, k < 11 ∨ 13 < k) (h : ∃ code S n nx, isRule hp 11 code S n nx) : ∃ code S n nx, isRule hq 11 code S n nx := by
  obtain ⟨code, S, n, nx, h⟩ := h
  exact ⟨code, S, n, nx, xAg_at ha (fun z => by have := hx _ z; omega) h.1, xAg_at ha (fun z => by have := hx _ z; omega) h.2.1, xAg_at ha (fun z => by have := hx _ z; omega) h.2.2⟩
theorem fk_ag {f : Nat} (ha : xAg hp hq X) (hx : ∀ k ∈ X, k < f ∨ f + 3 < k) (h : ∃ q, isFk hp f q) : ∃ q, isFk hq f q := by
  obtain ⟨q, h⟩ := h
  exact ⟨q, isFk_ag ha hx h⟩
theorem pa_ag {nx ac : Nat} {fl : Nat → Int32} (ha : xAg hp hq X) (hx : ∀ k ∈ X, k < 28 ∨ 31 < k) (h : isPast hp (nI nx) (nI ac) fl ∧ nx < 12 ∧ ac ≤ 12) : isPast hq (nI nx) (nI ac) fl ∧ nx < 12 ∧ ac ≤ 12 := ⟨isPast_ag ha hx h.1, h.2⟩
theorem rg_ag {ring : Nat → Fk} (ha : xAg hp hq X) (hx : ∀ k ∈ X, k < 32 ∨ 79 < k) (h : ∀ i, i < 12 → isFk hp (32 + 4 * i) (ring i)) : ∀ i, i < 12 → isFk hq (32 + 4 * i) (ring i) := fun i hi => isFk_ag ha (fun k hk => by have := hx k hk; omega) (h i hi)
theorem sh_ag {ring : Nat → Fk} (ha : xAg hp hq X) (hx : ∀ k ∈ X, k < 80 ∨ 87 < k) (h : ∀ i, i < 2 → isFk hp (80 + 4 * i) (ring i)) : ∀ i, i < 2 → isFk hq (80 + 4 * i) (ring i) := fun i hi => isFk_ag ha (fun k hk => by have := hx k hk; omega) (h i hi)
theorem cl_ag {c : Nat} {mo : Int32} {a b : Nat → Int32} {n m : Nat} (ha : xAg hp hq X) (hx : ∀ k ∈ X, k < c ∨ c + 2 < k) (h : isClues hp c mo a b (nI n) ∧ n ≤ m) : isClues hq c mo a b (nI n) ∧ n ≤ m := ⟨isClues_ag ha hx h.1, h.2⟩
theorem wk_ag (ha : xAg hp hq X) (hx : ∀ k ∈ X, k < 94 ∨ 96 < k) (h : ∃ pa le one goal len found, isWalk hp pa le one goal len found) : ∃ pa le one goal len found, isWalk hq pa le one goal len found := by
  obtain ⟨pa, le, one, goal, len, found, h⟩ := h
  exact ⟨pa, le, one, goal, len, found, isWalk_ag ha hx h⟩
theorem rm_ag (ha : xAg hp hq X) (hx : ∀ k ∈ X, k < 97 ∨ 100 < k) (h : ∃ H G B gu bs mo an, isRoom hp H G B gu bs mo an) : ∃ H G B gu bs mo an, isRoom hq H G B gu bs mo an := by
  obtain ⟨H, G, B, gu, bs, mo, an, h⟩ := h
  exact ⟨H, G, B, gu, bs, mo, an, isRoom_ag ha hx h⟩
theorem ch_ag (ha : xAg hp hq X) (hx : 101 ∉ X) (h : ∃ one te go, isCh hp one te go) : ∃ one te go, isCh hq one te go := by
  obtain ⟨one, te, go, h⟩ := h
  exact ⟨one, te, go, isCh_ag ha hx h⟩
theorem ta_ag (ha : xAg hp hq X) (hx : 102 ∉ X) (h : ∃ g, hp.1 102 = .inl (.int, 100, .inl g)) : ∃ g, hq.1 102 = .inl (.int, 100, .inl g) := by
  obtain ⟨g, h⟩ := h
  exact ⟨g, xAg_at ha hx h⟩
end AG
section SO1
variable {l : Launch} {d b lo gz : Nat} {hp : xHp} {s : St} {v n : Int32}
theorem c_So_sign {K : Int32 → xHp → Prop} (h : isCl hp s)
    (hK0 : 76 < s.nt → K (-1) hp)
    (hK : s.nt ≤ 76 → ∀ hq, xAg hp hq [1, 2] → isCl hq (s.wText (upd (upd (upd (upd s.T s.nt (ysh v 24)) (s.nt + 1) (ysh v 16)) (s.nt + 2) (ysh v 8)) (s.nt + 3) (ysh v 0)) (s.nt + 4)) → K (nI (s.nt + 4)) hq) : xMi l (d + 3) b lo gz m_So_sign [.ref 0, .int v] hp K := by
  obtain ⟨lot, o0⟩ := h.so
  have o1 : hp.1 0 = _ := o0
  have t0 := h.tx.1.1
  refine xMC_V ok_So_sign (by decide) (L0 := [.ref 0, .int v]) rfl rfl ?_
  simp only [s_So_sign_0, s_So_sign_1, s_So_sign_4, s_So_sign_5, s_So_sign_8, s_So_sign_11, s_So_sign_12, s_So_sign_15, s_So_sign_18, s_So_sign_21, s_So_sign_22, xg_0, xg_s, xF_up, xPf_up, xO_up, xAi_up, xAl_up, xLn_up, xup_xup, ty_i, ty_b, ty_z, ty_l, ty_q, tb_b, tb_z, xup_2, xpI_s, xpL_s, xpV_s, xpQ_n, xpQ_r, yl_0, yl_1, yl_2, yl_3, yl_4, yl_5, yl_6, xcs_nil, xcs_i, xcs_a, xcs_l, xcs_n, xNl_z, xNl_s, xNl_i, xNl_a, xNl_n, xNl_d, cat_i, cat_a, cat_n, List.getElem?_cons_zero, List.getElem?_cons_succ, List.set_cons_zero, List.set_cons_succ, List.length_cons, List.length_nil, true_and, and_true, eq_self, ite_true, ite_false, if_true, if_false, or_true, true_or, or_false, false_or, Nat.reduceAdd, Nat.reduceLT, Nat.reduceLeDiff, Nat.reduceEqDiff, Nat.reduceSub, ↓reduceIte, reduceCtorEq, not_false_eq_true, not_true_eq_false, false_implies, true_implies, forall_const, imp_self, implies_true, Nat.add_left_cancel_iff, Nat.left_eq_add, Nat.add_eq_left, Nat.zero_lt_succ, Nat.lt_add_left_iff_pos, one_ne_zero_n, zero_ne_one_n, zero_ne_one_i, one_ne_zero_i, xF_r o1, xPf_r o1, xO_r o1, xF_r t0, xPf_r t0, xO_r t0]
  refine c_Text_addFour h.tx.1 rfl h.tx.2 (fun hc => ?_) (fun hc hq ha ht => ?_)
  · try simp only [s_So_sign_0, s_So_sign_1, s_So_sign_4, s_So_sign_5, s_So_sign_8, s_So_sign_11, s_So_sign_12, s_So_sign_15, s_So_sign_18, s_So_sign_21, s_So_sign_22, xg_0, xg_s, xF_up, xPf_up, xO_up, xAi_up, xAl_up, xLn_up, xup_xup, ty_i, ty_b, ty_z, ty_l, ty_q, tb_b, tb_z, xup_2, xpI_s, xpL_s, xpV_s, xpQ_n, xpQ_r, yl_0, yl_1, yl_2, yl_3, yl_4, yl_5, yl_6, xcs_nil, xcs_i, xcs_a, xcs_l, xcs_n, xNl_z, xNl_s, xNl_i, xNl_a, xNl_n, xNl_d, cat_i, cat_a, cat_n, List.getElem?_cons_zero, List.getElem?_cons_succ, List.set_cons_zero, List.set_cons_succ, List.length_cons, List.length_nil, true_and, and_true, eq_self, ite_true, ite_false, if_true, if_false, or_true, true_or, or_false, false_or, Nat.reduceAdd, Nat.reduceLT, Nat.reduceLeDiff, Nat.reduceEqDiff, Nat.reduceSub, ↓reduceIte, reduceCtorEq, not_false_eq_true, not_true_eq_false, false_implies, true_implies, forall_const, imp_self, implies_true, Nat.add_left_cancel_iff, Nat.left_eq_add, Nat.add_eq_left, Nat.zero_lt_succ, Nat.lt_add_left_iff_pos, one_ne_zero_n, zero_ne_one_n, zero_ne_one_i, one_ne_zero_i]
    exact hK0 hc
  · have q1 : hq.1 0 = _ := xAg_at ha (by simp) o1
    have q0 := ht.1
    try simp only [s_So_sign_0, s_So_sign_1, s_So_sign_4, s_So_sign_5, s_So_sign_8, s_So_sign_11, s_So_sign_12, s_So_sign_15, s_So_sign_18, s_So_sign_21, s_So_sign_22, xg_0, xg_s, xF_up, xPf_up, xO_up, xAi_up, xAl_up, xLn_up, xup_xup, ty_i, ty_b, ty_z, ty_l, ty_q, tb_b, tb_z, xup_2, xpI_s, xpL_s, xpV_s, xpQ_n, xpQ_r, yl_0, yl_1, yl_2, yl_3, yl_4, yl_5, yl_6, xcs_nil, xcs_i, xcs_a, xcs_l, xcs_n, xNl_z, xNl_s, xNl_i, xNl_a, xNl_n, xNl_d, cat_i, cat_a, cat_n, List.getElem?_cons_zero, List.getElem?_cons_succ, List.set_cons_zero, List.set_cons_succ, List.length_cons, List.length_nil, true_and, and_true, eq_self, ite_true, ite_false, if_true, if_false, or_true, true_or, or_false, false_or, Nat.reduceAdd, Nat.reduceLT, Nat.reduceLeDiff, Nat.reduceEqDiff, Nat.reduceSub, ↓reduceIte, reduceCtorEq, not_false_eq_true, not_true_eq_false, false_implies, true_implies, forall_const, imp_self, implies_true, Nat.add_left_cancel_iff, Nat.left_eq_add, Nat.add_eq_left, Nat.zero_lt_succ, Nat.lt_add_left_iff_pos, one_ne_zero_n, zero_ne_one_n, zero_ne_one_i, one_ne_zero_i, xF_r q1, xPf_r q1, xO_r q1, xF_r q0, xPf_r q0, xO_r q0]
    refine c_Text_length ht ?_
    try simp only [s_So_sign_0, s_So_sign_1, s_So_sign_4, s_So_sign_5, s_So_sign_8, s_So_sign_11, s_So_sign_12, s_So_sign_15, s_So_sign_18, s_So_sign_21, s_So_sign_22, xg_0, xg_s, xF_up, xPf_up, xO_up, xAi_up, xAl_up, xLn_up, xup_xup, ty_i, ty_b, ty_z, ty_l, ty_q, tb_b, tb_z, xup_2, xpI_s, xpL_s, xpV_s, xpQ_n, xpQ_r, yl_0, yl_1, yl_2, yl_3, yl_4, yl_5, yl_6, xcs_nil, xcs_i, xcs_a, xcs_l, xcs_n, xNl_z, xNl_s, xNl_i, xNl_a, xNl_n, xNl_d, cat_i, cat_a, cat_n, List.getElem?_cons_zero, List.getElem?_cons_succ, List.set_cons_zero, List.set_cons_succ, List.length_cons, List.length_nil, true_and, and_true, eq_self, ite_true, ite_false, if_true, if_false, or_true, true_or, or_false, false_or, Nat.reduceAdd, Nat.reduceLT, Nat.reduceLeDiff, Nat.reduceEqDiff, Nat.reduceSub, ↓reduceIte, reduceCtorEq, not_false_eq_true, not_true_eq_false, false_implies, true_implies, forall_const, imp_self, implies_true, Nat.add_left_cancel_iff, Nat.left_eq_add, Nat.add_eq_left, Nat.zero_lt_succ, Nat.lt_add_left_iff_pos, one_ne_zero_n, zero_ne_one_n, zero_ne_one_i, one_ne_zero_i]
    exact hK hc hq ha (isCl_mk (so_ag ha (by simp) h.so) (⟨ht, by show s.nt + 4 ≤ 80; omega⟩) (rw_ag ha (by simp) h.rw) (isEnv_ag ha (by simp) h.ev) (pr_ag ha (by simp) h.pr) (isFk_ag ha (by simp) h.nw) (fk_ag ha (by simp) h.th) (fk_ag ha (by simp) h.be) (pa_ag ha (by simp) h.pa) (rg_ag ha (by simp) h.rg) (sh_ag ha (by simp) h.sh) (cl_ag ha (by simp) h.se) (cl_ag ha (by simp) h.ru) (wk_ag ha (by simp) h.wk) (rm_ag ha (by simp) h.rm) (ch_ag ha (by simp) h.ch) (ta_ag ha (by simp) h.ta))
theorem c_So_end {K : Int32 → xHp → Prop} (h : isCl hp s)
    (hK0 : n < 0 ∨ nI s.nt < n → K 0 hp)
    (hK : ∀ p, p ≤ s.nt → n = nI p → ∀ hq, xAg hp hq [1] → isCl hq (s.wText s.T p) → K 1 hq) : xMi l (d + 3) b lo gz m_So_end [.ref 0, .int n] hp K := by
  obtain ⟨lot, o0⟩ := h.so
  have o1 : hp.1 0 = _ := o0
  have t0 := h.tx.1.1
  have htx := h.tx.2
  refine xMC_V ok_So_end (by decide) (L0 := [.ref 0, .int n]) rfl rfl ?_
  simp only [s_So_end_0, s_So_end_1, s_So_end_4, s_So_end_5, s_So_end_8, xg_0, xg_s, xF_up, xPf_up, xO_up, xAi_up, xAl_up, xLn_up, xup_xup, ty_i, ty_b, ty_z, ty_l, ty_q, tb_b, tb_z, xup_2, xpI_s, xpL_s, xpV_s, xpQ_n, xpQ_r, yl_0, yl_1, yl_2, yl_3, yl_4, yl_5, yl_6, xcs_nil, xcs_i, xcs_a, xcs_l, xcs_n, xNl_z, xNl_s, xNl_i, xNl_a, xNl_n, xNl_d, cat_i, cat_a, cat_n, List.getElem?_cons_zero, List.getElem?_cons_succ, List.set_cons_zero, List.set_cons_succ, List.length_cons, List.length_nil, true_and, and_true, eq_self, ite_true, ite_false, if_true, if_false, or_true, true_or, or_false, false_or, Nat.reduceAdd, Nat.reduceLT, Nat.reduceLeDiff, Nat.reduceEqDiff, Nat.reduceSub, ↓reduceIte, reduceCtorEq, not_false_eq_true, not_true_eq_false, false_implies, true_implies, forall_const, imp_self, implies_true, Nat.add_left_cancel_iff, Nat.left_eq_add, Nat.add_eq_left, Nat.zero_lt_succ, Nat.lt_add_left_iff_pos, one_ne_zero_n, zero_ne_one_n, zero_ne_one_i, one_ne_zero_i, xF_r o1, xPf_r o1, xO_r o1, xF_r t0, xPf_r t0, xO_r t0]
  refine c_Text_cut h.tx.1 (fun hc => ?_) (fun hc => ?_)
  · try simp only [s_So_end_0, s_So_end_1, s_So_end_4, s_So_end_5, s_So_end_8, xg_0, xg_s, xF_up, xPf_up, xO_up, xAi_up, xAl_up, xLn_up, xup_xup, ty_i, ty_b, ty_z, ty_l, ty_q, tb_b, tb_z, xup_2, xpI_s, xpL_s, xpV_s, xpQ_n, xpQ_r, yl_0, yl_1, yl_2, yl_3, yl_4, yl_5, yl_6, xcs_nil, xcs_i, xcs_a, xcs_l, xcs_n, xNl_z, xNl_s, xNl_i, xNl_a, xNl_n, xNl_d, cat_i, cat_a, cat_n, List.getElem?_cons_zero, List.getElem?_cons_succ, List.set_cons_zero, List.set_cons_succ, List.length_cons, List.length_nil, true_and, and_true, eq_self, ite_true, ite_false, if_true, if_false, or_true, true_or, or_false, false_or, Nat.reduceAdd, Nat.reduceLT, Nat.reduceLeDiff, Nat.reduceEqDiff, Nat.reduceSub, ↓reduceIte, reduceCtorEq, not_false_eq_true, not_true_eq_false, false_implies, true_implies, forall_const, imp_self, implies_true, Nat.add_left_cancel_iff, Nat.left_eq_add, Nat.add_eq_left, Nat.zero_lt_succ, Nat.lt_add_left_iff_pos, one_ne_zero_n, zero_ne_one_n, zero_ne_one_i, one_ne_zero_i]
    exact hK0 hc
  · try simp only [s_So_end_0, s_So_end_1, s_So_end_4, s_So_end_5, s_So_end_8, xg_0, xg_s, xF_up, xPf_up, xO_up, xAi_up, xAl_up, xLn_up, xup_xup, ty_i, ty_b, ty_z, ty_l, ty_q, tb_b, tb_z, xup_2, xpI_s, xpL_s, xpV_s, xpQ_n, xpQ_r, yl_0, yl_1, yl_2, yl_3, yl_4, yl_5, yl_6, xcs_nil, xcs_i, xcs_a, xcs_l, xcs_n, xNl_z, xNl_s, xNl_i, xNl_a, xNl_n, xNl_d, cat_i, cat_a, cat_n, List.getElem?_cons_zero, List.getElem?_cons_succ, List.set_cons_zero, List.set_cons_succ, List.length_cons, List.length_nil, true_and, and_true, eq_self, ite_true, ite_false, if_true, if_false, or_true, true_or, or_false, false_or, Nat.reduceAdd, Nat.reduceLT, Nat.reduceLeDiff, Nat.reduceEqDiff, Nat.reduceSub, ↓reduceIte, reduceCtorEq, not_false_eq_true, not_true_eq_false, false_implies, true_implies, forall_const, imp_self, implies_true, Nat.add_left_cancel_iff, Nat.left_eq_add, Nat.add_eq_left, Nat.zero_lt_succ, Nat.lt_add_left_iff_pos, one_ne_zero_n, zero_ne_one_n, zero_ne_one_i, one_ne_zero_i]
    obtain ⟨p, hp31, rfl⟩ := nI_of (show ¬ n < 0 from fun z => hc (Or.inl z))
    have hpn : p ≤ s.nt := by
      by_cases e : p ≤ s.nt
      · exact e
      · exact absurd (Or.inr (Int32.not_le.mp (nI_ge (by omega) (by omega)))) hc
    have ha : xAg hp (xup hp 1 (.inr (10, [.ref 2, .int (nI p)]))) [1] := xAg_up (xAg_rf _ _) (by simp)
    exact hK p hpn rfl _ ha (isCl_mk (so_ag ha (by simp) h.so) (⟨⟨xup_s, xup_o h.tx.1.2 (by omega)⟩, by show p ≤ 80; omega⟩) (rw_ag ha (by simp) h.rw) (isEnv_ag ha (by simp) h.ev) (pr_ag ha (by simp) h.pr) (isFk_ag ha (by simp) h.nw) (fk_ag ha (by simp) h.th) (fk_ag ha (by simp) h.be) (pa_ag ha (by simp) h.pa) (rg_ag ha (by simp) h.rg) (sh_ag ha (by simp) h.sh) (cl_ag ha (by simp) h.se) (cl_ag ha (by simp) h.ru) (wk_ag ha (by simp) h.wk) (rm_ag ha (by simp) h.rm) (ch_ag ha (by simp) h.ch) (ta_ag ha (by simp) h.ta))
theorem c_So_denies {K : Int32 → xHp → Prop} (h : isCl hp s) (hK : ∀ hq, xAg hp hq [88] → isCl hq (s.wSeen s.s1 s.s2 0) → K (nI s.sn) hq) : xMi l (d + 3) b lo gz m_So_denies [.ref 0] hp K := by
  obtain ⟨lot, o0⟩ := h.so
  have o1 : hp.1 0 = _ := o0
  have t0 := h.se.1.1
  refine xMC_V ok_So_denies (by decide) (L0 := [.ref 0]) rfl rfl ?_
  simp only [s_So_denies_0, s_So_denies_1, s_So_denies_4, s_So_denies_7, xg_0, xg_s, xF_up, xPf_up, xO_up, xAi_up, xAl_up, xLn_up, xup_xup, ty_i, ty_b, ty_z, ty_l, ty_q, tb_b, tb_z, xup_2, xpI_s, xpL_s, xpV_s, xpQ_n, xpQ_r, yl_0, yl_1, yl_2, yl_3, yl_4, yl_5, yl_6, xcs_nil, xcs_i, xcs_a, xcs_l, xcs_n, xNl_z, xNl_s, xNl_i, xNl_a, xNl_n, xNl_d, cat_i, cat_a, cat_n, List.getElem?_cons_zero, List.getElem?_cons_succ, List.set_cons_zero, List.set_cons_succ, List.length_cons, List.length_nil, true_and, and_true, eq_self, ite_true, ite_false, if_true, if_false, or_true, true_or, or_false, false_or, Nat.reduceAdd, Nat.reduceLT, Nat.reduceLeDiff, Nat.reduceEqDiff, Nat.reduceSub, ↓reduceIte, reduceCtorEq, not_false_eq_true, not_true_eq_false, false_implies, true_implies, forall_const, imp_self, implies_true, Nat.add_left_cancel_iff, Nat.left_eq_add, Nat.add_eq_left, Nat.zero_lt_succ, Nat.lt_add_left_iff_pos, one_ne_zero_n, zero_ne_one_n, zero_ne_one_i, one_ne_zero_i, xF_r o1, xPf_r o1, xO_r o1, xF_r t0, xPf_r t0, xO_r t0]
  refine c_Clues_clear h.se.1 ?_
  try simp only [s_So_denies_0, s_So_denies_1, s_So_denies_4, s_So_denies_7, xg_0, xg_s, xF_up, xPf_up, xO_up, xAi_up, xAl_up, xLn_up, xup_xup, ty_i, ty_b, ty_z, ty_l, ty_q, tb_b, tb_z, xup_2, xpI_s, xpL_s, xpV_s, xpQ_n, xpQ_r, yl_0, yl_1, yl_2, yl_3, yl_4, yl_5, yl_6, xcs_nil, xcs_i, xcs_a, xcs_l, xcs_n, xNl_z, xNl_s, xNl_i, xNl_a, xNl_n, xNl_d, cat_i, cat_a, cat_n, List.getElem?_cons_zero, List.getElem?_cons_succ, List.set_cons_zero, List.set_cons_succ, List.length_cons, List.length_nil, true_and, and_true, eq_self, ite_true, ite_false, if_true, if_false, or_true, true_or, or_false, false_or, Nat.reduceAdd, Nat.reduceLT, Nat.reduceLeDiff, Nat.reduceEqDiff, Nat.reduceSub, ↓reduceIte, reduceCtorEq, not_false_eq_true, not_true_eq_false, false_implies, true_implies, forall_const, imp_self, implies_true, Nat.add_left_cancel_iff, Nat.left_eq_add, Nat.add_eq_left, Nat.zero_lt_succ, Nat.lt_add_left_iff_pos, one_ne_zero_n, zero_ne_one_n, zero_ne_one_i, one_ne_zero_i]
  have ha : xAg hp (xup hp 88 (.inr (2, [.int 10, .ref 89, .ref 90, .int 0]))) [88] := xAg_up (xAg_rf _ _) (by simp)
  exact hK _ ha (isCl_mk (so_ag ha (by simp) h.so) (tx_ag ha (by simp) h.tx) (rw_ag ha (by simp) h.rw) (isEnv_ag ha (by simp) h.ev) (pr_ag ha (by simp) h.pr) (isFk_ag ha (by simp) h.nw) (fk_ag ha (by simp) h.th) (fk_ag ha (by simp) h.be) (pa_ag ha (by simp) h.pa) (rg_ag ha (by simp) h.rg) (sh_ag ha (by simp) h.sh) (⟨⟨xup_s, xup_o h.se.1.2.1 (by omega), xup_o h.se.1.2.2 (by omega)⟩, Nat.zero_le _⟩) (cl_ag ha (by simp) h.ru) (wk_ag ha (by simp) h.wk) (rm_ag ha (by simp) h.rm) (ch_ag ha (by simp) h.ch) (ta_ag ha (by simp) h.ta))
theorem c_So_forget {K : Int32 → xHp → Prop} (h : isCl hp s) (hK : ∀ hq, xAg hp hq [91] → isCl hq (s.wHeard s.r1 s.r2 0) → K (nI s.rn) hq) : xMi l (d + 3) b lo gz m_So_forget [.ref 0] hp K := by
  obtain ⟨lot, o0⟩ := h.so
  have o1 : hp.1 0 = _ := o0
  have t0 := h.ru.1.1
  refine xMC_V ok_So_forget (by decide) (L0 := [.ref 0]) rfl rfl ?_
  simp only [s_So_forget_0, s_So_forget_1, s_So_forget_4, s_So_forget_7, xg_0, xg_s, xF_up, xPf_up, xO_up, xAi_up, xAl_up, xLn_up, xup_xup, ty_i, ty_b, ty_z, ty_l, ty_q, tb_b, tb_z, xup_2, xpI_s, xpL_s, xpV_s, xpQ_n, xpQ_r, yl_0, yl_1, yl_2, yl_3, yl_4, yl_5, yl_6, xcs_nil, xcs_i, xcs_a, xcs_l, xcs_n, xNl_z, xNl_s, xNl_i, xNl_a, xNl_n, xNl_d, cat_i, cat_a, cat_n, List.getElem?_cons_zero, List.getElem?_cons_succ, List.set_cons_zero, List.set_cons_succ, List.length_cons, List.length_nil, true_and, and_true, eq_self, ite_true, ite_false, if_true, if_false, or_true, true_or, or_false, false_or, Nat.reduceAdd, Nat.reduceLT, Nat.reduceLeDiff, Nat.reduceEqDiff, Nat.reduceSub, ↓reduceIte, reduceCtorEq, not_false_eq_true, not_true_eq_false, false_implies, true_implies, forall_const, imp_self, implies_true, Nat.add_left_cancel_iff, Nat.left_eq_add, Nat.add_eq_left, Nat.zero_lt_succ, Nat.lt_add_left_iff_pos, one_ne_zero_n, zero_ne_one_n, zero_ne_one_i, one_ne_zero_i, xF_r o1, xPf_r o1, xO_r o1, xF_r t0, xPf_r t0, xO_r t0]
  refine c_Clues_clear h.ru.1 ?_
  try simp only [s_So_forget_0, s_So_forget_1, s_So_forget_4, s_So_forget_7, xg_0, xg_s, xF_up, xPf_up, xO_up, xAi_up, xAl_up, xLn_up, xup_xup, ty_i, ty_b, ty_z, ty_l, ty_q, tb_b, tb_z, xup_2, xpI_s, xpL_s, xpV_s, xpQ_n, xpQ_r, yl_0, yl_1, yl_2, yl_3, yl_4, yl_5, yl_6, xcs_nil, xcs_i, xcs_a, xcs_l, xcs_n, xNl_z, xNl_s, xNl_i, xNl_a, xNl_n, xNl_d, cat_i, cat_a, cat_n, List.getElem?_cons_zero, List.getElem?_cons_succ, List.set_cons_zero, List.set_cons_succ, List.length_cons, List.length_nil, true_and, and_true, eq_self, ite_true, ite_false, if_true, if_false, or_true, true_or, or_false, false_or, Nat.reduceAdd, Nat.reduceLT, Nat.reduceLeDiff, Nat.reduceEqDiff, Nat.reduceSub, ↓reduceIte, reduceCtorEq, not_false_eq_true, not_true_eq_false, false_implies, true_implies, forall_const, imp_self, implies_true, Nat.add_left_cancel_iff, Nat.left_eq_add, Nat.add_eq_left, Nat.zero_lt_succ, Nat.lt_add_left_iff_pos, one_ne_zero_n, zero_ne_one_n, zero_ne_one_i, one_ne_zero_i]
  have ha : xAg hp (xup hp 91 (.inr (2, [.int 12, .ref 92, .ref 93, .int 0]))) [91] := xAg_up (xAg_rf _ _) (by simp)
  exact hK _ ha (isCl_mk (so_ag ha (by simp) h.so) (tx_ag ha (by simp) h.tx) (rw_ag ha (by simp) h.rw) (isEnv_ag ha (by simp) h.ev) (pr_ag ha (by simp) h.pr) (isFk_ag ha (by simp) h.nw) (fk_ag ha (by simp) h.th) (fk_ag ha (by simp) h.be) (pa_ag ha (by simp) h.pa) (rg_ag ha (by simp) h.rg) (sh_ag ha (by simp) h.sh) (cl_ag ha (by simp) h.se) (⟨⟨xup_s, xup_o h.ru.1.2.1 (by omega), xup_o h.ru.1.2.2 (by omega)⟩, Nat.zero_le _⟩) (wk_ag ha (by simp) h.wk) (rm_ag ha (by simp) h.rm) (ch_ag ha (by simp) h.ch) (ta_ag ha (by simp) h.ta))
end SO1
