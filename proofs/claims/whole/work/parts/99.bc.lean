/-! ===== both classes, call by call ===== -/
theorem ring_pop {nx ac j : Nat} (h0 : ¬ ac = 0) (h12 : ac ≤ 12) (hnx : nx < 12) (hj : j < ac - 1) : (prv nx + 12 - (ac - 1) + j) % 12 = (nx + 12 - ac + j) % 12 := by
  unfold prv
  by_cases z : 0 < nx
  · rw [if_pos z]
    congr 1
    omega
  · rw [if_neg z, show 11 + 12 - (ac - 1) + j = nx + 12 - ac + j + 12 by omega]
    exact Nat.add_mod_right _ _
theorem sky_nI {s : St} {c : Nat} (h : wfS s c) (hc : c ≤ 512) : ∃ g, g < 10 ∧ ysky s.sk s.tu s.now.day = nI g := by
  obtain ⟨k, k1, k2, k3, k4⟩ := h.2.2.2.2.1
  obtain ⟨D, hD, eD⟩ := h.1.2
  have hlt := Nat.mod_lt D k1
  unfold ysky
  rw [k3, if_neg (show ¬ nI k ≤ (0 : Int32) from nI_ge k1 (by omega)), eD, nI_mod (by omega) (by omega), yat_nI (show D % k < 20 by omega) (by decide)]
  exact k4 _ hlt
theorem rlOK_u {N p1 : Nat} {ok : Bool} {v w w2 : (Nat → Int32) → Int32} (h : rlOK N ok p1 v w) (h2 : rlOK N ok p1 v w2) : w = w2 := by
  rcases h with ⟨a1, a2⟩ | ⟨a1, a2, a3, a4⟩
  · rcases h2 with ⟨b1, b2⟩ | ⟨b1, b2, b3, b4⟩
    · rw [a2, b2]
    · exact absurd a1 b1
  · rcases h2 with ⟨b1, b2⟩ | ⟨b1, b2, b3, b4⟩
    · exact absurd b1 a1
    · rw [a4, b4]
theorem wf_mono {q : Fk} {n m : Nat} (h : wfF q n) (hm : n ≤ m) : wfF q m := ⟨h.1, fun i hi => by
  obtain ⟨p, hp, e⟩ := h.2.1 i hi
  exact ⟨p, by omega, e⟩, h.2.2.1, h.2.2.2⟩
theorem isCl_up {hp : xHp} {S : St} {sh sh2 : Nat → Fk} {fl : Nat → Int32} (h : isCl hp (S.wShelf sh fl)) (e : ∀ i, i < 2 → sh2 i = sh i) : isCl hp (S.wShelf sh2 fl) :=
  isCl_mk h.so h.tx h.rw h.ev h.pr h.nw h.th h.be h.pa h.rg (fun i hi => by
    have k := h.sh i hi
    have e2 : (S.wShelf sh2 fl).shelf i = (S.wShelf sh fl).shelf i := e i hi
    rw [e2]
    exact k) h.se h.ru h.wk h.rm h.ch h.ta
theorem upS_lo (s : St) (i : Nat) (hi : i < 2) : upS s i = s.shelf i := if_neg (by omega)
theorem wf_lrun {s : St} {T : Nat → Int32} {N : Nat} (hN : N ≤ 80) (hl : s.nl ≤ 80) : ∀ m p q B, p ≤ N → baR T N (N - p) 0 = -1 → wfF q s.nl → dyF q B → wfF (lrun s T N m p q).2.1 s.nl ∧ (lrun s T N m p q).2.1.n = q.n ∧ dyF (lrun s T N m p q).2.1 (B + 10 * m) := by
  intro m
  induction m with
  | zero => intro p q B _ _ hw hd; exact ⟨hw, rfl, hd⟩
  | succ m ih =>
    intro p q B hp hb hw hd
    by_cases e : p < N
    · obtain ⟨b1, b2, b3, b4, b5⟩ := ba_step hN e hb
      have hg := dg_of (T := T) (p := p + 1) (b4 0 (by omega))
      rw [lrun_s _ _ _ _ _ _ e]
      cases ea : acF s q (T p) (dgT T (p + 1)) (acB T p) with
      | none => exact ⟨hw, rfl, dyF_le hd (by omega)⟩
      | some q2 =>
        obtain ⟨w1, w2⟩ := wf_acF hw hl ea
        have hd2 := dy_acF hg hd ea
        obtain ⟨c1, c2, c3⟩ := ih (p + 1 + tbN (T p)) q2 (B + 10) (by omega) b5 w1 hd2
        exact ⟨c1, c2.trans w2, dyF_le c3 (by omega)⟩
    · rw [lrun_e _ _ _ _ _ _ e]
      exact ⟨hw, rfl, dyF_le hd (by omega)⟩
theorem tdig_10 (T : Nat → Int32) (n p : Int32) : ∃ g, g < 10 ∧ tdig T n p = nI g := by
  unfold tdig
  by_cases e : tisd (tat T n p) = 0
  · rw [if_pos e]; exact ⟨0, by decide, rfl⟩
  · rw [if_neg e]
    obtain ⟨g, hg, e2⟩ := dgz_of e
    exact ⟨g, hg, by rw [e2, (tisd_of g hg).2]⟩
theorem tnum_99 (T : Nat → Int32) (n p : Int32) : ∃ a, a ≤ 9999 ∧ tnum T n p 2 = nI a := by
  obtain ⟨g1, h1, e1⟩ := tdig_10 T n (p + nI 0)
  obtain ⟨g2, h2, e2⟩ := tdig_10 T n (p + nI 1)
  refine ⟨10 * g1 + g2, by omega, ?_⟩
  show 10 * (10 * 0 + tdig T n (p + nI 0)) + tdig T n (p + nI 1) = _
  rw [e1, e2, show (10 : Int32) * 0 = 0 by decide, Int32.zero_add, show (10 : Int32) = nI 10 from rfl, nI_mul, nI_ad]
theorem wf_peA {s : St} (hw : wfF s.now s.nl) : ∀ k, (∀ j, j < k → ∃ p, p < s.nl ∧ tdig s.T (nI s.nt) (4 * nI j + 2) = nI p) → wfF (peA s k) s.nl ∧ s.now.n ≤ (peA s k).n ∧ (peA s k).day = s.now.day := by
  intro k
  induction k with
  | zero => intro _; exact ⟨hw, Nat.le_refl _, rfl⟩
  | succ k ih =>
    intro h
    obtain ⟨h1, h2, h3⟩ := ih (fun j hj => h j (by omega))
    have e : peA s (k + 1) = if (peA s k).n < 7 then (upd (peA s k).A (peA s k).n (tnum s.T (nI s.nt) (4 * nI k) 2), upd (peA s k).P (peA s k).n (tdig s.T (nI s.nt) (4 * nI k + 2)), upd (peA s k).S (peA s k).n 0, (peA s k).n + 1, (peA s k).day) else peA s k := rfl
    by_cases z : (peA s k).n < 7
    · rw [if_pos z] at e
      rw [e]
      generalize peA s k = q at h1 h2 h3 z
      obtain ⟨a, ha, ea⟩ := tnum_99 s.T (nI s.nt) (4 * nI k)
      obtain ⟨p, hp, ep⟩ := h k (by omega)
      refine ⟨⟨fun i hi => ?_, fun i hi => ?_, fun i hi => ?_, z⟩, by show s.now.n ≤ q.n + 1; omega, h3⟩
      · by_cases ei : i = q.n
        · exact ⟨a, ha, by rw [ei]; exact upd_i.trans ea⟩
        · obtain ⟨a2, h4, e4⟩ := h1.1 i (by have : i < q.n + 1 := hi; omega)
          exact ⟨a2, h4, (if_neg ei : upd q.A q.n _ i = q.A i).trans e4⟩
      · by_cases ei : i = q.n
        · exact ⟨p, hp, by rw [ei]; exact upd_i.trans ep⟩
        · obtain ⟨a2, h4, e4⟩ := h1.2.1 i (by have : i < q.n + 1 := hi; omega)
          exact ⟨a2, h4, (if_neg ei : upd q.P q.n _ i = q.P i).trans e4⟩
      · by_cases ei : i = q.n
        · exact ⟨0, by decide, by rw [ei]; exact upd_i⟩
        · obtain ⟨a2, h4, e4⟩ := h1.2.2.1 i (by have : i < q.n + 1 := hi; omega)
          exact ⟨a2, h4, (if_neg ei : upd q.S q.n _ i = q.S i).trans e4⟩
    · rw [if_neg z] at e
      rw [e]
      exact ⟨h1, h2, h3⟩
theorem wf_came {s : St} {c nl2 : Nat} {lg2 fl2 : Nat → Int32} {q : Fk} (h : wfS s c) (hq : wfF q nl2) (hn : s.now.n ≤ q.n) (hd : q.day = s.now.day) (hl : nl2 ≤ 6) (f0 : fl2 0 = 0) (f1 : fl2 1 = 0) : wfS (((((s.wText s.T 0).wLand lg2 nl2).wNow q).wPast s.ring s.nx 0).wShelf (upS s) fl2) (c + 1) := by
  obtain ⟨⟨h1, D, h2, h2'⟩, h3, h4, ⟨k, h5, h6⟩, h7, h8, h9, h10, h11, h12⟩ := h
  refine ⟨⟨hq, D, by omega, hd.trans h2'⟩, fun j hj => absurd hj (Nat.not_lt_zero _), fun j hj hf => ?_, ⟨k + 1, by omega, ?_⟩, h7, fun k hk => ?_, h9, hl, Nat.zero_le _, h12⟩
  · refine absurd ?_ hf
    rcases (show j = 0 ∨ j = 1 by omega) with rfl | rfl
    · exact f0
    · exact f1
  · show (s.shelf 2).day + 1 = _
    rw [h6]
    exact nI_ad k 1
  · obtain ⟨i, hi, e⟩ := h8 k hk
    exact ⟨i, by show i < q.n; omega, e⟩
def is12 (hp : xHp) : Prop := ∃ fs, hp.1 103 = .inr (12, fs)
theorem o12 {hp : xHp} {x : SO} {s : St} (h : isMM hp x s) : is12 hp := by
  obtain ⟨rd, le, tp, at2, wr, o1⟩ := isO_raw h.me.1
  exact ⟨_, o1⟩
section PRS
variable {l : Launch} {b lo gz c : Nat} {hp : xHp} {v n one other spot g hh w i kind fi st te go seed : Int32}
theorem p_later (h : Rel c hp) (hc : c ≤ 512) : xMi l 100 b lo gz m_So_later [.ref 0, .int one, .int n] hp (fun r hq => is12 hq ∧ xMi l 100 b lo gz m_Mo_later [.ref 103, .int one, .int n] hq (fun r2 hr => r2 = r ∧ Rel (c + 1) hr)) := by
  obtain ⟨s, x, hC, hM, hw, hO⟩ := h
  have hw1 := wf_s hw
  have hP : wfP s.now s.nl := hw.1.1.2.1
  have hd := hw.1.2
  have hB : 1000 * c + 2000 < 2 ^ 31 := by omega
  have hB4 : 1000 * c + 400 < 2 ^ 31 := by omega
  have h7 := hC.nw.2
  have hl6 := hC.ev.2.2.1
  have hr7 : ∀ j, j < s.ac → (ringAt s j).n ≤ 7 := fun j hj => (hw.2.1 j hj).1.2.2.2
  refine c_So_later hC (fun z => ?_) (fun i N hi e1 hN e2 hq ha hC2 => ?_)
  · refine ⟨o12 hM, m_later hM hP hd hB4 (fun _ hr y har hM2 => ⟨rfl, rel_fin (xAg_rf _ []) (by simp) hO hC har hM2 hw1⟩) (fun i N hi e1 hN e2 => False.elim (Or.elim z (fun z => no_has h7 hi e1 z) (fun z => (Or.elim z (fun z => no_lt (by omega) e2 z) (fun z => (no_gt (m := 99) (by decide) (by omega) e2 z))))))⟩
  · refine ⟨o12 (mmt hM ha r103), m_later (mmt hM ha r103) hP hd hB4 (fun z => False.elim (Or.elim z (fun z => no_has h7 hi e1 z) (fun z => (Or.elim z (fun z => no_lt (by omega) e2 z) (fun z => (no_gt (m := 99) (by decide) (by omega) e2 z)))))) (fun i' N' hi' e1' hN' e2' hr y har hM3 => ?_)⟩
    obtain rfl : i = i' := nI_c (by omega) (by omega) e1 e1'
    obtain rfl : N = N' := nI_c (by omega) (by omega) e2 e2'
    exact ⟨rfl, rel_fin ha r103 hO hC2 har hM3 hw1⟩
theorem p_summer (h : Rel c hp) (hc : c ≤ 512) : xMi l 100 b lo gz m_So_summer [.ref 0, .int one, .int n] hp (fun r hq => is12 hq ∧ xMi l 100 b lo gz m_Mo_summer [.ref 103, .int one, .int n] hq (fun r2 hr => r2 = r ∧ Rel (c + 1) hr)) := by
  obtain ⟨s, x, hC, hM, hw, hO⟩ := h
  have hw1 := wf_s hw
  have hP : wfP s.now s.nl := hw.1.1.2.1
  have hd := hw.1.2
  have hB : 1000 * c + 2000 < 2 ^ 31 := by omega
  have hB4 : 1000 * c + 400 < 2 ^ 31 := by omega
  have h7 := hC.nw.2
  have hl6 := hC.ev.2.2.1
  have hr7 : ∀ j, j < s.ac → (ringAt s j).n ≤ 7 := fun j hj => (hw.2.1 j hj).1.2.2.2
  refine c_So_summer hC (fun z => ?_) (fun i m hi e1 hm e2 hq ha hC2 => ?_)
  · refine ⟨o12 hM, m_summer hM hP hd hB4 (fun _ hr y har hM2 => ⟨rfl, rel_fin (xAg_rf _ []) (by simp) hO hC har hM2 hw1⟩) (fun i m hi e1 hm e2 => False.elim (Or.elim z (fun z => no_has h7 hi e1 z) (fun z => (Or.elim z (fun z => no_lt1 (by omega) (Nat.succ_ne_zero _) e2 z) (fun z => (no_gt (m := 20) (by decide) (by omega) e2 z))))))⟩
  · refine ⟨o12 (mmt hM ha r103), m_summer (mmt hM ha r103) hP hd hB4 (fun z => False.elim (Or.elim z (fun z => no_has h7 hi e1 z) (fun z => (Or.elim z (fun z => no_lt1 (by omega) (Nat.succ_ne_zero _) e2 z) (fun z => (no_gt (m := 20) (by decide) (by omega) e2 z)))))) (fun i' m' hi' e1' hm' e2' hr y har hM3 => ?_)⟩
    obtain rfl : i = i' := nI_c (by omega) (by omega) e1 e1'
    obtain rfl : m = m' := by have := nI_c (show m + 1 < 2 ^ 31 by omega) (show m' + 1 < 2 ^ 31 by omega) e2 e2'; omega
    exact ⟨rfl, rel_fin ha r103 hO hC2 har hM3 hw1⟩
theorem p_nights (h : Rel c hp) (hc : c ≤ 512) : xMi l 100 b lo gz m_So_nights [.ref 0, .int one, .int n] hp (fun r hq => is12 hq ∧ xMi l 100 b lo gz m_Mo_nights [.ref 103, .int one, .int n] hq (fun r2 hr => r2 = r ∧ Rel (c + 1) hr)) := by
  obtain ⟨s, x, hC, hM, hw, hO⟩ := h
  have hw1 := wf_s hw
  have hP : wfP s.now s.nl := hw.1.1.2.1
  have hd := hw.1.2
  have hB : 1000 * c + 2000 < 2 ^ 31 := by omega
  have hB4 : 1000 * c + 400 < 2 ^ 31 := by omega
  have h7 := hC.nw.2
  have hl6 := hC.ev.2.2.1
  have hr7 : ∀ j, j < s.ac → (ringAt s j).n ≤ 7 := fun j hj => (hw.2.1 j hj).1.2.2.2
  refine c_So_nights hC (fun z => ?_) (fun i N hi e1 hz hN e2 hq ha hC2 => ?_)
  · refine ⟨o12 hM, m_nights hM hP hd hB4 (fun _ hr y har hM2 => ⟨rfl, rel_fin (xAg_rf _ []) (by simp) hO hC har hM2 hw1⟩) (fun i N hi e1 hz hN e2 => False.elim (Or.elim z (fun z => no_has h7 hi e1 z) (fun z => (Or.elim z (fun z => no_lt1 (by omega) hz e2 z) (fun z => (no_gt (m := 99) (by decide) (by omega) e2 z))))))⟩
  · refine ⟨o12 (mmt hM ha r103), m_nights (mmt hM ha r103) hP hd hB4 (fun z => False.elim (Or.elim z (fun z => no_has h7 hi e1 z) (fun z => (Or.elim z (fun z => no_lt1 (by omega) hz e2 z) (fun z => (no_gt (m := 99) (by decide) (by omega) e2 z)))))) (fun i' N' hi' e1' hz' hN' e2' hr y har hM3 => ?_)⟩
    obtain rfl : i = i' := nI_c (by omega) (by omega) e1 e1'
    obtain rfl : N = N' := nI_c (by omega) (by omega) e2 e2'
    exact ⟨rfl, rel_fin ha r103 hO hC2 har hM3 hw1⟩
theorem p_hides (h : Rel c hp) (hc : c ≤ 512) : xMi l 100 b lo gz m_So_hides [.ref 0, .int one, .int n] hp (fun r hq => is12 hq ∧ xMi l 100 b lo gz m_Mo_hides [.ref 103, .int one, .int n] hq (fun r2 hr => r2 = r ∧ Rel (c + 1) hr)) := by
  obtain ⟨s, x, hC, hM, hw, hO⟩ := h
  have hw1 := wf_s hw
  have hP : wfP s.now s.nl := hw.1.1.2.1
  have hd := hw.1.2
  have hB : 1000 * c + 2000 < 2 ^ 31 := by omega
  have hB4 : 1000 * c + 400 < 2 ^ 31 := by omega
  have h7 := hC.nw.2
  have hl6 := hC.ev.2.2.1
  have hr7 : ∀ j, j < s.ac → (ringAt s j).n ≤ 7 := fun j hj => (hw.2.1 j hj).1.2.2.2
  refine c_So_hides hC (fun z => ?_) (fun i N hi e1 hz hN e2 hq ha hC2 => ?_)
  · refine ⟨o12 hM, m_hides hM hw.1.1 hd hB4 (fun _ hr y har hM2 => ⟨rfl, rel_fin (xAg_rf _ []) (by simp) hO hC har hM2 hw1⟩) (fun i N hi e1 hz hN e2 => False.elim (Or.elim z (fun z => no_has h7 hi e1 z) (fun z => (Or.elim z (fun z => no_lt1 (by omega) hz e2 z) (fun z => (no_gt (m := 60) (by decide) (by omega) e2 z))))))⟩
  · refine ⟨o12 (mmt hM ha r103), m_hides (mmt hM ha r103) hw.1.1 hd hB4 (fun z => False.elim (Or.elim z (fun z => no_has h7 hi e1 z) (fun z => (Or.elim z (fun z => no_lt1 (by omega) hz e2 z) (fun z => (no_gt (m := 60) (by decide) (by omega) e2 z)))))) (fun i' N' hi' e1' hz' hN' e2' hr y har hM3 => ?_)⟩
    obtain rfl : i = i' := nI_c (by omega) (by omega) e1 e1'
    obtain rfl : N = N' := nI_c (by omega) (by omega) e2 e2'
    exact ⟨rfl, rel_fin ha r103 hO hC2 har hM3 hw1⟩
theorem p_meets (h : Rel c hp) (hc : c ≤ 512) : xMi l 100 b lo gz m_So_meets [.ref 0, .int one, .int other, .int n] hp (fun r hq => is12 hq ∧ xMi l 100 b lo gz m_Mo_meets [.ref 103, .int one, .int other, .int n] hq (fun r2 hr => r2 = r ∧ Rel (c + 1) hr)) := by
  obtain ⟨s, x, hC, hM, hw, hO⟩ := h
  have hw1 := wf_s hw
  have hP : wfP s.now s.nl := hw.1.1.2.1
  have hd := hw.1.2
  have hB : 1000 * c + 2000 < 2 ^ 31 := by omega
  have hB4 : 1000 * c + 400 < 2 ^ 31 := by omega
  have h7 := hC.nw.2
  have hl6 := hC.ev.2.2.1
  have hr7 : ∀ j, j < s.ac → (ringAt s j).n ≤ 7 := fun j hj => (hw.2.1 j hj).1.2.2.2
  refine c_So_meets hC (fun z => ?_) (fun i o N hi e1 ho e2 hne hz hN e3 hq ha hC2 => ?_)
  · refine ⟨o12 hM, m_meets hM hw.1.1 hd hB4 (fun _ hr y har hM2 => ⟨rfl, rel_fin (xAg_rf _ []) (by simp) hO hC har hM2 hw1⟩) (fun i o N hi e1 ho e2 hne hz hN e3 => False.elim (Or.elim z (fun z => no_has h7 hi e1 z) (fun z => (Or.elim z (fun z => no_has h7 ho e2 z) (fun z => (Or.elim z (fun z => hne (nI_inj (by omega) (by omega) (e1.symm.trans (z.trans e2)))) (fun z => (Or.elim z (fun z => no_lt1 (by omega) hz e3 z) (fun z => (no_gt (m := 60) (by decide) (by omega) e3 z))))))))))⟩
  · refine ⟨o12 (mmt hM ha r103), m_meets (mmt hM ha r103) hw.1.1 hd hB4 (fun z => False.elim (Or.elim z (fun z => no_has h7 hi e1 z) (fun z => (Or.elim z (fun z => no_has h7 ho e2 z) (fun z => (Or.elim z (fun z => hne (nI_inj (by omega) (by omega) (e1.symm.trans (z.trans e2)))) (fun z => (Or.elim z (fun z => no_lt1 (by omega) hz e3 z) (fun z => (no_gt (m := 60) (by decide) (by omega) e3 z)))))))))) (fun i' o' N' hi' e1' ho' e2' hne' hz' hN' e3' hr y har hM3 => ?_)⟩
    obtain rfl : i = i' := nI_c (by omega) (by omega) e1 e1'
    obtain rfl : o = o' := nI_c (by omega) (by omega) e2 e2'
    obtain rfl : N = N' := nI_c (by omega) (by omega) e3 e3'
    exact ⟨rfl, rel_fin ha r103 hO hC2 har hM3 hw1⟩
theorem p_brightest (h : Rel c hp) (hc : c ≤ 512) : xMi l 100 b lo gz m_So_brightest [.ref 0, .int one] hp (fun r hq => is12 hq ∧ xMi l 100 b lo gz m_Mo_brightest [.ref 103, .int one] hq (fun r2 hr => r2 = r ∧ Rel (c + 1) hr)) := by
  obtain ⟨s, x, hC, hM, hw, hO⟩ := h
  have hw1 := wf_s hw
  have hP : wfP s.now s.nl := hw.1.1.2.1
  have hd := hw.1.2
  have hB : 1000 * c + 2000 < 2 ^ 31 := by omega
  have hB4 : 1000 * c + 400 < 2 ^ 31 := by omega
  have h7 := hC.nw.2
  have hl6 := hC.ev.2.2.1
  have hr7 : ∀ j, j < s.ac → (ringAt s j).n ≤ 7 := fun j hj => (hw.2.1 j hj).1.2.2.2
  refine c_So_brightest hC (fun z => ?_) (fun i hi e1 hq ha hC2 => ?_)
  · refine ⟨o12 hM, m_brightest hM hw.1.1 hd hB4 (fun _ hr y har hM2 => ⟨rfl, rel_fin (xAg_rf _ []) (by simp) hO hC har hM2 hw1⟩) (fun i hi e1 => False.elim (no_has h7 hi e1 z))⟩
  · refine ⟨o12 (mmt hM ha r103), m_brightest (mmt hM ha r103) hw.1.1 hd hB4 (fun z => False.elim (no_has h7 hi e1 z)) (fun i' hi' e1' hr y har hM3 => ?_)⟩
    obtain rfl : i = i' := nI_c (by omega) (by omega) e1 e1'
    exact ⟨rfl, rel_fin ha r103 hO hC2 har hM3 hw1⟩
theorem p_years (h : Rel c hp) (hc : c ≤ 512) : xMi l 100 b lo gz m_So_years [.ref 0, .int seed, .int n] hp (fun r hq => is12 hq ∧ xMi l 100 b lo gz m_Mo_years [.ref 103, .int seed, .int n] hq (fun r2 hr => r2 = r ∧ Rel (c + 1) hr)) := by
  obtain ⟨s, x, hC, hM, hw, hO⟩ := h
  have hw1 := wf_s hw
  have hP : wfP s.now s.nl := hw.1.1.2.1
  have hd := hw.1.2
  have hB : 1000 * c + 2000 < 2 ^ 31 := by omega
  have hB4 : 1000 * c + 400 < 2 ^ 31 := by omega
  have h7 := hC.nw.2
  have hl6 := hC.ev.2.2.1
  have hr7 : ∀ j, j < s.ac → (ringAt s j).n ≤ 7 := fun j hj => (hw.2.1 j hj).1.2.2.2
  refine c_So_years hC (fun z => ?_) (fun N hz hN e2 hq ha hC2 => ?_)
  · refine ⟨o12 hM, m_years hM hP hd hB4 (fun _ hr y har hM2 => ⟨rfl, rel_fin (xAg_rf _ []) (by simp) hO hC har hM2 hw1⟩) (fun N hz hN e2 => False.elim (Or.elim z (fun z => no_lt1 (by omega) hz e2 z) (fun z => (no_gt (m := 60) (by decide) (by omega) e2 z))))⟩
  · refine ⟨o12 (mmt hM ha r103), m_years (mmt hM ha r103) hP hd hB4 (fun z => False.elim (Or.elim z (fun z => no_lt1 (by omega) hz e2 z) (fun z => (no_gt (m := 60) (by decide) (by omega) e2 z)))) (fun N' hz' hN' e2' hr y har hM3 => ?_)⟩
    obtain rfl : N = N' := nI_c (by omega) (by omega) e2 e2'
    exact ⟨rfl, rel_fin ha r103 hO hC2 har hM3 hw1⟩
theorem p_when (h : Rel c hp) (hc : c ≤ 512) : xMi l 100 b lo gz m_So_when [.ref 0, .int one, .int v] hp (fun r hq => is12 hq ∧ xMi l 100 b lo gz m_Mo_when [.ref 103, .int one, .int v] hq (fun r2 hr => r2 = r ∧ Rel (c + 1) hr)) := by
  obtain ⟨s, x, hC, hM, hw, hO⟩ := h
  have hw1 := wf_s hw
  have hP : wfP s.now s.nl := hw.1.1.2.1
  have hd := hw.1.2
  have hB : 1000 * c + 2000 < 2 ^ 31 := by omega
  have hB4 : 1000 * c + 400 < 2 ^ 31 := by omega
  have h7 := hC.nw.2
  have hl6 := hC.ev.2.2.1
  have hr7 : ∀ j, j < s.ac → (ringAt s j).n ≤ 7 := fun j hj => (hw.2.1 j hj).1.2.2.2
  have k0 : ∀ i, i < s.now.n → one = nI i → ¬ v < 0 → v ≤ 9999 → ¬ (yhas one (nI s.now.n) = 0 ∨ v < 0 ∨ 9999 < v) := fun i hi e1 q1 q2 => (fun z => (Or.elim z (fun z => no_has h7 hi e1 z) (fun z => (Or.elim z (fun z => q1 z) (fun z => (absurd z (Int32.not_lt.mpr q2)))))))
  refine c_So_when hC (fun z => ?_) (fun i hi e1 q1 q2 e3 hq ha hC2 => ?_) (fun i k hi e1 q1 q2 e3 hk hq ha hC2 => ?_)
  · exact ⟨o12 hM, m_when hM hP hd hB4 (fun _ hr y har hM2 => ⟨rfl, rel_fin (xAg_rf _ []) (by simp) hO hC har hM2 hw1⟩) (fun i hi e1 q1 q2 _ => (k0 i hi e1 q1 q2 z).elim) (fun i k hi e1 q1 q2 _ => (k0 i hi e1 q1 q2 z).elim)⟩
  · refine ⟨o12 (mmt hM ha r103), m_when (mmt hM ha r103) hP hd hB4 (fun z => (k0 i hi e1 q1 q2 z).elim) (fun i' hi' e1' q1' q2' e3' hr y har hM3 => ⟨rfl, rel_fin ha r103 hO hC2 har hM3 hw1⟩) (fun i' k' hi' e1' q1' q2' e3' => ?_)⟩
    obtain rfl : i = i' := nI_c (by omega) (by omega) e1 e1'
    exact absurd (e3.symm.trans e3') (fun z => by cases z)
  · refine ⟨o12 (mmt hM ha r103), m_when (mmt hM ha r103) hP hd hB4 (fun z => (k0 i hi e1 q1 q2 z).elim) (fun i' hi' e1' q1' q2' e3' => ?_) (fun i' k' hi' e1' q1' q2' e3' hk' hr y har hM3 => ?_)⟩
    · obtain rfl : i = i' := nI_c (by omega) (by omega) e1 e1'
      exact absurd (e3.symm.trans e3') (fun z => by cases z)
    · obtain rfl : i = i' := nI_c (by omega) (by omega) e1 e1'
      obtain rfl : k = k' := Option.some.inj (e3.symm.trans e3')
      exact ⟨rfl, rel_fin ha r103 hO hC2 har hM3 hw1⟩
theorem p_even (h : Rel c hp) (hc : c ≤ 512) : xMi l 100 b lo gz m_So_even [.ref 0, .int one, .int other] hp (fun r hq => is12 hq ∧ xMi l 100 b lo gz m_Mo_even [.ref 103, .int one, .int other] hq (fun r2 hr => r2 = r ∧ Rel (c + 1) hr)) := by
  obtain ⟨s, x, hC, hM, hw, hO⟩ := h
  have hw1 := wf_s hw
  have hP : wfP s.now s.nl := hw.1.1.2.1
  have hd := hw.1.2
  have hB : 1000 * c + 2000 < 2 ^ 31 := by omega
  have hB4 : 1000 * c + 400 < 2 ^ 31 := by omega
  have h7 := hC.nw.2
  have hl6 := hC.ev.2.2.1
  have hr7 : ∀ j, j < s.ac → (ringAt s j).n ≤ 7 := fun j hj => (hw.2.1 j hj).1.2.2.2
  have k0 : ∀ i o, i < s.now.n → one = nI i → o < s.now.n → other = nI o → ¬ i = o → ¬ (yhas one (nI s.now.n) = 0 ∨ yhas other (nI s.now.n) = 0 ∨ one = other) := fun i o hi e1 ho e2 hne => (fun z => (Or.elim z (fun z => no_has h7 hi e1 z) (fun z => (Or.elim z (fun z => no_has h7 ho e2 z) (fun z => (hne (nI_inj (by omega) (by omega) (e1.symm.trans (z.trans e2)))))))))
  refine c_So_even hC (fun z => ?_) (fun i o hi e1 ho e2 hne e3 hq ha hC2 => ?_) (fun i o hi e1 ho e2 hne e3 hq ha hC2 => ?_)
  · exact ⟨o12 hM, m_even hM hP hd hB4 (fun _ hr y har hM2 => ⟨rfl, rel_fin (xAg_rf _ []) (by simp) hO hC har hM2 hw1⟩) (fun i o hi e1 ho e2 hne _ => (k0 i o hi e1 ho e2 hne z).elim) (fun i o hi e1 ho e2 hne _ => (k0 i o hi e1 ho e2 hne z).elim)⟩
  · refine ⟨o12 (mmt hM ha r103), m_even (mmt hM ha r103) hP hd hB4 (fun z => (k0 i o hi e1 ho e2 hne z).elim) (fun i' o' hi' e1' ho' e2' hne' e3' hr y har hM3 => ?_) (fun i' o' hi' e1' ho' e2' hne' e3' => ?_)⟩
    · obtain rfl : i = i' := nI_c (by omega) (by omega) e1 e1'
      obtain rfl : o = o' := nI_c (by omega) (by omega) e2 e2'
      exact ⟨rfl, rel_fin ha r103 hO hC2 har hM3 hw1⟩
    · obtain rfl : i = i' := nI_c (by omega) (by omega) e1 e1'
      obtain rfl : o = o' := nI_c (by omega) (by omega) e2 e2'
      exact absurd e3 e3'
  · refine ⟨o12 (mmt hM ha r103), m_even (mmt hM ha r103) hP hd hB4 (fun z => (k0 i o hi e1 ho e2 hne z).elim) (fun i' o' hi' e1' ho' e2' hne' e3' => ?_) (fun i' o' hi' e1' ho' e2' hne' e3' hr y har hM3 => ?_)⟩
    · obtain rfl : i = i' := nI_c (by omega) (by omega) e1 e1'
      obtain rfl : o = o' := nI_c (by omega) (by omega) e2 e2'
      exact absurd e3' e3
    · obtain rfl : i = i' := nI_c (by omega) (by omega) e1 e1'
      obtain rfl : o = o' := nI_c (by omega) (by omega) e2 e2'
      exact ⟨rfl, rel_fin ha r103 hO hC2 har hM3 hw1⟩
theorem p_passes (h : Rel c hp) (hc : c ≤ 512) : xMi l 100 b lo gz m_So_passes [.ref 0] hp (fun r hq => is12 hq ∧ xMi l 100 b lo gz m_Mo_passes0 [.ref 103] hq (fun r2 hr => r2 = r ∧ Rel (c + 1) hr)) := by
  obtain ⟨s, x, hC, hM, hw, hO⟩ := h
  have hw1 := wf_s hw
  have hP : wfP s.now s.nl := hw.1.1.2.1
  have hd := hw.1.2
  have hB : 1000 * c + 2000 < 2 ^ 31 := by omega
  have hB4 : 1000 * c + 400 < 2 ^ 31 := by omega
  have h7 := hC.nw.2
  have hl6 := hC.ev.2.2.1
  have hr7 : ∀ j, j < s.ac → (ringAt s j).n ≤ 7 := fun j hj => (hw.2.1 j hj).1.2.2.2
  refine c_So_passes hC (fun z => ?_) (fun z e3 hq ha hC2 => ?_) (fun k z e3 hk hq ha hC2 => ?_)
  · exact ⟨o12 hM, m_passes hM hP hd hB4 (fun _ hr y har hM2 => ⟨rfl, rel_fin (xAg_rf _ []) (by simp) hO hC har hM2 hw1⟩) (fun z' _ => absurd z z') (fun k z' _ => absurd z z')⟩
  · exact ⟨o12 (mmt hM ha r103), m_passes (mmt hM ha r103) hP hd hB4 (fun z' => absurd z' z) (fun z' e3' hr y har hM3 => ⟨rfl, rel_fin ha r103 hO hC2 har hM3 hw1⟩) (fun k z' e3' => absurd (e3.symm.trans e3') (fun z => by cases z))⟩
  · refine ⟨o12 (mmt hM ha r103), m_passes (mmt hM ha r103) hP hd hB4 (fun z' => absurd z' z) (fun z' e3' => absurd (e3.symm.trans e3') (fun z => by cases z)) (fun k' z' e3' hk' hr y har hM3 => ?_)⟩
    obtain rfl : k = k' := Option.some.inj (e3.symm.trans e3')
    exact ⟨rfl, rel_fin ha r103 hO hC2 har hM3 hw1⟩
theorem p_order (h : Rel c hp) (hc : c ≤ 512) : xMi l 100 b lo gz m_So_order [.ref 0] hp (fun r hq => is12 hq ∧ xMi l 100 b lo gz m_Mo_order [.ref 103] hq (fun r2 hr => r2 = r ∧ Rel (c + 1) hr)) := by
  obtain ⟨s, x, hC, hM, hw, hO⟩ := h
  have hw1 := wf_s hw
  have hP : wfP s.now s.nl := hw.1.1.2.1
  have hd := hw.1.2
  have hB : 1000 * c + 2000 < 2 ^ 31 := by omega
  have hB4 : 1000 * c + 400 < 2 ^ 31 := by omega
  have h7 := hC.nw.2
  have hl6 := hC.ev.2.2.1
  have hr7 : ∀ j, j < s.ac → (ringAt s j).n ≤ 7 := fun j hj => (hw.2.1 j hj).1.2.2.2
  refine c_So_order hC (fun hq ha hC2 => ?_)
  exact ⟨o12 (mmt hM ha (by decide)), m_order (mmt hM ha (by decide)) (fun hr y har hM3 => ⟨rfl, rel_fin ha (by decide) hO hC2 har hM3 hw1⟩)⟩
theorem p_apart (h : Rel c hp) (hc : c ≤ 512) : xMi l 100 b lo gz m_So_apart [.ref 0, .int n] hp (fun r hq => is12 hq ∧ xMi l 100 b lo gz m_Mo_apart [.ref 103, .int n] hq (fun r2 hr => r2 = r ∧ Rel (c + 1) hr)) := by
  obtain ⟨s, x, hC, hM, hw, hO⟩ := h
  have hw1 := wf_s hw
  have hP : wfP s.now s.nl := hw.1.1.2.1
  have hd := hw.1.2
  have hB : 1000 * c + 2000 < 2 ^ 31 := by omega
  have hB4 : 1000 * c + 400 < 2 ^ 31 := by omega
  have h7 := hC.nw.2
  have hl6 := hC.ev.2.2.1
  have hr7 : ∀ j, j < s.ac → (ringAt s j).n ≤ 7 := fun j hj => (hw.2.1 j hj).1.2.2.2
  refine c_So_apart hC (fun z => ?_) (fun q1 q2 z => ?_) (fun N hN e1 z hq ha hC2 => ?_)
  · exact ⟨o12 hM, m_apart hM hw.1.1 hd hB4 (fun _ hr y har hM2 => ⟨rfl, rel_fin (xAg_rf _ []) (by simp) hO hC har hM2 hw1⟩) (fun q1 q2 _ => (False.elim (Or.elim z (fun z => q1 z) (fun z => (absurd z (Int32.not_lt.mpr q2)))))) (fun N hN e1 _ => (False.elim (Or.elim z (fun z => no_lt (by omega) e1 z) (fun z => (no_gt (m := 99) (by decide) (by omega) e1 z)))))⟩
  · exact ⟨o12 hM, m_apart hM hw.1.1 hd hB4 (fun z => (False.elim (Or.elim z (fun z => q1 z) (fun z => (absurd z (Int32.not_lt.mpr q2)))))) (fun _ _ _ hr y har hM2 => ⟨rfl, rel_fin (xAg_rf _ []) (by simp) hO hC har hM2 hw1⟩) (fun N hN e1 z' => absurd z z')⟩
  · refine ⟨o12 (mmt hM ha r103), m_apart (mmt hM ha r103) hw.1.1 hd hB4 (fun z => (False.elim (Or.elim z (fun z => no_lt (by omega) e1 z) (fun z => (no_gt (m := 99) (by decide) (by omega) e1 z))))) (fun q1 q2 z' => absurd z' z) (fun N' hN' e1' z' hr y har hM3 => ?_)⟩
    obtain rfl : N = N' := nI_c (by omega) (by omega) e1 e1'
    exact ⟨rfl, rel_fin ha r103 hO hC2 har hM3 hw1⟩
theorem p_sunniest (h : Rel c hp) (hc : c ≤ 512) : xMi l 100 b lo gz m_So_sunniest [.ref 0] hp (fun r hq => is12 hq ∧ xMi l 100 b lo gz m_Mo_sunniest [.ref 103] hq (fun r2 hr => r2 = r ∧ Rel (c + 1) hr)) := by
  obtain ⟨s, x, hC, hM, hw, hO⟩ := h
  have hw1 := wf_s hw
  have hP : wfP s.now s.nl := hw.1.1.2.1
  have hd := hw.1.2
  have hB : 1000 * c + 2000 < 2 ^ 31 := by omega
  have hB4 : 1000 * c + 400 < 2 ^ 31 := by omega
  have h7 := hC.nw.2
  have hl6 := hC.ev.2.2.1
  have hr7 : ∀ j, j < s.ac → (ringAt s j).n ≤ 7 := fun j hj => (hw.2.1 j hj).1.2.2.2
  refine c_So_sunniest hC (fun hq ha hC2 => ?_)
  exact ⟨o12 (mmt hM ha r103), m_sunniest (mmt hM ha r103) hP hd hB4 (fun hr y har hM3 => ⟨rfl, rel_fin ha r103 hO hC2 har hM3 hw1⟩)⟩
theorem p_comes (h : Rel c hp) (hc : c ≤ 512) : xMi l 100 b lo gz m_So_comes [.ref 0, .int one, .int v] hp (fun r hq => is12 hq ∧ xMi l 100 b lo gz m_Mo_comes [.ref 103, .int one, .int v] hq (fun r2 hr => r2 = r ∧ Rel (c + 1) hr)) := by
  obtain ⟨s, x, hC, hM, hw, hO⟩ := h
  have hw1 := wf_s hw
  have hP : wfP s.now s.nl := hw.1.1.2.1
  have hd := hw.1.2
  have hB : 1000 * c + 2000 < 2 ^ 31 := by omega
  have hB4 : 1000 * c + 400 < 2 ^ 31 := by omega
  have h7 := hC.nw.2
  have hl6 := hC.ev.2.2.1
  have hr7 : ∀ j, j < s.ac → (ringAt s j).n ≤ 7 := fun j hj => (hw.2.1 j hj).1.2.2.2
  have k0 : ∀ i, i < s.now.n → one = nI i → ¬ v < 0 → v ≤ 9999 → ¬ (yhas one (nI s.now.n) = 0 ∨ v < 0 ∨ 9999 < v) := fun i hi e1 q1 q2 => (fun z => (Or.elim z (fun z => no_has h7 hi e1 z) (fun z => (Or.elim z (fun z => q1 z) (fun z => (absurd z (Int32.not_lt.mpr q2)))))))
  refine c_So_comes hC (fun z => ?_) (fun i hi e1 q1 q2 e3 hq ha hC2 => ?_) (fun i k r hi e1 q1 q2 hk e3 e4 hq R2 ha hC2 hR => ?_)
  · exact ⟨o12 hM, m_comes hM hw.1.1 hd hB4 (fun _ hr y har hM2 => ⟨rfl, rel_fin (xAg_rf _ []) (by simp) hO hC har hM2 hw1⟩) (fun i hi e1 q1 q2 _ => (k0 i hi e1 q1 q2 z).elim) (fun i k r hi e1 q1 q2 _ => (k0 i hi e1 q1 q2 z).elim)⟩
  · refine ⟨o12 (mmt hM ha r103), m_comes (mmt hM ha r103) hw.1.1 hd hB4 (fun z => (k0 i hi e1 q1 q2 z).elim) (fun i' hi' e1' q1' q2' e3' hr y har hM3 => ⟨rfl, rel_fin ha r103 hO hC2 har hM3 hw1⟩) (fun i' k' r' hi' e1' q1' q2' hk' e3' e4' => ?_)⟩
    obtain rfl : i = i' := nI_c (by omega) (by omega) e1 e1'
    exact absurd ((e3 k' hk').symm.trans e4') (fun z => by cases z)
  · refine ⟨o12 (mmt hM ha r103), m_comes (mmt hM ha r103) hw.1.1 hd hB4 (fun z => (k0 i hi e1 q1 q2 z).elim) (fun i' hi' e1' q1' q2' e3' => ?_) (fun i' k' r' hi' e1' q1' q2' hk' e3' e4' hr y har hM3 => ?_)⟩
    · obtain rfl : i = i' := nI_c (by omega) (by omega) e1 e1'
      exact absurd ((e3' k hk).symm.trans e4) (fun z => by cases z)
    · obtain rfl : i = i' := nI_c (by omega) (by omega) e1 e1'
      have ek : k = k' := by
        rcases Nat.lt_trichotomy k k' with z | z | z
        · exact absurd ((e3' k z).symm.trans e4) (fun z => by cases z)
        · exact z
        · exact absurd ((e3 k' z).symm.trans e4') (fun z => by cases z)
      subst ek
      obtain rfl : r = r' := Option.some.inj (e4.symm.trans e4')
      exact ⟨rfl, rel_fin ha r103 hO hC2 har (hM3 R2 hR) hw1⟩
theorem p_ways (h : Rel c hp) (hc : c ≤ 512) : xMi l 100 b lo gz m_So_ways [.ref 0, .int one, .int g, .int n] hp (fun r hq => is12 hq ∧ xMi l 100 b lo gz m_Mo_ways [.ref 103, .int one, .int g, .int n] hq (fun r2 hr => r2 = r ∧ Rel (c + 1) hr)) := by
  obtain ⟨s, x, hC, hM, hw, hO⟩ := h
  have hw1 := wf_s hw
  have hP : wfP s.now s.nl := hw.1.1.2.1
  have hd := hw.1.2
  have hB : 1000 * c + 2000 < 2 ^ 31 := by omega
  have hB4 : 1000 * c + 400 < 2 ^ 31 := by omega
  have h7 := hC.nw.2
  have hl6 := hC.ev.2.2.1
  have hr7 : ∀ j, j < s.ac → (ringAt s j).n ≤ 7 := fun j hj => (hw.2.1 j hj).1.2.2.2
  have k0 : ∀ i N, i < s.now.n → one = nI i → ¬ g < 0 → g ≤ 36 → N ≤ 4 → n = nI N → ¬ (yhas one (nI s.now.n) = 0 ∨ g < 0 ∨ 36 < g ∨ n < 0 ∨ 4 < n) := fun i N hi e1 q1 q2 hN e2 => (fun z => (Or.elim z (fun z => no_has h7 hi e1 z) (fun z => (Or.elim z (fun z => q1 z) (fun z => (Or.elim z (fun z => absurd z (Int32.not_lt.mpr q2)) (fun z => (Or.elim z (fun z => no_lt (by omega) e2 z) (fun z => (no_gt (m := 4) (by decide) (by omega) e2 z))))))))))
  refine c_So_ways hC (fun z => ?_) (fun i N W hi e1 q1 q2 hN e2 eW hq R2 ha hC2 hR => ?_)
  · exact ⟨o12 hM, m_ways hM hw.1.1 hd hB4 (fun _ hr y har hM2 => ⟨rfl, rel_fin (xAg_rf _ []) (by simp) hO hC har hM2 hw1⟩) (fun i N W hi e1 q1 q2 hN e2 _ => (k0 i N hi e1 q1 q2 hN e2 z).elim)⟩
  · refine ⟨o12 (mmt hM ha r103), m_ways (mmt hM ha r103) hw.1.1 hd hB4 (fun z => (k0 i N hi e1 q1 q2 hN e2 z).elim) (fun i' N' W' hi' e1' q1' q2' hN' e2' eW' hr y har hM3 => ?_)⟩
    obtain rfl : i = i' := nI_c (by omega) (by omega) e1 e1'
    obtain rfl : N = N' := nI_c (by omega) (by omega) e2 e2'
    obtain rfl : W = W' := eW.trans eW'.symm
    exact ⟨rfl, rel_fin ha r103 hO hC2 har (hM3 R2 hR) hw1⟩
theorem p_rooms (h : Rel c hp) (hc : c ≤ 512) : xMi l 100 b lo gz m_So_rooms [.ref 0] hp (fun r hq => is12 hq ∧ xMi l 100 b lo gz m_Mo_rooms [.ref 103] hq (fun r2 hr => r2 = r ∧ Rel (c + 1) hr)) := by
  obtain ⟨s, x, hC, hM, hw, hO⟩ := h
  have hw1 := wf_s hw
  have hP : wfP s.now s.nl := hw.1.1.2.1
  have hd := hw.1.2
  have hB : 1000 * c + 2000 < 2 ^ 31 := by omega
  have hB4 : 1000 * c + 400 < 2 ^ 31 := by omega
  have h7 := hC.nw.2
  have hl6 := hC.ev.2.2.1
  have hr7 : ∀ j, j < s.ac → (ringAt s j).n ≤ 7 := fun j hj => (hw.2.1 j hj).1.2.2.2
  refine c_So_rooms hC (fun z hq ha hC2 => ?_) (fun z hq B2 bs2 an2 R2 ha hC2 hR hb => ?_)
  · exact ⟨o12 (mmt hM ha r103), m_rooms (mmt hM ha r103) hP hd hB4 (fun _ hr y har hM3 => ⟨rfl, rel_fin ha r103 hO hC2 har hM3 hw1⟩) (fun z' => absurd z z')⟩
  · refine ⟨o12 (mmt hM ha r103), m_rooms (mmt hM ha r103) hP hd hB4 (fun z' => absurd z' z) (fun z' hr y v har hM3 => ?_)⟩
    obtain ⟨e1, e2⟩ := hM3 B2 bs2 an2 R2 hR hb
    exact ⟨e1.symm, rel_fin ha r103 hO hC2 har e2 hw1⟩
theorem p_cellars (h : Rel c hp) (hc : c ≤ 512) : xMi l 100 b lo gz m_So_cellars [.ref 0] hp (fun r hq => is12 hq ∧ xMi l 100 b lo gz m_Mo_cellars [.ref 103] hq (fun r2 hr => r2 = r ∧ Rel (c + 1) hr)) := by
  obtain ⟨s, x, hC, hM, hw, hO⟩ := h
  have hw1 := wf_s hw
  have hP : wfP s.now s.nl := hw.1.1.2.1
  have hd := hw.1.2
  have hB : 1000 * c + 2000 < 2 ^ 31 := by omega
  have hB4 : 1000 * c + 400 < 2 ^ 31 := by omega
  have h7 := hC.nw.2
  have hl6 := hC.ev.2.2.1
  have hr7 : ∀ j, j < s.ac → (ringAt s j).n ≤ 7 := fun j hj => (hw.2.1 j hj).1.2.2.2
  refine c_So_cellars hC (fun z hq ha hC2 => ?_) (fun z hq B2 bs2 an2 R2 ha hC2 hR hb => ?_)
  · exact ⟨o12 (mmt hM ha r103), m_cellars (mmt hM ha r103) hP hd hB4 (fun _ hr y har hM3 => ⟨rfl, rel_fin ha r103 hO hC2 har hM3 hw1⟩) (fun z' => absurd z z')⟩
  · refine ⟨o12 (mmt hM ha r103), m_cellars (mmt hM ha r103) hP hd hB4 (fun z' => absurd z' z) (fun z' hr y v har hM3 => ?_)⟩
    obtain ⟨e1, e2⟩ := hM3 B2 bs2 an2 R2 hR hb
    exact ⟨e1.symm, rel_fin ha r103 hO hC2 har e2 hw1⟩
theorem p_saw (h : Rel c hp) (hc : c ≤ 512) : xMi l 100 b lo gz m_So_saw [.ref 0, .int one, .int hh] hp (fun r hq => is12 hq ∧ xMi l 100 b lo gz m_Mo_saw [.ref 103, .int one, .int hh] hq (fun r2 hr => r2 = r ∧ Rel (c + 1) hr)) := by
  obtain ⟨s, x, hC, hM, hw, hO⟩ := h
  have hw1 := wf_s hw
  have hP : wfP s.now s.nl := hw.1.1.2.1
  have hd := hw.1.2
  have hB : 1000 * c + 2000 < 2 ^ 31 := by omega
  have hB4 : 1000 * c + 400 < 2 ^ 31 := by omega
  have h7 := hC.nw.2
  have hl6 := hC.ev.2.2.1
  have hr7 : ∀ j, j < s.ac → (ringAt s j).n ≤ 7 := fun j hj => (hw.2.1 j hj).1.2.2.2
  refine c_So_saw hC (fun z => ?_) (fun i hi e1 q1 q2 q3 hq ha hC2 => ?_)
  · exact ⟨o12 hM, m_saw hM (fun _ hr y har hM2 => ⟨rfl, rel_fin (xAg_rf _ []) (by simp) hO hC har hM2 hw1⟩) (fun z' => absurd z z')⟩
  · subst e1
    refine ⟨o12 (mmt hM ha (by decide)), m_saw (mmt hM ha (by decide)) (fun z => (False.elim (Or.elim z (fun z => no_has h7 hi rfl z) (fun z => (Or.elim z (fun z => q1 z) (fun z => (Or.elim z (fun z => absurd z (Int32.not_lt.mpr q2)) (fun z => ((absurd z (by omega))))))))))) (fun z' hr y har hM3 => ⟨rfl, rel_fin ha (by decide) hO hC2 har hM3 ?_⟩)⟩
    obtain ⟨a1, a2, a3, a4, a5, a6, a7⟩ := hw1
    refine ⟨a1, a2, a3, a4, a5, fun k hk => ?_, a7⟩
    by_cases e : k = s.sn
    · exact ⟨i, hi, by rw [e]; exact upd_i⟩
    · obtain ⟨i2, hi2, e2⟩ := a6 k (by have : k < s.sn + 1 := hk; omega)
      exact ⟨i2, hi2, (if_neg e : upd s.s1 s.sn (nI i) k = s.s1 k).trans e2⟩
theorem p_denies (h : Rel c hp) (hc : c ≤ 512) : xMi l 100 b lo gz m_So_denies [.ref 0] hp (fun r hq => is12 hq ∧ xMi l 100 b lo gz m_Mo_denies [.ref 103] hq (fun r2 hr => r2 = r ∧ Rel (c + 1) hr)) := by
  obtain ⟨s, x, hC, hM, hw, hO⟩ := h
  have hw1 := wf_s hw
  have hP : wfP s.now s.nl := hw.1.1.2.1
  have hd := hw.1.2
  have hB : 1000 * c + 2000 < 2 ^ 31 := by omega
  have hB4 : 1000 * c + 400 < 2 ^ 31 := by omega
  have h7 := hC.nw.2
  have hl6 := hC.ev.2.2.1
  have hr7 : ∀ j, j < s.ac → (ringAt s j).n ≤ 7 := fun j hj => (hw.2.1 j hj).1.2.2.2
  refine c_So_denies hC (fun hq ha hC2 => ?_)
  refine ⟨o12 (mmt hM ha (by decide)), m_denies (mmt hM ha (by decide)) (fun hr y har hM3 => ⟨rfl, rel_fin ha (by decide) hO hC2 har hM3 ?_⟩)⟩
  obtain ⟨a1, a2, a3, a4, a5, a6, a7⟩ := hw1
  exact ⟨a1, a2, a3, a4, a5, fun k hk => absurd hk (Nat.not_lt_zero _), a7⟩
theorem p_forget (h : Rel c hp) (hc : c ≤ 512) : xMi l 100 b lo gz m_So_forget [.ref 0] hp (fun r hq => is12 hq ∧ xMi l 100 b lo gz m_Mo_forget [.ref 103] hq (fun r2 hr => r2 = r ∧ Rel (c + 1) hr)) := by
  obtain ⟨s, x, hC, hM, hw, hO⟩ := h
  have hw1 := wf_s hw
  have hP : wfP s.now s.nl := hw.1.1.2.1
  have hd := hw.1.2
  have hB : 1000 * c + 2000 < 2 ^ 31 := by omega
  have hB4 : 1000 * c + 400 < 2 ^ 31 := by omega
  have h7 := hC.nw.2
  have hl6 := hC.ev.2.2.1
  have hr7 : ∀ j, j < s.ac → (ringAt s j).n ≤ 7 := fun j hj => (hw.2.1 j hj).1.2.2.2
  refine c_So_forget hC (fun hq ha hC2 => ?_)
  refine ⟨o12 (mmt hM ha (by decide)), m_forget (mmt hM ha (by decide)) (fun hr y har hM3 => ⟨rfl, rel_fin ha (by decide) hO hC2 har hM3 ?_⟩)⟩
  obtain ⟨a1, a2, a3, a4, a5, a6, a7, a8⟩ := hw1
  exact ⟨a1, a2, a3, a4, a5, a6, fun k hk => absurd hk (Nat.not_lt_zero _), a8⟩
theorem p_heard (h : Rel c hp) (hc : c ≤ 512) : xMi l 100 b lo gz m_So_heard [.ref 0, .int w, .int v] hp (fun r hq => is12 hq ∧ xMi l 100 b lo gz m_Mo_heard [.ref 103, .int w, .int v] hq (fun r2 hr => r2 = r ∧ Rel (c + 1) hr)) := by
  obtain ⟨s, x, hC, hM, hw, hO⟩ := h
  have hw1 := wf_s hw
  have hP : wfP s.now s.nl := hw.1.1.2.1
  have hd := hw.1.2
  have hB : 1000 * c + 2000 < 2 ^ 31 := by omega
  have hB4 : 1000 * c + 400 < 2 ^ 31 := by omega
  have h7 := hC.nw.2
  have hl6 := hC.ev.2.2.1
  have hr7 : ∀ j, j < s.ac → (ringAt s j).n ≤ 7 := fun j hj => (hw.2.1 j hj).1.2.2.2
  refine c_So_heard hC (fun z => ?_) (fun q1 q2 q3 hq ha hC2 => ?_)
  · exact ⟨o12 hM, m_heard hM (fun _ hr y har hM2 => ⟨rfl, rel_fin (xAg_rf _ []) (by simp) hO hC har hM2 hw1⟩) (fun q1 q2 q3 => (False.elim (Or.elim z (fun z => q1 z) (fun z => (Or.elim z (fun z => absurd z (Int32.not_lt.mpr q2)) (fun z => ((absurd z (by omega)))))))))⟩
  · refine ⟨o12 (mmt hM ha (by decide)), m_heard (mmt hM ha (by decide)) (fun z => (False.elim (Or.elim z (fun z => q1 z) (fun z => (Or.elim z (fun z => absurd z (Int32.not_lt.mpr q2)) (fun z => ((absurd z (by omega))))))))) (fun _ _ _ hr y har hM3 => ⟨rfl, rel_fin ha (by decide) hO hC2 har hM3 ?_⟩)⟩
    have hwv : w = 0 ∨ w = 1 ∨ w = 2 ∨ w = 3 ∨ w = 4 := Classical.byContradiction fun z => by
      have e : hmo w = -1 := by
        unfold hmo
        rw [if_neg (fun e => z (Or.inl e)), if_neg (fun e => z (Or.inr (Or.inl e))), if_neg (fun e => z (Or.inr (Or.inr (Or.inl e)))), if_neg (fun e => z (Or.inr (Or.inr (Or.inr (Or.inl e))))), if_neg (fun e => z (Or.inr (Or.inr (Or.inr (Or.inr e)))))]
      rw [e] at q2
      exact q1 (Int32.lt_of_le_of_lt q2 (by decide))
    obtain ⟨a1, a2, a3, a4, a5, a6, a7, a8⟩ := hw1
    refine ⟨a1, a2, a3, a4, a5, a6, fun k hk => ?_, a8⟩
    by_cases e : k = s.rn
    · have e2 : upd s.r1 s.rn w k = w := by rw [e]; exact upd_i
      show upd s.r1 s.rn w k = 0 ∨ upd s.r1 s.rn w k = 1 ∨ upd s.r1 s.rn w k = 2 ∨ upd s.r1 s.rn w k = 3 ∨ upd s.r1 s.rn w k = 4
      rw [e2]
      exact hwv
    · have e2 : upd s.r1 s.rn w k = s.r1 k := if_neg e
      have := a7 k (by have : k < s.rn + 1 := hk; omega)
      show upd s.r1 s.rn w k = 0 ∨ upd s.r1 s.rn w k = 1 ∨ upd s.r1 s.rn w k = 2 ∨ upd s.r1 s.rn w k = 3 ∨ upd s.r1 s.rn w k = 4
      rw [e2]
      exact this
theorem p_guess (h : Rel c hp) (hc : c ≤ 512) : xMi l 100 b lo gz m_So_guess [.ref 0] hp (fun r hq => is12 hq ∧ xMi l 100 b lo gz m_Mo_guess [.ref 103] hq (fun r2 hr => r2 = r ∧ Rel (c + 1) hr)) := by
  obtain ⟨s, x, hC, hM, hw, hO⟩ := h
  have hw1 := wf_s hw
  have hP : wfP s.now s.nl := hw.1.1.2.1
  have hd := hw.1.2
  have hB : 1000 * c + 2000 < 2 ^ 31 := by omega
  have hB4 : 1000 * c + 400 < 2 ^ 31 := by omega
  have h7 := hC.nw.2
  have hl6 := hC.ev.2.2.1
  have hr7 : ∀ j, j < s.ac → (ringAt s j).n ≤ 7 := fun j hj => (hw.2.1 j hj).1.2.2.2
  refine c_So_guess hC (fun hq ha hC2 => ?_)
  exact ⟨o12 (mmt hM ha r103), m_guess (mmt hM ha r103) hP hw.2.2.2.2.2.1 hd hB4 (sky_nI hw hc) (fun hr y har hM3 => ⟨rfl, rel_fin ha r103 hO hC2 har hM3 hw1⟩)⟩
theorem p_looks (h : Rel c hp) (hc : c ≤ 512) : xMi l 100 b lo gz m_So_looks [.ref 0] hp (fun r hq => is12 hq ∧ xMi l 100 b lo gz m_Mo_looks [.ref 103] hq (fun r2 hr => r2 = r ∧ Rel (c + 1) hr)) := by
  obtain ⟨s, x, hC, hM, hw, hO⟩ := h
  have hw1 := wf_s hw
  have hP : wfP s.now s.nl := hw.1.1.2.1
  have hd := hw.1.2
  have hB : 1000 * c + 2000 < 2 ^ 31 := by omega
  have hB4 : 1000 * c + 400 < 2 ^ 31 := by omega
  have h7 := hC.nw.2
  have hl6 := hC.ev.2.2.1
  have hr7 : ∀ j, j < s.ac → (ringAt s j).n ≤ 7 := fun j hj => (hw.2.1 j hj).1.2.2.2
  refine c_So_looks hC (fun z hq ha hC2 => ?_) (fun z1 z2 hq ha hC2 => ?_)
  · exact ⟨o12 (mmt hM ha r103), m_looks (mmt hM ha r103) hP hw.2.2.2.2.2.1 (fun _ hr y har hM3 => ⟨rfl, rel_fin ha r103 hO hC2 har hM3 hw1⟩) (fun z1 z2 => (z.elim z1 z2).elim)⟩
  · exact ⟨o12 (mmt hM ha r103), m_looks (mmt hM ha r103) hP hw.2.2.2.2.2.1 (fun z => (z.elim z1 z2).elim) (fun _ _ hr y har hM3 => ⟨rfl, rel_fin ha r103 hO hC2 har hM3 hw1⟩)⟩
theorem p_fits (h : Rel c hp) (hc : c ≤ 512) : xMi l 100 b lo gz m_So_fits [.ref 0] hp (fun r hq => is12 hq ∧ xMi l 100 b lo gz m_Mo_fits [.ref 103] hq (fun r2 hr => r2 = r ∧ Rel (c + 1) hr)) := by
  obtain ⟨s, x, hC, hM, hw, hO⟩ := h
  have hw1 := wf_s hw
  have hP : wfP s.now s.nl := hw.1.1.2.1
  have hd := hw.1.2
  have hB : 1000 * c + 2000 < 2 ^ 31 := by omega
  have hB4 : 1000 * c + 400 < 2 ^ 31 := by omega
  have h7 := hC.nw.2
  have hl6 := hC.ev.2.2.1
  have hr7 : ∀ j, j < s.ac → (ringAt s j).n ≤ 7 := fun j hj => (hw.2.1 j hj).1.2.2.2
  refine c_So_fits hC (fun hq ha hC2 => ?_)
  exact ⟨o12 (mmt hM ha r103), m_fits (mmt hM ha r103) hP hd hB4 hw.2.2.2.2.2.2.1 (fun hr y har hM3 => ⟨rfl, rel_fin ha r103 hO hC2 har hM3 hw1⟩)⟩
theorem p_asks (h : Rel c hp) (hc : c ≤ 512) : xMi l 100 b lo gz m_So_asks [.ref 0] hp (fun r hq => is12 hq ∧ xMi l 100 b lo gz m_Mo_asks [.ref 103] hq (fun r2 hr => r2 = r ∧ Rel (c + 1) hr)) := by
  obtain ⟨s, x, hC, hM, hw, hO⟩ := h
  have hw1 := wf_s hw
  have hP : wfP s.now s.nl := hw.1.1.2.1
  have hd := hw.1.2
  have hB : 1000 * c + 2000 < 2 ^ 31 := by omega
  have hB4 : 1000 * c + 400 < 2 ^ 31 := by omega
  have h7 := hC.nw.2
  have hl6 := hC.ev.2.2.1
  have hr7 : ∀ j, j < s.ac → (ringAt s j).n ≤ 7 := fun j hj => (hw.2.1 j hj).1.2.2.2
  refine c_So_asks hC (fun z hq ha hC2 => ?_) (fun z hq ha hC2 => ?_)
  · exact ⟨o12 (mmt hM ha r103), m_asks (mmt hM ha r103) hP hd hB4 hw.2.2.2.2.2.2.1 (fun _ hr y har hM3 => ⟨rfl, rel_fin ha r103 hO hC2 har hM3 hw1⟩) (fun z' => absurd z z')⟩
  · exact ⟨o12 (mmt hM ha r103), m_asks (mmt hM ha r103) hP hd hB4 hw.2.2.2.2.2.2.1 (fun z' => absurd z' z) (fun _ hr y har hM3 => ⟨rfl, rel_fin ha r103 hO hC2 har hM3 hw1⟩)⟩
theorem p_chance (h : Rel c hp) (hc : c ≤ 512) : xMi l 100 b lo gz m_So_chance [.ref 0, .int one, .int n, .int te, .int go] hp (fun r hq => is12 hq ∧ xMi l 100 b lo gz m_Mo_chance [.ref 103, .int one, .int n, .int te, .int go] hq (fun r2 hr => r2 = r ∧ Rel (c + 1) hr)) := by
  obtain ⟨s, x, hC, hM, hw, hO⟩ := h
  have hw1 := wf_s hw
  have hP : wfP s.now s.nl := hw.1.1.2.1
  have hd := hw.1.2
  have hB : 1000 * c + 2000 < 2 ^ 31 := by omega
  have hB4 : 1000 * c + 400 < 2 ^ 31 := by omega
  have h7 := hC.nw.2
  have hl6 := hC.ev.2.2.1
  have hr7 : ∀ j, j < s.ac → (ringAt s j).n ≤ 7 := fun j hj => (hw.2.1 j hj).1.2.2.2
  have k0 : ∀ i N, i < s.now.n → one = nI i → N ≤ 8 → n = nI N → ¬ te < 0 → te ≤ 10 → ¬ go < 0 → go ≤ 72 → ¬ (yhas one (nI s.now.n) = 0 ∨ n < 0 ∨ 8 < n ∨ te < 0 ∨ 10 < te ∨ go < 0 ∨ 72 < go) := fun i N hi e1 hN e2 q1 q2 q3 q4 => (fun z => (Or.elim z (fun z => no_has h7 hi e1 z) (fun z => (Or.elim z (fun z => no_lt (by omega) e2 z) (fun z => (Or.elim z (fun z => no_gt (m := 8) (by decide) (by omega) e2 z) (fun z => (Or.elim z (fun z => q1 z) (fun z => (Or.elim z (fun z => absurd z (Int32.not_lt.mpr q2)) (fun z => (Or.elim z (fun z => q3 z) (fun z => (absurd z (Int32.not_lt.mpr q4)))))))))))))))
  refine c_So_chance hC (fun z => ?_) (fun i N hi e1 hN e2 q1 q2 q3 q4 hq ha hC2 _ => ?_)
  · exact ⟨o12 hM, m_chance hM hP (fun _ hr y har hM2 => ⟨rfl, rel_fin (xAg_rf _ []) (by simp) hO hC har hM2 hw1⟩) (fun i N hi e1 hN e2 q1 q2 q3 q4 => (k0 i N hi e1 hN e2 q1 q2 q3 q4 z).elim)⟩
  · refine ⟨o12 (mmt hM ha r103), m_chance (mmt hM ha r103) hP (fun z => (k0 i N hi e1 hN e2 q1 q2 q3 q4 z).elim) (fun i' N' hi' e1' hN' e2' _ _ _ _ hr y har hpos hM3 => ?_)⟩
    obtain rfl : i = i' := nI_c (by omega) (by omega) e1 e1'
    obtain rfl : N = N' := nI_c (by omega) (by omega) e2 e2'
    exact ⟨rfl, rel_fin ha r103 hO (hC2 hpos) har hM3 hw1⟩
theorem p_parasol (h : Rel c hp) (hc : c ≤ 512) : xMi l 100 b lo gz m_So_parasol [.ref 0, .int n] hp (fun r hq => is12 hq ∧ xMi l 100 b lo gz m_Mo_parasol [.ref 103, .int n] hq (fun r2 hr => r2 = r ∧ Rel (c + 1) hr)) := by
  obtain ⟨s, x, hC, hM, hw, hO⟩ := h
  have hw1 := wf_s hw
  have hP : wfP s.now s.nl := hw.1.1.2.1
  have hd := hw.1.2
  have hB : 1000 * c + 2000 < 2 ^ 31 := by omega
  have hB4 : 1000 * c + 400 < 2 ^ 31 := by omega
  have h7 := hC.nw.2
  have hl6 := hC.ev.2.2.1
  have hr7 : ∀ j, j < s.ac → (ringAt s j).n ≤ 7 := fun j hj => (hw.2.1 j hj).1.2.2.2
  refine c_So_parasol (fun z => ?_) (fun N hN e1 => ?_)
  · exact ⟨o12 hM, m_parasol hM (fun _ hr y har hM2 => ⟨rfl, rel_fin (xAg_rf _ []) (by simp) hO hC har hM2 hw1⟩) (fun N hN e1 => (False.elim (Or.elim z (fun z => no_lt (by omega) e1 z) (fun z => (no_gt (m := 60) (by decide) (by omega) e1 z)))))⟩
  · exact ⟨o12 hM, m_parasol hM (fun z => (False.elim (Or.elim z (fun z => no_lt (by omega) e1 z) (fun z => (no_gt (m := 60) (by decide) (by omega) e1 z))))) (fun N' hN' e1' hr y har hM2 => ⟨rfl, rel_fin (xAg_rf _ []) (by simp) hO hC har hM2 hw1⟩)⟩
theorem p_rests (h : Rel c hp) (hc : c ≤ 512) : xMi l 100 b lo gz m_So_rests [.ref 0, .int v] hp (fun r hq => is12 hq ∧ xMi l 100 b lo gz m_Mo_rests [.ref 103, .int v] hq (fun r2 hr => r2 = r ∧ Rel (c + 1) hr)) := by
  obtain ⟨s, x, hC, hM, hw, hO⟩ := h
  have hw1 := wf_s hw
  have hP : wfP s.now s.nl := hw.1.1.2.1
  have hd := hw.1.2
  have hB : 1000 * c + 2000 < 2 ^ 31 := by omega
  have hB4 : 1000 * c + 400 < 2 ^ 31 := by omega
  have h7 := hC.nw.2
  have hl6 := hC.ev.2.2.1
  have hr7 : ∀ j, j < s.ac → (ringAt s j).n ≤ 7 := fun j hj => (hw.2.1 j hj).1.2.2.2
  refine c_So_rests hC (fun z => ?_) (fun q1 q2 hq ha c1 c2 => ?_)
  · exact ⟨o12 hM, m_rests hM (fun _ hr y har hM2 => ⟨rfl, rel_fin (xAg_rf _ []) (by simp) hO hC har hM2 hw1⟩) (fun q1 q2 => (False.elim (Or.elim z (fun z => q1 z) (fun z => (absurd z (Int32.not_lt.mpr q2))))))⟩
  · refine ⟨o12 (mmt hM ha (by decide)), m_rests (mmt hM ha (by decide)) (fun z => (False.elim (Or.elim z (fun z => q1 z) (fun z => (absurd z (Int32.not_lt.mpr q2)))))) (fun _ _ hr y har hM3 => ?_)⟩
    by_cases z : (rsO v 10).1 = 0
    · have e9 : rsS s (rsO v 10) = s.wRow s.R 0 := if_pos z
      rw [e9] at hM3
      exact ⟨rfl, rel_fin ha (by decide) hO (c1 z) har hM3 hw1⟩
    · have e9 : rsS s (rsO v 10) = s.wRow (vp_updL (vp_updL s.R 0 (nI (rsO v 10).2.1).toInt64) 1 (nI (rsO v 10).2.2).toInt64) 2 := if_neg z
      rw [e9] at hM3
      exact ⟨rfl, rel_fin ha (by decide) hO (c2 z) har hM3 hw1⟩
theorem p_count (h : Rel c hp) (hc : c ≤ 512) : xMi l 100 b lo gz m_So_count [.ref 0, .int w] hp (fun r hq => is12 hq ∧ xMi l 100 b lo gz m_Mo_count [.ref 103, .int w] hq (fun r2 hr => r2 = r ∧ Rel (c + 1) hr)) := by
  obtain ⟨s, x, hC, hM, hw, hO⟩ := h
  have hw1 := wf_s hw
  have hP : wfP s.now s.nl := hw.1.1.2.1
  have hd := hw.1.2
  have hB : 1000 * c + 2000 < 2 ^ 31 := by omega
  have hB4 : 1000 * c + 400 < 2 ^ 31 := by omega
  have h7 := hC.nw.2
  have hl6 := hC.ev.2.2.1
  have hr7 : ∀ j, j < s.ac → (ringAt s j).n ≤ 7 := fun j hj => (hw.2.1 j hj).1.2.2.2
  refine c_So_count hC (fun hq ha hC2 => ?_)
  exact ⟨o12 (mmt hM ha (by decide)), m_count (mmt hM ha (by decide)) hP hd hB4 (fun hr y har hM3 => ⟨rfl, rel_fin ha (by decide) hO hC2 har hM3 hw1⟩)⟩
theorem p_sign (h : Rel c hp) (hc : c ≤ 512) : xMi l 100 b lo gz m_So_sign [.ref 0, .int v] hp (fun r hq => is12 hq ∧ xMi l 100 b lo gz m_Mo_sign [.ref 103, .int v] hq (fun r2 hr => r2 = r ∧ Rel (c + 1) hr)) := by
  obtain ⟨s, x, hC, hM, hw, hO⟩ := h
  have hw1 := wf_s hw
  have hP : wfP s.now s.nl := hw.1.1.2.1
  have hd := hw.1.2
  have hB : 1000 * c + 2000 < 2 ^ 31 := by omega
  have hB4 : 1000 * c + 400 < 2 ^ 31 := by omega
  have h7 := hC.nw.2
  have hl6 := hC.ev.2.2.1
  have hr7 : ∀ j, j < s.ac → (ringAt s j).n ≤ 7 := fun j hj => (hw.2.1 j hj).1.2.2.2
  refine c_So_sign hC (fun z => ?_) (fun z hq ha hC2 => ?_)
  · exact ⟨o12 hM, m_sign hM (fun _ hr y har hM2 => ⟨rfl, rel_fin (xAg_rf _ []) (by simp) hO hC har hM2 hw1⟩) (fun z' => absurd z (by omega))⟩
  · exact ⟨o12 (mmt hM ha (by decide)), m_sign (mmt hM ha (by decide)) (fun z' => absurd z' (by omega)) (fun _ hr y har hM3 => ⟨rfl, rel_fin ha (by decide) hO hC2 har hM3 hw1⟩)⟩
theorem p_end (h : Rel c hp) (hc : c ≤ 512) : xMi l 100 b lo gz m_So_end [.ref 0, .int n] hp (fun r hq => is12 hq ∧ xMi l 100 b lo gz m_Mo_end [.ref 103, .int n] hq (fun r2 hr => r2 = r ∧ Rel (c + 1) hr)) := by
  obtain ⟨s, x, hC, hM, hw, hO⟩ := h
  have hw1 := wf_s hw
  have hP : wfP s.now s.nl := hw.1.1.2.1
  have hd := hw.1.2
  have hB : 1000 * c + 2000 < 2 ^ 31 := by omega
  have hB4 : 1000 * c + 400 < 2 ^ 31 := by omega
  have h7 := hC.nw.2
  have hl6 := hC.ev.2.2.1
  have hr7 : ∀ j, j < s.ac → (ringAt s j).n ≤ 7 := fun j hj => (hw.2.1 j hj).1.2.2.2
  have ht80 := hC.tx.2
  refine c_So_end hC (fun z => ?_) (fun p hp2 e1 hq ha hC2 => ?_)
  · exact ⟨o12 hM, m_end hM (fun _ hr y har hM2 => ⟨rfl, rel_fin (xAg_rf _ []) (by simp) hO hC har hM2 hw1⟩) (fun p hp2 e1 => (z.elim (no_lt (by omega) e1) (no_gt (by omega) hp2 e1)).elim)⟩
  · refine ⟨o12 (mmt hM ha (by decide)), m_end (mmt hM ha (by decide)) (fun z => (z.elim (no_lt (by omega) e1) (no_gt (by omega) hp2 e1)).elim) (fun p' hp2' e1' hr y har hM3 => ?_)⟩
    obtain rfl : p = p' := nI_c (by omega) (by omega) e1 e1'
    exact ⟨rfl, rel_fin ha (by decide) hO hC2 har hM3 hw1⟩
theorem p_skies (h : Rel c hp) (hc : c ≤ 512) : xMi l 100 b lo gz m_So_skies [.ref 0] hp (fun r hq => is12 hq ∧ xMi l 100 b lo gz m_Mo_skies [.ref 103] hq (fun r2 hr => r2 = r ∧ Rel (c + 1) hr)) := by
  obtain ⟨s, x, hC, hM, hw, hO⟩ := h
  have hw1 := wf_s hw
  have hP : wfP s.now s.nl := hw.1.1.2.1
  have hd := hw.1.2
  have hB : 1000 * c + 2000 < 2 ^ 31 := by omega
  have hB4 : 1000 * c + 400 < 2 ^ 31 := by omega
  have h7 := hC.nw.2
  have hl6 := hC.ev.2.2.1
  have hr7 : ∀ j, j < s.ac → (ringAt s j).n ≤ 7 := fun j hj => (hw.2.1 j hj).1.2.2.2
  refine c_So_skies hC (fun z hq ha hC2 => ?_) (fun z q1 q2 hq ha hC2 => ?_)
  · exact ⟨o12 (mmt hM ha (by decide)), m_skies (mmt hM ha (by decide)) (fun _ hr y har hM3 => ⟨rfl, rel_fin ha (by decide) hO hC2 har hM3 hw1⟩) (fun z' => absurd z' z)⟩
  · refine ⟨o12 (mmt hM ha (by decide)), m_skies (mmt hM ha (by decide)) (fun z' => absurd z z') (fun _ _ _ hr y har hM3 => ⟨rfl, rel_fin ha (by decide) hO hC2 har hM3 ?_⟩)⟩
    obtain ⟨a1, a2, a3, a4, a5, a6⟩ := hw1
    refine ⟨a1, a2, a3, a4, ⟨s.nt, by omega, q1, rfl, fun i hi => ?_⟩, a6⟩
    show ∃ g, g < 10 ∧ (if i < s.nt then (if tisd (s.T i) = 0 then 0 else s.T i - 48) else s.sk i) = nI g
    rw [if_pos hi]
    by_cases e : tisd (s.T i) = 0
    · rw [if_pos e]; exact ⟨0, by decide, rfl⟩
    · rw [if_neg e]
      obtain ⟨g, hg, e2⟩ := dgz_of e
      exact ⟨g, hg, by rw [e2, (tisd_of g hg).2]⟩
theorem p_sheet (h : Rel c hp) (hc : c ≤ 512) : xMi l 100 b lo gz m_So_sheet [.ref 0, .int kind, .int n, .int fi, .int st] hp (fun r hq => is12 hq ∧ xMi l 100 b lo gz m_Mo_sheet [.ref 103, .int kind, .int n, .int fi, .int st] hq (fun r2 hr => r2 = r ∧ Rel (c + 1) hr)) := by
  obtain ⟨s, x, hC, hM, hw, hO⟩ := h
  have hw1 := wf_s hw
  have hP : wfP s.now s.nl := hw.1.1.2.1
  have hd := hw.1.2
  have hB : 1000 * c + 2000 < 2 ^ 31 := by omega
  have hB4 : 1000 * c + 400 < 2 ^ 31 := by omega
  have h7 := hC.nw.2
  have hl6 := hC.ev.2.2.1
  have hr7 : ∀ j, j < s.ac → (ringAt s j).n ≤ 7 := fun j hj => (hw.2.1 j hj).1.2.2.2
  refine c_So_sheet hC (fun z => ?_) (fun z1 z2 hq ha hC2 => ?_) (fun z1 z2 z3 => ?_) (fun z1 z2 z3 hq ha hC2 => ?_)
  · exact ⟨o12 hM, m_sheet hM (fun _ hr y har hM2 => ⟨rfl, rel_fin (xAg_rf _ []) (by simp) hO hC har hM2 hw1⟩) (fun z' => absurd z z') (fun z' => absurd z z') (fun z' => absurd z z')⟩
  · exact ⟨o12 (mmt hM ha (by decide)), m_sheet (mmt hM ha (by decide)) (fun z' => absurd z' z1) (fun _ _ hr y har hM3 => ⟨rfl, rel_fin ha (by decide) hO hC2 har hM3 hw1⟩) (fun _ z' => absurd z2 z') (fun _ z' => absurd z2 z')⟩
  · exact ⟨o12 hM, m_sheet hM (fun z' => absurd z' z1) (fun _ z' => absurd z' z2) (fun _ _ _ hr y har hM2 => ⟨rfl, rel_fin (xAg_rf _ []) (by simp) hO hC har hM2 hw1⟩) (fun _ _ z' => absurd z3 z')⟩
  · exact ⟨o12 (mmt hM ha (by decide)), m_sheet (mmt hM ha (by decide)) (fun z' => absurd z' z1) (fun _ z' => absurd z' z2) (fun _ _ z' => absurd z' z3) (fun _ _ _ hr y har hM3 => ⟨rfl, rel_fin ha (by decide) hO hC2 har hM3 hw1⟩)⟩
theorem p_rule (h : Rel c hp) (hc : c ≤ 512) : xMi l 100 b lo gz m_So_rule [.ref 0] hp (fun r hq => is12 hq ∧ xMi l 100 b lo gz m_Mo_rule [.ref 103] hq (fun r2 hr => r2 = r ∧ Rel (c + 1) hr)) := by
  obtain ⟨s, x, hC, hM, hw, hO⟩ := h
  have hw1 := wf_s hw
  have hP : wfP s.now s.nl := hw.1.1.2.1
  have hd := hw.1.2
  have hB : 1000 * c + 2000 < 2 ^ 31 := by omega
  have hB4 : 1000 * c + 400 < 2 ^ 31 := by omega
  have h7 := hC.nw.2
  have hl6 := hC.ev.2.2.1
  have hr7 : ∀ j, j < s.ac → (ringAt s j).n ≤ 7 := fun j hj => (hw.2.1 j hj).1.2.2.2
  obtain ⟨ok, p1, cc, vv, hD⟩ := DE_held (T := s.T) (N := s.nt) 40 0 0 (by decide) (by decide)
  refine c_So_rule hC hD (fun z1 z2 hq ha hC2 => ?_) (fun w hw2 hq ha hC2 => ?_)
  · refine ⟨o12 (mmt hM ha r103), m_rule (mmt hM ha r103) hD (fun _ _ hr y har hM3 => ⟨rfl, rel_fin ha r103 hO hC2 har hM3 hw1⟩) (fun w hw2 => ?_)⟩
    exact (hw2.elim (fun e => z1 e.1) (fun e => z2 ⟨e.2.1, e.2.2.1⟩)).elim
  · refine ⟨o12 (mmt hM ha r103), m_rule (mmt hM ha r103) hD (fun z1 z2 => (hw2.elim (fun e => z1 e.1) (fun e => z2 ⟨e.2.1, e.2.2.1⟩)).elim) (fun w' hw2' hr y har hM3 => ?_)⟩
    obtain rfl : w = w' := rlOK_u hw2 hw2'
    exact ⟨rfl, rel_fin ha r103 hO hC2 har hM3 hw1⟩
theorem p_law (h : Rel c hp) (hc : c ≤ 512) : xMi l 100 b lo gz m_So_law [.ref 0] hp (fun r hq => is12 hq ∧ xMi l 100 b lo gz m_Mo_law [.ref 103] hq (fun r2 hr => r2 = r ∧ Rel (c + 1) hr)) := by
  obtain ⟨s, x, hC, hM, hw, hO⟩ := h
  have hw1 := wf_s hw
  have hP : wfP s.now s.nl := hw.1.1.2.1
  have hd := hw.1.2
  have hB : 1000 * c + 2000 < 2 ^ 31 := by omega
  have hB4 : 1000 * c + 400 < 2 ^ 31 := by omega
  have h7 := hC.nw.2
  have hl6 := hC.ev.2.2.1
  have hr7 : ∀ j, j < s.ac → (ringAt s j).n ≤ 7 := fun j hj => (hw.2.1 j hj).1.2.2.2
  obtain ⟨ok, p1, cc, vv, hD⟩ := DE_held (T := s.T) (N := s.nt) 40 0 0 (by decide) (by decide)
  refine c_So_law hC hD (fun z1 z2 hq ha hC2 => ?_) (fun w hw2 hq ha hC2 => ?_)
  · refine ⟨o12 (mmt hM ha r103), m_law (mmt hM ha r103) hD hP hd hB4 (fun _ _ hr y har hM3 => ⟨rfl, rel_fin ha r103 hO hC2 har hM3 hw1⟩) (fun w hw2 => ?_)⟩
    exact (hw2.elim (fun e => z1 e.1) (fun e => z2 ⟨e.2.1, e.2.2.1⟩)).elim
  · refine ⟨o12 (mmt hM ha r103), m_law (mmt hM ha r103) hD hP hd hB4 (fun z1 z2 => (hw2.elim (fun e => z1 e.1) (fun e => z2 ⟨e.2.1, e.2.2.1⟩)).elim) (fun w' hw2' hr y har hM3 => ?_)⟩
    obtain rfl : w = w' := rlOK_u hw2 hw2'
    exact ⟨rfl, rel_fin ha r103 hO hC2 har hM3 hw1⟩
theorem p_places (h : Rel c hp) (hc : c ≤ 512) : xMi l 100 b lo gz m_So_places [.ref 0] hp (fun r hq => is12 hq ∧ xMi l 100 b lo gz m_Mo_places [.ref 103] hq (fun r2 hr => r2 = r ∧ Rel (c + 1) hr)) := by
  obtain ⟨s, x, hC, hM, hw, hO⟩ := h
  have hw1 := wf_s hw
  have hP : wfP s.now s.nl := hw.1.1.2.1
  have hd := hw.1.2
  have hB : 1000 * c + 2000 < 2 ^ 31 := by omega
  have hB4 : 1000 * c + 400 < 2 ^ 31 := by omega
  have h7 := hC.nw.2
  have hl6 := hC.ev.2.2.1
  have hr7 : ∀ j, j < s.ac → (ringAt s j).n ≤ 7 := fun j hj => (hw.2.1 j hj).1.2.2.2
  obtain ⟨k, hk, ek⟩ := hw.2.2.2.1
  refine c_So_places hC (fun z hq ha hC2 => ?_) (fun z1 z2 hq ha hC2 => ?_) (fun z1 z2 hq fl2 ha hC2 f0 f1 => ?_)
  · exact ⟨o12 (mmt hM ha r103), m_places (mmt hM ha r103) ek (by omega) (fun _ hr y har hM3 => ⟨rfl, rel_fin ha r103 hO hC2 har hM3 hw1⟩) (fun z' => absurd z' z) (fun z' => absurd z' z)⟩
  · exact ⟨o12 (mmt hM ha r103), m_places (mmt hM ha r103) ek (by omega) (fun z' => absurd z1 z') (fun _ _ hr y har hM3 => ⟨rfl, rel_fin ha r103 hO hC2 har hM3 hw1⟩) (fun _ z' => absurd z2 z')⟩
  · refine ⟨o12 (mmt hM ha r103), m_places (mmt hM ha r103) ek (by omega) (fun z' => absurd z1 z') (fun _ z' => absurd z' z2) (fun _ _ hr y har hM3 => ⟨rfl, rel_fin ha r103 hO (isCl_up hC2 (fun i hi => upS_lo s i hi)) har (hM3 fl2 f0 f1) ?_⟩)⟩
    have hm : s.nl ≤ (plA s (lnA s.T s.nt)).2 := by
      generalize lnA s.T s.nt = m
      induction m with
      | zero => exact Nat.le_refl _
      | succ m ih =>
        show s.nl ≤ (if (plA s m).2 < 6 then (upd (plA s m).1 (plA s m).2 (tdig s.T (nI s.nt) (2 * nI m)), (plA s m).2 + 1) else plA s m).2
        split
        · show s.nl ≤ (plA s m).2 + 1
          omega
        · exact ih
    exact wf_came (q := s.now) (lg2 := (plA s (lnA s.T s.nt)).1) (nl2 := (plA s (lnA s.T s.nt)).2) hw (wf_mono hw.1.1 hm) (Nat.le_refl _) rfl (plA_le s hl6 _) f0 f1
theorem p_people (h : Rel c hp) (hc : c ≤ 512) : xMi l 100 b lo gz m_So_people [.ref 0] hp (fun r hq => is12 hq ∧ xMi l 100 b lo gz m_Mo_people [.ref 103] hq (fun r2 hr => r2 = r ∧ Rel (c + 1) hr)) := by
  obtain ⟨s, x, hC, hM, hw, hO⟩ := h
  have hw1 := wf_s hw
  have hP : wfP s.now s.nl := hw.1.1.2.1
  have hd := hw.1.2
  have hB : 1000 * c + 2000 < 2 ^ 31 := by omega
  have hB4 : 1000 * c + 400 < 2 ^ 31 := by omega
  have h7 := hC.nw.2
  have hl6 := hC.ev.2.2.1
  have hr7 : ∀ j, j < s.ac → (ringAt s j).n ≤ 7 := fun j hj => (hw.2.1 j hj).1.2.2.2
  obtain ⟨k, hk, ek⟩ := hw.2.2.2.1
  refine c_So_people hC (fun z hq ha hC2 => ?_) (fun z1 z2 hq ha hC2 => ?_) (fun z1 z2 hq fl2 ha hC2 f0 f1 => ?_)
  · exact ⟨o12 (mmt hM ha r103), m_people (mmt hM ha r103) ek (by omega) (fun _ hr y har hM3 => ⟨rfl, rel_fin ha r103 hO hC2 har hM3 hw1⟩) (fun z' => absurd z' z) (fun z' => absurd z' z)⟩
  · exact ⟨o12 (mmt hM ha r103), m_people (mmt hM ha r103) ek (by omega) (fun z' => absurd z1 z') (fun _ _ hr y har hM3 => ⟨rfl, rel_fin ha r103 hO hC2 har hM3 hw1⟩) (fun _ z' => absurd z2 z')⟩
  · refine ⟨o12 (mmt hM ha r103), m_people (mmt hM ha r103) ek (by omega) (fun z' => absurd z1 z') (fun _ z' => absurd z' z2) (fun _ _ hdg hr y har hM3 => ⟨rfl, rel_fin ha r103 hO (isCl_up hC2 (fun i hi => upS_lo s i hi)) har (hM3 fl2 f0 f1) ?_⟩)⟩
    obtain ⟨w1, w2, w3⟩ := wf_peA hw.1.1 (lnA s.T s.nt) hdg
    exact wf_came (q := peA s (lnA s.T s.nt)) (lg2 := s.lg) (nl2 := s.nl) hw w1 w2 w3 hl6 f0 f1
theorem p_days (h : Rel c hp) (hc : c ≤ 512) : xMi l 100 b lo gz m_So_days [.ref 0, .int n] hp (fun r hq => is12 hq ∧ xMi l 100 b lo gz m_Mo_days [.ref 103, .int n] hq (fun r2 hr => r2 = r ∧ Rel (c + 1) hr)) := by
  obtain ⟨s, x, hC, hM, hw, hO⟩ := h
  have hw1 := wf_s hw
  have hP : wfP s.now s.nl := hw.1.1.2.1
  have hd := hw.1.2
  have hB : 1000 * c + 2000 < 2 ^ 31 := by omega
  have hB4 : 1000 * c + 400 < 2 ^ 31 := by omega
  have h7 := hC.nw.2
  have hl6 := hC.ev.2.2.1
  have hr7 : ∀ j, j < s.ac → (ringAt s j).n ≤ 7 := fun j hj => (hw.2.1 j hj).1.2.2.2
  refine c_So_days hC (fun z => ?_) (fun N hN e1 hq qb ha hC2 => ?_)
  · exact ⟨o12 hM, m_days hM hr7 hP hd hB4 (fun _ hr y har hM2 => ⟨rfl, rel_fin (xAg_rf _ []) (by simp) hO hC har hM2 hw1⟩) (fun N hN e1 => (False.elim (Or.elim z (fun z => no_lt (by omega) e1 z) (fun z => (no_gt (m := 60) (by decide) (by omega) e1 z)))))⟩
  · refine ⟨o12 (mmt hM ha r103), m_days (mmt hM ha r103) hr7 hP hd hB4 (fun z => (False.elim (Or.elim z (fun z => no_lt (by omega) e1 z) (fun z => (no_gt (m := 60) (by decide) (by omega) e1 z))))) (fun N' hN' e1' hr y har hM3 => ?_)⟩
    obtain rfl : N = N' := nI_c (by omega) (by omega) e1 e1'
    refine ⟨rfl, rel_fin ha r103 hO hC2 har (hM3 _ (fkE_c qb s.now)) ?_⟩
    have w1 := wf_now hw (wf_dit (s := s) hw.1.1 N) (dit_n s s.now N) (dyF_le (dyF_dit hd N) (by omega))
    by_cases z : N = 0
    · rw [if_pos z]; exact w1
    · rw [if_neg z]
      exact wf_push (s := s.wNow (dit s s.now N)) w1 (wfF_fkc hw.1.1) (dit_n s s.now N).symm (dyF_le (dyF_E hd (fkE_c qb s.now)) (by omega))
theorem p_life (h : Rel c hp) (hc : c ≤ 512) : xMi l 100 b lo gz m_So_life [.ref 0] hp (fun r hq => is12 hq ∧ xMi l 100 b lo gz m_Mo_life [.ref 103] hq (fun r2 hr => r2 = r ∧ Rel (c + 1) hr)) := by
  obtain ⟨s, x, hC, hM, hw, hO⟩ := h
  have hw1 := wf_s hw
  have hP : wfP s.now s.nl := hw.1.1.2.1
  have hd := hw.1.2
  have hB : 1000 * c + 2000 < 2 ^ 31 := by omega
  have hB4 : 1000 * c + 400 < 2 ^ 31 := by omega
  have h7 := hC.nw.2
  have hl6 := hC.ev.2.2.1
  have hr7 : ∀ j, j < s.ac → (ringAt s j).n ≤ 7 := fun j hj => (hw.2.1 j hj).1.2.2.2
  have ht80 := hC.tx.2
  refine c_So_life hC hw.1.1 (fun z hq ha hC2 => ?_) (fun z hq qb ha hC2 => ?_)
  · exact ⟨o12 (mmt hM ha r103), m_life (mmt hM ha r103) hr7 hw.1.1 hd hB (fun _ hr y har hM3 => ⟨rfl, rel_fin ha r103 hO hC2 har hM3 hw1⟩) (fun z' => absurd z' z)⟩
  · refine ⟨o12 (mmt hM ha r103), m_life (mmt hM ha r103) hr7 hw.1.1 hd hB (fun z' => absurd z z') (fun _ hr y har hM3 => ⟨rfl, rel_fin ha r103 hO hC2 har (hM3 _ (fkE_c qb s.now)) ?_⟩)⟩
    obtain ⟨c1, c2, c3⟩ := wf_lrun (s := s) (T := s.T) (N := s.nt) ht80 (by omega) 80 0 s.now (1000 * c) (Nat.zero_le _) z hw.1.1 hd
    have w1 : wfS (s.wNow (lres s).2.1) (c + 1) := wf_now hw c1 c2 (dyF_le c3 (by omega))
    by_cases e : (lres s).1 = 0
    · rw [if_pos e]; exact w1
    · rw [if_neg e]
      exact wf_push (s := s.wNow (lres s).2.1) w1 (wfF_fkc hw.1.1) c2.symm (dyF_le (dyF_E hd (fkE_c qb s.now)) (by omega))
theorem p_moves (h : Rel c hp) (hc : c ≤ 512) : xMi l 100 b lo gz m_So_moves [.ref 0, .int one, .int spot] hp (fun r hq => is12 hq ∧ xMi l 100 b lo gz m_Mo_moves [.ref 103, .int one, .int spot] hq (fun r2 hr => r2 = r ∧ Rel (c + 1) hr)) := by
  obtain ⟨s, x, hC, hM, hw, hO⟩ := h
  have hw1 := wf_s hw
  have hP : wfP s.now s.nl := hw.1.1.2.1
  have hd := hw.1.2
  have hB : 1000 * c + 2000 < 2 ^ 31 := by omega
  have hB4 : 1000 * c + 400 < 2 ^ 31 := by omega
  have h7 := hC.nw.2
  have hl6 := hC.ev.2.2.1
  have hr7 : ∀ j, j < s.ac → (ringAt s j).n ≤ 7 := fun j hj => (hw.2.1 j hj).1.2.2.2
  refine c_So_moves hC (fun z hq ha hC2 => ?_) (fun z z2 hq ha hC2 => ?_) (fun z z2 hq qb ha _ hC2 => ?_)
  · exact ⟨o12 (mmt hM ha r103), m_moves (mmt hM ha r103) hr7 (fun _ hr y har hM3 => ⟨rfl, rel_fin ha r103 hO hC2 har hM3 hw1⟩) (fun z' => absurd z z') (fun z' => absurd z z')⟩
  · exact ⟨o12 (mmt hM ha r103), m_moves (mmt hM ha r103) hr7 (fun z' => absurd z' z) (fun _ _ hr y har hM3 => ⟨rfl, rel_fin ha r103 hO hC2 har hM3 hw1⟩) (fun _ z' => absurd z2 z')⟩
  · refine ⟨o12 (mmt hM ha r103), m_moves (mmt hM ha r103) hr7 (fun z' => absurd z' z) (fun _ z' => absurd z' z2) (fun _ _ hr y har hM3 => ?_)⟩
    obtain ⟨i, hi, e1⟩ := yhas_of (by omega) (fun e => z (Or.inl e))
    obtain ⟨p, hp2, e2⟩ := yhas_of (by omega) (fun e => z (Or.inr e))
    obtain ⟨p0, hp0, ep0⟩ := hP i hi
    have hnn : ¬ 10 + yat 7 s.now.P one < 0 := by
      rw [e1, yat_nI (show i < 7 by omega) y7', ep0, show (10 : Int32) + nI p0 = nI (10 + p0) from nI_ad 10 p0]
      exact nI_neg (by omega)
    have hwq : wfF (s.now.A, yput 7 s.now.P one spot, s.now.S, s.now.n, s.now.day) s.nl := by
      rw [e1, e2, yput_nI (show i < 7 by omega) y7']
      exact wf_yputP hw.1.1 hi hp2
    refine ⟨rfl, rel_fin ha r103 hO (hC2 hnn) har (hM3 _ (fkE_c qb s.now)) ?_⟩
    exact wf_push (s := s.wNow _) (wf_now hw hwq rfl (dyF_le (q := s.now) hd (by omega))) (wfF_fkc hw.1.1) rfl (dyF_le (dyF_E hd (fkE_c qb s.now)) (by omega))
theorem p_swaps (h : Rel c hp) (hc : c ≤ 512) : xMi l 100 b lo gz m_So_swaps [.ref 0, .int one, .int other] hp (fun r hq => is12 hq ∧ xMi l 100 b lo gz m_Mo_swaps [.ref 103, .int one, .int other] hq (fun r2 hr => r2 = r ∧ Rel (c + 1) hr)) := by
  obtain ⟨s, x, hC, hM, hw, hO⟩ := h
  have hw1 := wf_s hw
  have hP : wfP s.now s.nl := hw.1.1.2.1
  have hd := hw.1.2
  have hB : 1000 * c + 2000 < 2 ^ 31 := by omega
  have hB4 : 1000 * c + 400 < 2 ^ 31 := by omega
  have h7 := hC.nw.2
  have hl6 := hC.ev.2.2.1
  have hr7 : ∀ j, j < s.ac → (ringAt s j).n ≤ 7 := fun j hj => (hw.2.1 j hj).1.2.2.2
  refine c_So_swaps hC (fun z hq ha hC2 => ?_) (fun z z2 hq ha hC2 => ?_) (fun z z2 hq qb ha _ hC2 => ?_)
  · exact ⟨o12 (mmt hM ha r103), m_swaps (mmt hM ha r103) hr7 hP (fun _ hr y har hM3 => ⟨rfl, rel_fin ha r103 hO hC2 har hM3 hw1⟩) (fun z' => absurd z z') (fun z' => absurd z z')⟩
  · exact ⟨o12 (mmt hM ha r103), m_swaps (mmt hM ha r103) hr7 hP (fun z' => absurd z' z) (fun _ _ hr y har hM3 => ⟨rfl, rel_fin ha r103 hO hC2 har hM3 hw1⟩) (fun _ z' => absurd z2 z')⟩
  · refine ⟨o12 (mmt hM ha r103), m_swaps (mmt hM ha r103) hr7 hP (fun z' => absurd z' z) (fun _ z' => absurd z' z2) (fun _ _ hr y har hM3 => ?_)⟩
    obtain ⟨i, hi, e1⟩ := yhas_of (by omega) (fun e => z (Or.inl e))
    obtain ⟨o, ho, e2⟩ := yhas_of (by omega) (fun e => z (Or.inr (Or.inl e)))
    obtain ⟨p0, hp0, ep0⟩ := hP i hi
    obtain ⟨p1, hp1, ep1⟩ := hP o ho
    have hnn : ¬ yabs (yat 7 s.now.P one - yat 7 s.now.P other) < 0 := by
      rw [e1, e2, yat_nI (show i < 7 by omega) y7', yat_nI (show o < 7 by omega) y7', ep0, ep1, yabs_nI (by omega) (by omega)]
      exact nI_neg (by omega)
    have hwq : wfF (s.now.A, ytrd s.now.P one other, s.now.S, s.now.n, s.now.day) s.nl := by
      unfold ytrd
      rw [e1, e2, yat_nI (show i < 7 by omega) y7', yat_nI (show o < 7 by omega) y7', yput_nI (show i < 7 by omega) y7', yput_nI (show o < 7 by omega) y7', ep0, ep1]
      exact wf_yputP (q := (s.now.A, upd s.now.P i (nI p1), s.now.S, s.now.n, s.now.day)) (wf_yputP hw.1.1 hi hp1) ho hp0
    refine ⟨rfl, rel_fin ha r103 hO (hC2 hnn) har (hM3 _ (fkE_c qb s.now)) ?_⟩
    exact wf_push (s := s.wNow _) (wf_now hw hwq rfl (dyF_le (q := s.now) hd (by omega))) (wfF_fkc hw.1.1) rfl (dyF_le (dyF_E hd (fkE_c qb s.now)) (by omega))
theorem p_deeds (h : Rel c hp) (hc : c ≤ 512) : xMi l 100 b lo gz m_So_deeds [.ref 0, .int one] hp (fun r hq => is12 hq ∧ xMi l 100 b lo gz m_Mo_deeds [.ref 103, .int one] hq (fun r2 hr => r2 = r ∧ Rel (c + 1) hr)) := by
  obtain ⟨s, x, hC, hM, hw, hO⟩ := h
  have hw1 := wf_s hw
  have hP : wfP s.now s.nl := hw.1.1.2.1
  have hd := hw.1.2
  have hB : 1000 * c + 2000 < 2 ^ 31 := by omega
  have hB4 : 1000 * c + 400 < 2 ^ 31 := by omega
  have h7 := hC.nw.2
  have hl6 := hC.ev.2.2.1
  have hr7 : ∀ j, j < s.ac → (ringAt s j).n ≤ 7 := fun j hj => (hw.2.1 j hj).1.2.2.2
  refine c_So_deeds hC (fun z hq ha hC2 => ?_) (fun z z2 hq ha hC2 => ?_) (fun z z2 hq qb ha _ hC2 => ?_)
  · exact ⟨o12 (mmt hM ha r103), m_deeds (mmt hM ha r103) hr7 hP hd (by omega) (fun _ hr y har hM3 => ⟨rfl, rel_fin ha r103 hO hC2 har hM3 hw1⟩) (fun z' => absurd z z') (fun z' => absurd z z')⟩
  · exact ⟨o12 (mmt hM ha r103), m_deeds (mmt hM ha r103) hr7 hP hd (by omega) (fun z' => absurd z' z) (fun _ _ hr y har hM3 => ⟨rfl, rel_fin ha r103 hO hC2 har hM3 hw1⟩) (fun _ z' => absurd z2 z')⟩
  · refine ⟨o12 (mmt hM ha r103), m_deeds (mmt hM ha r103) hr7 hP hd (by omega) (fun z' => absurd z' z) (fun _ z' => absurd z' z2) (fun _ _ hr y har hM3 => ?_)⟩
    obtain ⟨i, hi, e1⟩ := yhas_of (by omega) z
    obtain ⟨t, ht, et, -⟩ := ysin_nI hw.1.1 hi
    have hnn : ¬ yat 7 (ysin s.now.S one) one < 0 := by
      rw [e1, et, yat_nI (show i < 7 by omega) y7', upd_i]
      exact nI_neg (by omega)
    have hwq : wfF (s.now.A, s.now.P, ysin s.now.S one, s.now.n, s.now.day) s.nl := by
      rw [e1, et]
      exact wf_updS hw.1.1 ht
    refine ⟨rfl, rel_fin ha r103 hO (hC2 hnn) har (hM3 _ (fkE_c qb s.now)) ?_⟩
    exact wf_push (s := s.wNow _) (wf_now hw hwq rfl (dyF_le (q := s.now) hd (by omega))) (wfF_fkc hw.1.1) rfl (dyF_le (dyF_E hd (fkE_c qb s.now)) (by omega))
theorem p_doubts (h : Rel c hp) (hc : c ≤ 512) : xMi l 100 b lo gz m_So_doubts [.ref 0, .int one, .int n] hp (fun r hq => is12 hq ∧ xMi l 100 b lo gz m_Mo_doubts [.ref 103, .int one, .int n] hq (fun r2 hr => r2 = r ∧ Rel (c + 1) hr)) := by
  obtain ⟨s, x, hC, hM, hw, hO⟩ := h
  have hw1 := wf_s hw
  have hP : wfP s.now s.nl := hw.1.1.2.1
  have hd := hw.1.2
  have hB : 1000 * c + 2000 < 2 ^ 31 := by omega
  have hB4 : 1000 * c + 400 < 2 ^ 31 := by omega
  have h7 := hC.nw.2
  have hl6 := hC.ev.2.2.1
  have hr7 : ∀ j, j < s.ac → (ringAt s j).n ≤ 7 := fun j hj => (hw.2.1 j hj).1.2.2.2
  refine c_So_doubts hC (fun z hq ha hC2 => ?_) (fun z z2 hq ha hC2 => ?_) (fun z z2 hq qb ha _ hC2 => ?_)
  · exact ⟨o12 (mmt hM ha r103), m_doubts (mmt hM ha r103) hr7 (fun _ hr y har hM3 => ⟨rfl, rel_fin ha r103 hO hC2 har hM3 hw1⟩) (fun z' => absurd z z') (fun z' => absurd z z')⟩
  · exact ⟨o12 (mmt hM ha r103), m_doubts (mmt hM ha r103) hr7 (fun z' => absurd z' z) (fun _ _ hr y har hM3 => ⟨rfl, rel_fin ha r103 hO hC2 har hM3 hw1⟩) (fun _ z' => absurd z2 z')⟩
  · refine ⟨o12 (mmt hM ha r103), m_doubts (mmt hM ha r103) hr7 (fun z' => absurd z' z) (fun _ z' => absurd z' z2) (fun _ _ hr y har hM3 => ?_)⟩
    obtain ⟨i, hi, e1⟩ := yhas_of (by omega) (fun e => z (Or.inl e))
    obtain ⟨N, hN, e2⟩ := nI_box (x := n) (B := 99) (by decide) (fun e => z (Or.inr (Or.inl (Int32.lt_trans e (by decide))))) (Int32.not_lt.mp (fun e => z (Or.inr (Or.inr e))))
    obtain ⟨t, ht, et, -⟩ := ydbt_nI hw.1.1 hi hN
    have hnn : ¬ yat 7 (ydbt s.now.A one n) one < 0 := by
      rw [e1, e2, et, yat_nI (show i < 7 by omega) y7', upd_i]
      exact nI_neg (by omega)
    have hwq : wfF (ydbt s.now.A one n, s.now.P, s.now.S, s.now.n, s.now.day) s.nl := by
      rw [e1, e2, et]
      exact wf_updA hw.1.1 ht
    refine ⟨rfl, rel_fin ha r103 hO (hC2 hnn) har (hM3 _ (fkE_c qb s.now)) ?_⟩
    exact wf_push (s := s.wNow _) (wf_now hw hwq rfl (dyF_le (q := s.now) hd (by omega))) (wfF_fkc hw.1.1) rfl (dyF_le (dyF_E hd (fkE_c qb s.now)) (by omega))
theorem p_undo (h : Rel c hp) (hc : c ≤ 512) : xMi l 100 b lo gz m_So_undo [.ref 0] hp (fun r hq => is12 hq ∧ xMi l 100 b lo gz m_Mo_undo [.ref 103] hq (fun r2 hr => r2 = r ∧ Rel (c + 1) hr)) := by
  obtain ⟨s, x, hC, hM, hw, hO⟩ := h
  have hw1 := wf_s hw
  have hP : wfP s.now s.nl := hw.1.1.2.1
  have hd := hw.1.2
  have hB : 1000 * c + 2000 < 2 ^ 31 := by omega
  have hB4 : 1000 * c + 400 < 2 ^ 31 := by omega
  have h7 := hC.nw.2
  have hl6 := hC.ev.2.2.1
  have hr7 : ∀ j, j < s.ac → (ringAt s j).n ≤ 7 := fun j hj => (hw.2.1 j hj).1.2.2.2
  refine c_So_undo hC (fun z => ?_) (fun z hq ha hC2 => ?_)
  · exact ⟨o12 hM, m_undo hM (fun j hj => (hw.2.1 j hj).2.1) (fun _ hr y har hM2 => ⟨rfl, rel_fin (xAg_rf _ []) (by simp) hO hC har hM2 hw1⟩) (fun z' => absurd z z')⟩
  · refine ⟨o12 (mmt hM ha (by decide)), m_undo (mmt hM ha (by decide)) (fun j hj => (hw.2.1 j hj).2.1) (fun z' => absurd z' z) (fun _ hr y har hM3 => ⟨rfl, rel_fin ha (by decide) hO hC2 har hM3 ?_⟩)⟩
    obtain ⟨b1, b2, b3⟩ := hw1.2.1 (s.ac - 1) (by omega)
    rw [ring_top z hw.2.2.2.2.2.2.2.2.1 hw.2.2.2.2.2.2.2.2.2] at b1 b2 b3
    obtain ⟨a1, a2, a3, a4, a5, a6, a7, a8, a9, a10⟩ := wf_now (c := c) hw (wfF_fkc (q := s.now) b1) b2 (dyF_E b3 (fkE_c s.now (s.ring (prv s.nx))))
    refine ⟨a1, fun j hj => ?_, a3, a4, a5, a6, a7, a8, by show s.ac - 1 ≤ 12; have a9' : s.ac ≤ 12 := a9; omega, by show prv s.nx < 12; have a10' : s.nx < 12 := a10; unfold prv; split <;> omega⟩
    have e9 : s.ring ((prv s.nx + 12 - (s.ac - 1) + j) % 12) = ringAt s j := by
      rw [ring_pop z a9 a10 hj]
      rfl
    have := a2 j (by have : j < s.ac - 1 := hj; show j < s.ac; omega)
    show wfF (s.ring ((prv s.nx + 12 - (s.ac - 1) + j) % 12)) s.nl ∧ (s.ring ((prv s.nx + 12 - (s.ac - 1) + j) % 12)).n = _ ∧ dyF (s.ring ((prv s.nx + 12 - (s.ac - 1) + j) % 12)) _
    rw [e9]
    exact this
theorem p_keep (h : Rel c hp) (hc : c ≤ 512) : xMi l 100 b lo gz m_So_keep [.ref 0, .int i] hp (fun r hq => is12 hq ∧ xMi l 100 b lo gz m_Mo_keep [.ref 103, .int i] hq (fun r2 hr => r2 = r ∧ Rel (c + 1) hr)) := by
  obtain ⟨s, x, hC, hM, hw, hO⟩ := h
  have hw1 := wf_s hw
  have hP : wfP s.now s.nl := hw.1.1.2.1
  have hd := hw.1.2
  have hB : 1000 * c + 2000 < 2 ^ 31 := by omega
  have hB4 : 1000 * c + 400 < 2 ^ 31 := by omega
  have h7 := hC.nw.2
  have hl6 := hC.ev.2.2.1
  have hr7 : ∀ j, j < s.ac → (ringAt s j).n ≤ 7 := fun j hj => (hw.2.1 j hj).1.2.2.2
  refine c_So_keep hC (fun z => ?_) (fun j hj e1 hq qb ha hC2 => ?_)
  · refine ⟨o12 hM, m_keep hM (fun j hj hf => (hw.2.2.1 j hj hf).1.2.2.2) (fun _ hr y har hM2 => ⟨rfl, rel_fin (xAg_rf _ []) (by simp) hO hC har hM2 hw1⟩) (fun j hj e1 => ?_)⟩
    exact (z.elim (no_lt (by omega) e1) (fun z => absurd z (by rw [e1]; exact nI_ge (show j < 2 by omega) (by decide)))).elim
  · refine ⟨o12 (mmt hM ha r103), m_keep (mmt hM ha r103) (fun j hj hf => (hw.2.2.1 j hj hf).1.2.2.2) (fun z => (z.elim (no_lt (by omega) e1) (fun z => absurd z (by rw [e1]; exact nI_ge (show j < 2 by omega) (by decide)))).elim) (fun j' hj' e1' hr y har hM3 => ?_)⟩
    obtain rfl : j = j' := nI_c (by omega) (by omega) e1 e1'
    refine ⟨rfl, rel_fin ha r103 hO hC2 har (hM3 _ (fkE_c qb s.now)) ?_⟩
    obtain ⟨a1, a2, a3, a4, a5⟩ := hw1
    refine ⟨a1, a2, fun m hm hf => ?_, ?_, a5⟩
    · by_cases e : m = j
      · have e9 : updF s.shelf j (fkc qb s.now) m = fkc qb s.now := if_pos e
        show wfF (updF s.shelf j (fkc qb s.now) m) s.nl ∧ _
        rw [e9]
        exact ⟨wfF_fkc a1.1, by show (updF s.shelf j (fkc qb s.now) m).n = _; rw [e9]; rfl, by show dyF (updF s.shelf j (fkc qb s.now) m) _; rw [e9]; exact dyF_E a1.2 (fkE_c qb s.now)⟩
      · have e9 : updF s.shelf j (fkc qb s.now) m = s.shelf m := if_neg e
        have e8 : upd s.fl j 1 m = s.fl m := if_neg e
        have := a3 m hm (by rw [← e8]; exact hf)
        show wfF (updF s.shelf j (fkc qb s.now) m) s.nl ∧ (updF s.shelf j (fkc qb s.now) m).n = _ ∧ dyF (updF s.shelf j (fkc qb s.now) m) _
        rw [e9]
        exact this
    · obtain ⟨k, k1, k2⟩ := a4
      refine ⟨k, k1, ?_⟩
      have e9 : updF s.shelf j (fkc qb s.now) 2 = s.shelf 2 := if_neg (by omega)
      show (updF s.shelf j (fkc qb s.now) 2).day = _
      rw [e9]
      exact k2
theorem p_again (h : Rel c hp) (hc : c ≤ 512) : xMi l 100 b lo gz m_So_again [.ref 0, .int i] hp (fun r hq => is12 hq ∧ xMi l 100 b lo gz m_Mo_again [.ref 103, .int i] hq (fun r2 hr => r2 = r ∧ Rel (c + 1) hr)) := by
  obtain ⟨s, x, hC, hM, hw, hO⟩ := h
  have hw1 := wf_s hw
  have hP : wfP s.now s.nl := hw.1.1.2.1
  have hd := hw.1.2
  have hB : 1000 * c + 2000 < 2 ^ 31 := by omega
  have hB4 : 1000 * c + 400 < 2 ^ 31 := by omega
  have h7 := hC.nw.2
  have hl6 := hC.ev.2.2.1
  have hr7 : ∀ j, j < s.ac → (ringAt s j).n ≤ 7 := fun j hj => (hw.2.1 j hj).1.2.2.2
  have k0 : ∀ j, j < 2 → i = nI j → ¬ s.fl j = 0 → ¬ (i < 0 ∨ 2 ≤ i ∨ (∃ j, j < 2 ∧ i = nI j ∧ s.fl j = 0)) := fun j hj e1 hf z => by
    rcases z with z | z | ⟨m, hm, e2, e3⟩
    · exact no_lt (by omega) e1 z
    · exact absurd z (by rw [e1]; exact nI_ge (show j < 2 by omega) (by decide))
    · obtain rfl : j = m := nI_c (by omega) (by omega) e1 e2
      exact hf e3
  refine c_So_again hC (fun z => ?_) (fun j hj e1 hf hq ha hC2 => ?_)
  · exact ⟨o12 hM, m_again hM (fun j hj hf => (hw.2.2.1 j hj hf).2.1) (fun _ hr y har hM2 => ⟨rfl, rel_fin (xAg_rf _ []) (by simp) hO hC har hM2 hw1⟩) (fun j hj e1 hf => (k0 j hj e1 hf z).elim)⟩
  · refine ⟨o12 (mmt hM ha r103), m_again (mmt hM ha r103) (fun j hj hf => (hw.2.2.1 j hj hf).2.1) (fun z => (k0 j hj e1 hf z).elim) (fun j' hj' e1' hf' hr y har hM3 => ?_)⟩
    obtain rfl : j = j' := nI_c (by omega) (by omega) e1 e1'
    refine ⟨rfl, rel_fin ha r103 hO hC2 har hM3 ?_⟩
    obtain ⟨b1, b2, b3⟩ := hw1.2.2.1 j hj hf
    obtain ⟨a1, a2, a3, a4, a5, a6, a7, a8, a9, a10⟩ := wf_now (c := c) hw (wfF_fkc (q := s.now) b1) b2 (dyF_E b3 (fkE_c s.now (s.shelf j)))
    exact ⟨a1, fun m hm => absurd hm (Nat.not_lt_zero _), a3, a4, a5, a6, a7, a8, Nat.zero_le _, a10⟩
end PRS
