/-! ===== what both keep: bounds ===== -/
def wfS (s : St) (c : Nat) : Prop := (wfF s.now s.nl ∧ dyF s.now (1000 * c)) ∧ (∀ j, j < s.ac → wfF (ringAt s j) s.nl ∧ (ringAt s j).n = s.now.n ∧ dyF (ringAt s j) (1000 * c)) ∧ (∀ j, j < 2 → ¬ s.fl j = 0 → wfF (s.shelf j) s.nl ∧ (s.shelf j).n = s.now.n ∧ dyF (s.shelf j) (1000 * c)) ∧ (∃ k, k ≤ c ∧ (s.shelf 2).day = nI k) ∧ (∃ k, 0 < k ∧ k ≤ 20 ∧ s.tu = nI k ∧ ∀ i, i < k → ∃ g, g < 10 ∧ s.sk i = nI g) ∧ wfC s ∧ wfR s ∧ s.nl ≤ 6 ∧ s.ac ≤ 12 ∧ s.nx < 12
theorem wf_s {s : St} {c : Nat} (h : wfS s c) : wfS s (c + 1) := by
  obtain ⟨⟨h1, h2⟩, h3, h4, ⟨k, h5, h6⟩, h7⟩ := h
  exact ⟨⟨h1, dyF_le h2 (by omega)⟩, fun j hj => ⟨(h3 j hj).1, (h3 j hj).2.1, dyF_le (h3 j hj).2.2 (by omega)⟩, fun j hj hf => ⟨(h4 j hj hf).1, (h4 j hj hf).2.1, dyF_le (h4 j hj hf).2.2 (by omega)⟩, ⟨k, by omega, h6⟩, h7⟩
theorem wfF_fkc {q r : Fk} {nl : Nat} (h : wfF r nl) : wfF (fkc q r) nl := wfF_E h (fkE_c q r)
theorem dyF_E {q r : Fk} {B : Nat} (h : dyF r B) (he : fkE q r) : dyF q B := by
  obtain ⟨D, h1, h2⟩ := h
  exact ⟨D, h1, he.2.1.trans h2⟩
theorem wf_push {s : St} {q : Fk} {c : Nat} (h : wfS s c) (hq : wfF q s.nl) (hn : q.n = s.now.n) (hd : dyF q (1000 * c)) : wfS (s.push q) c := by
  obtain ⟨h1, h3, h4, h5, h7, h8, h9, h10, h11, h12⟩ := h
  obtain ⟨r1, r2, r3, r4⟩ := ring_push s q h11 h12
  refine ⟨h1, fun j hj => ?_, h4, h5, h7, h8, h9, h10, ?_, r2⟩
  · by_cases e : j + 1 < (s.push q).ac
    · rw [r3 j e]
      refine h3 _ ?_
      rw [r1] at e
      by_cases z : s.ac < 12
      · rw [if_pos z] at e ⊢; omega
      · rw [if_neg z] at e ⊢; omega
    · have ej : j = (s.push q).ac - 1 := by omega
      rw [ej, r4]
      exact ⟨wfF_fkc hq, hn, hd⟩
  · rw [r1]; split <;> omega
theorem wf_now {s : St} {q : Fk} {c : Nat} (h : wfS s c) (hq : wfF q s.nl) (hn : q.n = s.now.n) (hd : dyF q (1000 * (c + 1))) : wfS (s.wNow q) (c + 1) := by
  obtain ⟨h1, h3, h4, h5, h7, h8, h9, h10⟩ := wf_s h
  exact ⟨⟨hq, hd⟩, fun j hj => ⟨(h3 j hj).1, (h3 j hj).2.1.trans hn.symm, (h3 j hj).2.2⟩, fun j hj hf => ⟨(h4 j hj hf).1, (h4 j hj hf).2.1.trans hn.symm, (h4 j hj hf).2.2⟩, h5, h7, fun k hk => by
    obtain ⟨i, hi, e⟩ := h8 k hk
    exact ⟨i, by show i < q.n; omega, e⟩, h9, h10⟩
def Out (hp : xHp) : Prop := ∃ g, hp.1 132 = .inl (.long, 1, .inr (.inl g))
def Rel (c : Nat) (hp : xHp) : Prop := ∃ s x, isCl hp s ∧ isMM hp x s ∧ wfS s c ∧ Out hp
section PR0
variable {hp hq hr : xHp} {X : List Nat} {s S : St} {x y : SO} {c : Nat}
theorem isCl_m (ha : xAg hp hq X) (hX : ∀ k ∈ X, 103 ≤ k) (h : isCl hp s) : isCl hq s := by
  have k1 : ∀ k, k < 103 → k ∉ X := fun k hk z => by have := hX k z; omega
  have k2 : ∀ a b, b < 103 → ∀ k ∈ X, k < a ∨ b < k := fun a b hb k hk => Or.inr (by have := hX k hk; omega)
  exact isCl_mk (so_ag ha (k1 _ (by decide)) h.so) (tx_ag ha (k2 1 2 (by decide)) h.tx) (rw_ag ha (k2 3 4 (by decide)) h.rw) (isEnv_ag ha (fun k hk => by have := hX k hk; omega) h.ev) (pr_ag ha (k2 11 13 (by decide)) h.pr) (isFk_ag ha (k2 16 19 (by decide)) h.nw) (fk_ag ha (k2 20 23 (by decide)) h.th) (fk_ag ha (k2 24 27 (by decide)) h.be) (pa_ag ha (k2 28 31 (by decide)) h.pa) (rg_ag ha (k2 32 79 (by decide)) h.rg) (sh_ag ha (k2 80 87 (by decide)) h.sh) (cl_ag ha (k2 88 90 (by decide)) h.se) (cl_ag ha (k2 91 93 (by decide)) h.ru) (wk_ag ha (k2 94 96 (by decide)) h.wk) (rm_ag ha (k2 97 100 (by decide)) h.rm) (ch_ag ha (k1 _ (by decide)) h.ch) (ta_ag ha (k1 _ (by decide)) h.ta)
theorem Out_ag (ha : xAg hp hq X) (hX : 132 ∉ X) (h : Out hp) : Out hq := by
  obtain ⟨g, h⟩ := h
  exact ⟨g, xAg_at ha hX h⟩
/-- behind the program's call and the model's -/
theorem rel_fin (ha : xAg hp hq X) (hX : ∀ k ∈ X, k < 103) (hO : Out hp) (hC : isCl hq S) (har : xAg hq hr mcl) (hM : isMM hr y S) (hw : wfS S (c + 1)) : Rel (c + 1) hr :=
  ⟨S, y, isCl_m har (by decide) hC, hM, hw, Out_ag har (by decide) (Out_ag ha (fun z => by have := hX _ z; omega) hO)⟩
theorem mmt (hM : isMM hp x s) (ha : xAg hp hq X) (hX : ∀ k ∈ X, k < 103) : isMM hq x s := isMM_ag ha (fun k hk => Or.inl (hX k hk)) hM
theorem r103 : ∀ k ∈ List.range 103, k < 103 := fun _ hk => List.mem_range.mp hk
theorem nI_c {a b : Nat} {z : Int32} (ha : a < 2 ^ 31) (hb : b < 2 ^ 31) (h1 : z = nI a) (h2 : z = nI b) : a = b := nI_inj ha hb (h1.symm.trans h2)
theorem no_has {i n : Nat} {z : Int32} (hn : n ≤ 7) (hi : i < n) (h : z = nI i) (h0 : yhas z (nI n) = 0) : False := by
  subst h
  exact yhas_nI (by omega) hi h0
theorem no_lt {a : Nat} {z : Int32} (ha : a < 2 ^ 31) (h : z = nI a) (h0 : z < 0) : False := by
  subst h
  exact nI_neg ha h0
theorem no_lt1 {a : Nat} {z : Int32} (ha : a < 2 ^ 31) (h1 : ¬ a = 0) (h : z = nI a) (h0 : z < 1) : False := by
  subst h
  exact absurd h0 (Int32.not_lt.mpr (show (1 : Int32) ≤ nI a from nI_le (show 1 ≤ a by omega) ha))
theorem no_gt {a m : Nat} {z : Int32} (hm : m < 2 ^ 31) (ha : a ≤ m) (h : z = nI a) (h0 : nI m < z) : False := by
  subst h
  exact absurd h0 (Int32.not_lt.mpr (nI_le ha hm))
end PR0
