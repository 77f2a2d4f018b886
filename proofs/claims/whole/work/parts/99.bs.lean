/-! ===== the law's cases that may throw ===== -/
section LWH
variable {p : Program} {l : Launch} {e : Env} {s : State} {m : MethodId} {below : List Frame} {meth : Method} {c : Code} {b L : Nat} {xs : Nat → Int32} {dC : Nat → ClassId} {dI : Nat → Nat → Nat} {dA : FieldType → ClassId} {gz cells slots pc : Nat} {lv : List (Nat × Value)} {hp : xHp}
theorem lw_callH (C0 : lw_At p s m meth c b L xs) (hKn : xKn dC dI dA s) (hz : zU s.heap.size s) {idx n maxL : Nat} {bytes : ByteArray} {hh : List (Nat × Nat × Nat × Nat)} {y : MethodName} {r As : List Value} {Po : Int32 → xHp → Prop} (hd : decode code pc = .ok (.invokestatic idx, 3)) (hlk : Cond.methodLink R_law idx y ∈ wG) (hst : Cond.static y ∈ wG) (hin : Cond.initialized y.cls ∈ wG) (hcw : Cond.codeWith y bytes maxL (some .int) hh ∈ wG) (hy : (y.cls ≠ "java/lang/invoke/MethodHandle" ∧ y.cls ≠ "java/lang/invoke/VarHandle") ∧ (parseMethodDescriptor y.desc).map (fun d => d.parameters.length) = some n) (hmx : maxL ≤ 21) (hcs : xcs r 8) (hn : As.length = n) (hc : cells + 1 ≤ 601024) (hs : slots + 6 ≤ 7293034) (hM : xHC l 100 s.heap.size gz y bytes maxL hh As hp Po)
    (K : ∀ (v : Int32) (hp' : xHp) (g2 : Nat), Po v hp' → LJ p l e s m below meth c b dC dI dA g2 (cells + 1) (slots + 6) (pc + 3) lv (.int v :: r) hp') : LJ p l e s m below meth c b dC dI dA gz cells slots pc lv (As.reverse ++ r) hp := by
  intro H locs ls hho hS hl
  obtain ⟨hx, hb, hr, hml, hown, hts, hX, hbl, hlocks, hgv⟩ := id C0
  have hts' : ∀ w ∈ wG, w.before #[Value.ref b] s = true := fun w hw => hts w (wG_in w hw)
  have hM' := hM dC dI dA
  have hcs' : ((r.map (xcV s.heap.size)).map fun v => v.category).sum ≤ 8 := by rw [xcs_map]; exact xcs_sum r 8 hcs
  have hG : GoodIn wG (Cond.codeWith y bytes maxL (some .int) hh :: wG) := by
    intro w h
    have hw : w ∈ wG := by
      rcases List.mem_cons.mp h with h | h
      · rw [h]; exact hcw
      · exact h
    exact ⟨hw, good_of_word (wG_good w hw)⟩
  have cw : vx_CSW room_1 s #[Value.ref b] R_law idx y bytes maxL (some .int) hh (Cond.codeWith y bytes maxL (some .int) hh :: wG) (xTRm 100) 1 6 n :=
    ⟨⟨rfl, rfl, by show 100 + 1 ≤ 2048; decide, by show 8 + (maxL + 11) + 40 * 100 ≤ 84000; omega, pay_in hts' hG, List.mem_cons_self⟩, hts' _ hcw, hts' _ hin, hy.1, fun sig h => by
      have h2 := hy.2
      rw [h] at h2
      exact (Option.some.inj h2).symm, hts' _ hlk, hts' _ hst⟩
  have hst2 : (F0 m pc ls ((As.reverse ++ r).map (xcV s.heap.size))).stack = (As.map (xcV s.heap.size)).reverse ++ r.map (xcV s.heap.size) := by
    simp
  have hpre : PreS s H (xTP s.heap.size gz dC dI dA hp As) (As.map (xcV s.heap.size)) := ⟨xTP_blind, fun U hU hW => ⟨rfl, ⟨by rw [hU]; exact hho, xKn_warm hW hKn⟩, zU_warm hz hS hU hW⟩⟩
  intro T hT X
  obtain ⟨v, st₀, t, T', Ls, h0, X', hL, e1, e2, ⟨⟨v', hp', g2, hv, hpo, hho2⟩, hz2, hk⟩, st⟩ := vx_runSW ⟨hx, hb, hml, hown, hts'⟩ hM' cw hpre rfl (by rw [List.length_map]; exact hn) hl.1 hst2 (lv_room hcs') hd ⟨hc, hs⟩ T hT X
  cases hv
  rw [h0] at hz2 hk
  obtain ⟨t2, a1, b1⟩ := K v' hp' g2 hpo T'.heap (locs ++ Ls) ls (by rw [e1]; exact hho2)
    ⟨Nat.le_trans hS.1 (by rw [e1]; exact hz2), fun q h1 h2 => by rw [e1, hk q (Nat.lt_of_lt_of_le h1 hS.1) h2]; exact hS.2.1 q h1 h2, fun q hq => by
      rcases List.mem_append.mp hq with h | h
      · exact hS.2.2 q h
      · exact hL q h⟩ hl T' rfl X'
  exact ⟨t2, st t2 a1, b1⟩
theorem m_thr {x : SO} {S : St} {d b lo : Nat} {K : Int32 → xHp → Prop} (h : isMM hp x S) (hK : K x.th hp) : xMi l d b lo gz m_Mo_thrown [.ref 103] hp K := by
  obtain ⟨rd, le, tp, at2, wr, o1⟩ := isO_raw h.me.1
  refine xMC_V ok_Mo_thrown (by decide) (L0 := [.ref 103]) rfl rfl ?_
  simp only [s_Mo_thrown_0, s_Mo_thrown_1, s_Mo_thrown_4, xg_0, xg_s, xF_up, xPf_up, xO_up, xAi_up, xAl_up, xLn_up, xup_xup, ty_i, ty_b, ty_z, ty_l, ty_q, tb_b, tb_z, xup_2, xpI_s, xpL_s, xpV_s, xpQ_n, xpQ_r, yl_0, yl_1, yl_2, yl_3, yl_4, yl_5, yl_6, xcs_nil, xcs_i, xcs_a, xcs_l, xcs_n, xNl_z, xNl_s, xNl_i, xNl_a, xNl_n, xNl_d, cat_i, cat_a, cat_n, List.getElem?_cons_zero, List.getElem?_cons_succ, List.set_cons_zero, List.set_cons_succ, List.length_cons, List.length_nil, true_and, and_true, eq_self, ite_true, ite_false, if_true, if_false, or_true, true_or, or_false, false_or, Nat.reduceAdd, Nat.reduceLT, Nat.reduceLeDiff, Nat.reduceEqDiff, Nat.reduceSub, ↓reduceIte, reduceCtorEq, not_false_eq_true, not_true_eq_false, false_implies, true_implies, forall_const, imp_self, implies_true, Nat.add_left_cancel_iff, Nat.left_eq_add, Nat.add_eq_left, Nat.zero_lt_succ, Nat.lt_add_left_iff_pos, one_ne_zero_n, zero_ne_one_n, zero_ne_one_i, one_ne_zero_i, xF_r o1, xPf_r o1, xO_r o1]
  exact hK
theorem cmp_self (x : Int64) : lg_cmp x x = 0 := by
  simp [lg_cmp]
end LWH
