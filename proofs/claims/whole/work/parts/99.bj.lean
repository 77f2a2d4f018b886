/-! ===== the law from its entry ===== -/
section LAWE
variable {p : Program} {l : Launch} {e : Env} {s : State} {m : MethodId} {below : List Frame} {meth : Method} {c : Code} {b L : Nat} {xs : Nat → Int32} {dC : Nat → ClassId} {dI : Nat → Nat → Nat} {dA : FieldType → ClassId} {gz cells slots pc : Nat} {lv : List (Nat × Value)} {st : List Value} {hp : xHp} {i cc : Nat}
theorem and63 (x : Int32) : ∃ k, k ≤ 63 ∧ x &&& 63 = nI k := by
  refine ⟨(x.toBitVec &&& 63#32).toNat, ?_, Int32.toBitVec_inj.mp ?_⟩
  · rw [BitVec.toNat_and]; exact Nat.and_le_right
  · show x.toBitVec &&& 63#32 = BitVec.ofNat 32 _
    rw [BitVec.ofNat_toNat, BitVec.setWidth_eq]
theorem len5 {L i : Nat} (hL : L ≤ 2560) (hi : i ≤ 2560) : (¬ Int32.ofNat L - 5 < nI i) → i + 5 ≤ L := by
  intro h
  by_cases h5 : 5 ≤ L
  · obtain ⟨k, rfl⟩ : ∃ k, L = k + 5 := ⟨L - 5, by omega⟩
    have e : Int32.ofNat (k + 5) - 5 = nI k := by
      show nI (k + 5) - 5 = nI k
      rw [← nI_ad, show nI 5 = 5 from rfl, Int32.add_sub_cancel]
    rw [e, nI_ltI (by omega) (by omega)] at h
    omega
  · refine absurd (Int32.lt_of_lt_of_le (b := (0 : Int32)) ?_ (show nI 0 ≤ nI i from nI_le (Nat.zero_le i) (by omega))) h
    rcases (show L = 0 ∨ L = 1 ∨ L = 2 ∨ L = 3 ∨ L = 4 by omega) with rfl | rfl | rfl | rfl | rfl <;> decide
theorem lw_wide {k n : Nat} (h1 : cells ≤ k) (h2 : slots ≤ n) (K : LJ p l e s m below meth c b dC dI dA gz k n pc lv st hp) : LJ p l e s m below meth c b dC dI dA gz cells slots pc lv st hp := fun H locs ls hho hS hl => W.widen h1 h2 (K H locs ls hho hS hl)
abbrev LV (s : State) (b i : Nat) : List (Nat × Value) := [(0, .ref b), (4, .int (nI i)), (1, .ref (s.heap.size + 0)), (2, .ref (s.heap.size + 103)), (3, .ref (s.heap.size + 132))]
/-- a case of the law that may throw, with its room -/
def lwX (p : Program) (l : Launch) (e : Env) (s : State) (m : MethodId) (below : List Frame) (meth : Method) (c : Code) (b : Nat) (dC : Nat → ClassId) (dI : Nat → Nat → Nat) (dA : FieldType → ClassId) (L pc : Nat) : Prop := ∀ (gz i cc : Nat) (hp : xHp), cc ≤ 512 → i + 5 ≤ L → Rel cc hp → (∀ gz2 hr, Rel (cc + 1) hr → LJ p l e s m below meth c b dC dI dA gz2 (133 + (cc + 1)) (6451 + 6 * (cc + 1)) 1649 (LV s b i) [] hr) → LJ p l e s m below meth c b dC dI dA gz (133 + cc) (6451 + 6 * cc) pc (LV s b i) [] hp
theorem lw_next (C0 : lw_At p s m meth c b L xs) (K : LJ p l e s m below meth c b dC dI dA gz cells slots 23 (LV s b (i + 5)) [] hp) : LJ p l e s m below meth c b dC dI dA gz cells slots 1649 (LV s b i) [] hp := by
  intro H locs ls hho hS hl
  obtain ⟨hx, hb, hr, hml, hown, hts, hX, hbl, hlocks, hgv⟩ := id C0
  refine lv_iinc (v := nI (i + 5)) (lv' := [(4, .int (nI (i + 5))), (0, .ref b), (1, .ref (s.heap.size + 0)), (2, .ref (s.heap.size + 103)), (3, .ref (s.heap.size + 132))]) hx hb (show decode code 1649 = .ok (.iinc 4 5, 3) by decide +kernel) hl (k := 1) rfl (nI_ad i 5) (by decide) rfl (fun ls hl => ?_)
  refine lv_goto (tgt := 23) hx hb (show decode code 1652 = .ok (.goto (-1629), 3) by decide +kernel) (by decide) ?_
  exact K H locs ls hho hS (lv_sub hl [1, 0, 2, 3, 4] rfl)
theorem lw_end (C0 : lw_At p s m meth c b L xs) (hc : cells ≤ 601024) (hs : slots ≤ 7293034) : LJ p l e s m below meth c b dC dI dA gz cells slots 1655 lv [] hp := by
  intro H locs ls hho hS hl
  obtain ⟨hx, hb, hr, hml, hown, hts, hX, hbl, hlocks, hgv⟩ := id C0
  refine lv_iconst (v := 1) hx hb (show decode code 1655 = .ok (.iconst 1, 1) by decide +kernel) (by decide) ?_
  refine va_forget (fun q hq => hS.2.2 q hq) ?_
  refine W.widen (k := 601024) (n := 7293034) hc hs ?_
  exact lw_ret hx hb hr hlocks (show decode code 1656 = .ok (.ireturn, 1) by decide +kernel)
set_option maxHeartbeats 4000000 in
theorem lw_loop (C0 : lw_At p s m meth c b L xs) (hKn : xKn dC dI dA s) (hL : L ≤ 2560) (h6 : lwX p l e s m below meth c b dC dI dA L 350) (h7 : lwX p l e s m below meth c b dC dI dA L 418) (h48 : lwX p l e s m below meth c b dC dI dA L 1594) : ∀ (n i cc : Nat), i = 5 * cc → i ≤ L → L < i + n → ∀ (gz : Nat) (hp : xHp), Rel cc hp → LJ p l e s m below meth c b dC dI dA gz (133 + cc) (6451 + 6 * cc) 23 (LV s b i) [] hp := by
  intro n
  induction n with
  | zero => intro i cc _ h1 h2; omega
  | succ n ih0 =>
    intro i cc hi hiL hin gz hp hR
    intro H locs ls hho hS hl
    obtain ⟨hx, hb, hr, hml, hown, hts, hX, hbl, hlocks, hgv⟩ := id C0
    have hbA : ¬ (fun q : Nat => s.heap.size ≤ q) b := Nat.not_le.mpr hbl
    have hcc : cc ≤ 512 := by omega
    refine lv_iload hx hb (show decode code 23 = .ok (.iload 4, 2) by decide +kernel) (lv_at hl 1 rfl) ?_
    refine lv_aload_n hx hb (show decode code 25 = .ok (.aload_n 0, 1) by decide +kernel) rfl (lv_at hl 0 rfl) ?_
    refine va_slen hx hb hX hbl hbA hS (show decode code 26 = .ok (.arraylength, 1) by decide +kernel) ?_
    refine lv_iconst (v := 5) hx hb (show decode code 27 = .ok (.iconst 5, 1) by decide +kernel) (by decide) ?_
    refine lv_isub hx hb (show decode code 28 = .ok (.isub, 1) by decide +kernel) ?_
    refine lv_icmp_gt (tgt := 1655) hx hb (show decode code 29 = .ok (.if_icmp .gt 1626, 3) by decide +kernel) (by decide) (fun _ => ?_) (fun h5 => ?_)
    · exact lw_end C0 (by omega) (by omega) H locs ls hho hS hl
    have hlt := len5 hL (by omega) h5
    have ih : ∀ c2, c2 = cc + 1 → ∀ gz2 hr, Rel c2 hr → LJ p l e s m below meth c b dC dI dA gz2 (133 + c2) (6451 + 6 * c2) 23 (LV s b (i + 5)) [] hr := fun c2 e2 gz2 hr h => ih0 (i + 5) c2 (by omega) hlt (by omega) gz2 hr h
    refine lv_aload_n hx hb (show decode code 32 = .ok (.aload_n 0, 1) by decide +kernel) rfl (lv_at hl 0 rfl) ?_
    refine lv_iload hx hb (show decode code 33 = .ok (.iload 4, 2) by decide +kernel) (lv_at hl 1 rfl) ?_
    refine va_sld hx hb hX hbl hbA hS (vp_in_nI (show i < L by omega) (by omega)) (show decode code 35 = .ok (.iaload, 1) by decide +kernel) ?_
    refine lv_bipush (v := 63) hx hb (show decode code 36 = .ok (.bipush 63, 2) by decide +kernel) (by decide) ?_
    refine lv_iand hx hb (show decode code 38 = .ok (.iand, 1) by decide +kernel) ?_
    obtain ⟨k, hk, ek⟩ := and63 (xs (nI i).toNatClampNeg)
    rw [ek]
    rcases (show k = 0 ∨ k = 1 ∨ k = 2 ∨ k = 3 ∨ k = 4 ∨ k = 5 ∨ k = 6 ∨ k = 7 ∨ k = 8 ∨ k = 9 ∨ k = 10 ∨ k = 11 ∨ k = 12 ∨ k = 13 ∨ k = 14 ∨ k = 15 ∨ k = 16 ∨ k = 17 ∨ k = 18 ∨ k = 19 ∨ k = 20 ∨ k = 21 ∨ k = 22 ∨ k = 23 ∨ k = 24 ∨ k = 25 ∨ k = 26 ∨ k = 27 ∨ k = 28 ∨ k = 29 ∨ k = 30 ∨ k = 31 ∨ k = 32 ∨ k = 33 ∨ k = 34 ∨ k = 35 ∨ k = 36 ∨ k = 37 ∨ k = 38 ∨ k = 39 ∨ k = 40 ∨ k = 41 ∨ k = 42 ∨ k = 43 ∨ k = 44 ∨ k = 45 ∨ k = 46 ∨ k = 47 ∨ k = 48 ∨ 48 < k by omega) with rfl | rfl | rfl | rfl | rfl | rfl | rfl | rfl | rfl | rfl | rfl | rfl | rfl | rfl | rfl | rfl | rfl | rfl | rfl | rfl | rfl | rfl | rfl | rfl | rfl | rfl | rfl | rfl | rfl | rfl | rfl | rfl | rfl | rfl | rfl | rfl | rfl | rfl | rfl | rfl | rfl | rfl | rfl | rfl | rfl | rfl | rfl | rfl | rfl | hk9
    · refine lv_tableIn (off := 209) (tgt := 248) hx hb dl_39 (by decide) (by decide) (by decide) (by decide) ?_
      exact lc_0 C0 hKn hL (by omega) (by omega) hlt rfl rfl rfl rfl hcc hR (fun hr h => lw_wide (k := 133 + (cc + 1)) (n := 6451 + 6 * (cc + 1)) (by omega) (by omega) (lw_next C0 (ih (cc + 1) rfl gz hr h))) H locs ls hho hS hl
    · refine lv_tableIn (off := 234) (tgt := 273) hx hb dl_39 (by decide) (by decide) (by decide) (by decide) ?_
      exact lc_1 C0 hKn hL (by omega) (by omega) hlt rfl rfl rfl rfl hcc hR (fun hr h => lw_wide (k := 133 + (cc + 1)) (n := 6451 + 6 * (cc + 1)) (by omega) (by omega) (lw_next C0 (ih (cc + 1) rfl gz hr h))) H locs ls hho hS hl
    · refine lv_tableIn (off := 259) (tgt := 298) hx hb dl_39 (by decide) (by decide) (by decide) (by decide) ?_
      exact lc_2 C0 hKn hL (by omega) (by omega) hlt rfl rfl rfl rfl hcc hR (fun hr h => lw_wide (k := 133 + (cc + 1)) (n := 6451 + 6 * (cc + 1)) (by omega) (by omega) (lw_next C0 (ih (cc + 1) rfl gz hr h))) H locs ls hho hS hl
    · refine lv_tableIn (off := 272) (tgt := 311) hx hb dl_39 (by decide) (by decide) (by decide) (by decide) ?_
      exact lc_3 C0 hKn hL (by omega) (by omega) hlt rfl rfl rfl rfl hcc hR (fun hr h => lw_wide (k := 133 + (cc + 1)) (n := 6451 + 6 * (cc + 1)) (by omega) (by omega) (lw_next C0 (ih (cc + 1) rfl gz hr h))) H locs ls hho hS hl
    · refine lv_tableIn (off := 285) (tgt := 324) hx hb dl_39 (by decide) (by decide) (by decide) (by decide) ?_
      exact lc_4 C0 hKn hL (by omega) (by omega) hlt rfl rfl rfl rfl hcc hR (fun hr h => lw_wide (k := 133 + (cc + 1)) (n := 6451 + 6 * (cc + 1)) (by omega) (by omega) (lw_next C0 (ih (cc + 1) rfl gz hr h))) H locs ls hho hS hl
    · refine lv_tableIn (off := 298) (tgt := 337) hx hb dl_39 (by decide) (by decide) (by decide) (by decide) ?_
      exact lc_5 C0 hKn hL (by omega) (by omega) hlt rfl rfl rfl rfl hcc hR (fun hr h => lw_wide (k := 133 + (cc + 1)) (n := 6451 + 6 * (cc + 1)) (by omega) (by omega) (lw_next C0 (ih (cc + 1) rfl gz hr h))) H locs ls hho hS hl
    · refine lv_tableIn (off := 311) (tgt := 350) hx hb dl_39 (by decide) (by decide) (by decide) (by decide) ?_
      exact h6 gz i cc hp hcc hlt hR (fun gz2 hr h => lw_next C0 (ih (cc + 1) rfl gz2 hr h)) H locs ls hho hS hl
    · refine lv_tableIn (off := 379) (tgt := 418) hx hb dl_39 (by decide) (by decide) (by decide) (by decide) ?_
      exact h7 gz i cc hp hcc hlt hR (fun gz2 hr h => lw_next C0 (ih (cc + 1) rfl gz2 hr h)) H locs ls hho hS hl
    · refine lv_tableIn (off := 447) (tgt := 486) hx hb dl_39 (by decide) (by decide) (by decide) (by decide) ?_
      exact lc_8 C0 hKn hL (by omega) (by omega) hlt rfl rfl rfl rfl hcc hR (fun hr h => lw_wide (k := 133 + (cc + 1)) (n := 6451 + 6 * (cc + 1)) (by omega) (by omega) (lw_next C0 (ih (cc + 1) rfl gz hr h))) H locs ls hho hS hl
    · refine lv_tableIn (off := 508) (tgt := 547) hx hb dl_39 (by decide) (by decide) (by decide) (by decide) ?_
      exact lc_9 C0 hKn hL (by omega) (by omega) hlt rfl rfl rfl rfl hcc hR (fun hr h => lw_wide (k := 133 + (cc + 1)) (n := 6451 + 6 * (cc + 1)) (by omega) (by omega) (lw_next C0 (ih (cc + 1) rfl gz hr h))) H locs ls hho hS hl
    · refine lv_tableIn (off := 533) (tgt := 572) hx hb dl_39 (by decide) (by decide) (by decide) (by decide) ?_
      exact lc_10 C0 hKn hL (by omega) (by omega) hlt rfl rfl rfl rfl hcc hR (fun hr h => lw_wide (k := 133 + (cc + 1)) (n := 6451 + 6 * (cc + 1)) (by omega) (by omega) (lw_next C0 (ih (cc + 1) rfl gz hr h))) H locs ls hho hS hl
    · refine lv_tableIn (off := 570) (tgt := 609) hx hb dl_39 (by decide) (by decide) (by decide) (by decide) ?_
      exact lc_11 C0 hKn hL (by omega) (by omega) hlt rfl rfl rfl rfl hcc hR (fun hr h => lw_wide (k := 133 + (cc + 1)) (n := 6451 + 6 * (cc + 1)) (by omega) (by omega) (lw_next C0 (ih (cc + 1) rfl gz hr h))) H locs ls hho hS hl
    · refine lv_tableIn (off := 607) (tgt := 646) hx hb dl_39 (by decide) (by decide) (by decide) (by decide) ?_
      exact lc_12 C0 hKn hL (by omega) (by omega) hlt rfl rfl rfl rfl hcc hR (fun hr h => lw_wide (k := 133 + (cc + 1)) (n := 6451 + 6 * (cc + 1)) (by omega) (by omega) (lw_next C0 (ih (cc + 1) rfl gz hr h))) H locs ls hho hS hl
    · refine lv_tableIn (off := 632) (tgt := 671) hx hb dl_39 (by decide) (by decide) (by decide) (by decide) ?_
      exact lc_13 C0 hKn hL (by omega) (by omega) hlt rfl rfl rfl rfl hcc hR (fun hr h => lw_wide (k := 133 + (cc + 1)) (n := 6451 + 6 * (cc + 1)) (by omega) (by omega) (lw_next C0 (ih (cc + 1) rfl gz hr h))) H locs ls hho hS hl
    · refine lv_tableIn (off := 669) (tgt := 708) hx hb dl_39 (by decide) (by decide) (by decide) (by decide) ?_
      exact lc_14 C0 hKn hL (by omega) (by omega) hlt rfl rfl rfl rfl hcc hR (fun hr h => lw_wide (k := 133 + (cc + 1)) (n := 6451 + 6 * (cc + 1)) (by omega) (by omega) (lw_next C0 (ih (cc + 1) rfl gz hr h))) H locs ls hho hS hl
    · refine lv_tableIn (off := 682) (tgt := 721) hx hb dl_39 (by decide) (by decide) (by decide) (by decide) ?_
      exact lc_15 C0 hKn hL (by omega) (by omega) hlt rfl rfl rfl rfl hcc hR (fun hr h => lw_wide (k := 133 + (cc + 1)) (n := 6451 + 6 * (cc + 1)) (by omega) (by omega) (lw_next C0 (ih (cc + 1) rfl gz hr h))) H locs ls hho hS hl
    · refine lv_tableIn (off := 695) (tgt := 734) hx hb dl_39 (by decide) (by decide) (by decide) (by decide) ?_
      exact lc_16 C0 hKn hL (by omega) (by omega) hlt rfl rfl rfl rfl hcc hR (fun hr h => lw_wide (k := 133 + (cc + 1)) (n := 6451 + 6 * (cc + 1)) (by omega) (by omega) (lw_next C0 (ih (cc + 1) rfl gz hr h))) H locs ls hho hS hl
    · refine lv_tableIn (off := 732) (tgt := 771) hx hb dl_39 (by decide) (by decide) (by decide) (by decide) ?_
      exact lc_17 C0 hKn hL (by omega) (by omega) hlt rfl rfl rfl rfl hcc hR (fun hr h => lw_wide (k := 133 + (cc + 1)) (n := 6451 + 6 * (cc + 1)) (by omega) (by omega) (lw_next C0 (ih (cc + 1) rfl gz hr h))) H locs ls hho hS hl
    · refine lv_tableIn (off := 769) (tgt := 808) hx hb dl_39 (by decide) (by decide) (by decide) (by decide) ?_
      exact lc_18 C0 hKn hL (by omega) (by omega) hlt rfl rfl rfl rfl hcc hR (fun hr h => lw_wide (k := 133 + (cc + 1)) (n := 6451 + 6 * (cc + 1)) (by omega) (by omega) (lw_next C0 (ih (cc + 1) rfl gz hr h))) H locs ls hho hS hl
    · refine lv_tableIn (off := 806) (tgt := 845) hx hb dl_39 (by decide) (by decide) (by decide) (by decide) ?_
      exact lc_19 C0 hKn hL (by omega) (by omega) hlt rfl rfl rfl rfl hcc hR (fun hr h => lw_wide (k := 133 + (cc + 1)) (n := 6451 + 6 * (cc + 1)) (by omega) (by omega) (lw_next C0 (ih (cc + 1) rfl gz hr h))) H locs ls hho hS hl
    · refine lv_tableIn (off := 819) (tgt := 858) hx hb dl_39 (by decide) (by decide) (by decide) (by decide) ?_
      exact lc_20 C0 hKn hL (by omega) (by omega) hlt rfl rfl rfl rfl hcc hR (fun hr h => lw_wide (k := 133 + (cc + 1)) (n := 6451 + 6 * (cc + 1)) (by omega) (by omega) (lw_next C0 (ih (cc + 1) rfl gz hr h))) H locs ls hho hS hl
    · refine lv_tableIn (off := 832) (tgt := 871) hx hb dl_39 (by decide) (by decide) (by decide) (by decide) ?_
      exact lc_21 C0 hKn hL (by omega) (by omega) hlt rfl rfl rfl rfl hcc hR (fun hr h => lw_wide (k := 133 + (cc + 1)) (n := 6451 + 6 * (cc + 1)) (by omega) (by omega) (lw_next C0 (ih (cc + 1) rfl gz hr h))) H locs ls hho hS hl
    · refine lv_tableIn (off := 869) (tgt := 908) hx hb dl_39 (by decide) (by decide) (by decide) (by decide) ?_
      exact lc_22 C0 hKn hL (by omega) (by omega) hlt rfl rfl rfl rfl hcc hR (fun hr h => lw_wide (k := 133 + (cc + 1)) (n := 6451 + 6 * (cc + 1)) (by omega) (by omega) (lw_next C0 (ih (cc + 1) rfl gz hr h))) H locs ls hho hS hl
    · refine lv_tableIn (off := 906) (tgt := 945) hx hb dl_39 (by decide) (by decide) (by decide) (by decide) ?_
      exact lc_23 C0 hKn hL (by omega) (by omega) hlt rfl rfl rfl rfl hcc hR (fun hr h => lw_wide (k := 133 + (cc + 1)) (n := 6451 + 6 * (cc + 1)) (by omega) (by omega) (lw_next C0 (ih (cc + 1) rfl gz hr h))) H locs ls hho hS hl
    · refine lv_tableIn (off := 931) (tgt := 970) hx hb dl_39 (by decide) (by decide) (by decide) (by decide) ?_
      exact lc_24 C0 hKn hL (by omega) (by omega) hlt rfl rfl rfl rfl hcc hR (fun hr h => lw_wide (k := 133 + (cc + 1)) (n := 6451 + 6 * (cc + 1)) (by omega) (by omega) (lw_next C0 (ih (cc + 1) rfl gz hr h))) H locs ls hho hS hl
    · refine lv_tableIn (off := 944) (tgt := 983) hx hb dl_39 (by decide) (by decide) (by decide) (by decide) ?_
      exact lc_25 C0 hKn hL (by omega) (by omega) hlt rfl rfl rfl rfl hcc hR (fun hr h => lw_wide (k := 133 + (cc + 1)) (n := 6451 + 6 * (cc + 1)) (by omega) (by omega) (lw_next C0 (ih (cc + 1) rfl gz hr h))) H locs ls hho hS hl
    · refine lv_tableIn (off := 981) (tgt := 1020) hx hb dl_39 (by decide) (by decide) (by decide) (by decide) ?_
      exact lc_26 C0 hKn hL (by omega) (by omega) hlt rfl rfl rfl rfl hcc hR (fun hr h => lw_wide (k := 133 + (cc + 1)) (n := 6451 + 6 * (cc + 1)) (by omega) (by omega) (lw_next C0 (ih (cc + 1) rfl gz hr h))) H locs ls hho hS hl
    · refine lv_tableIn (off := 1030) (tgt := 1069) hx hb dl_39 (by decide) (by decide) (by decide) (by decide) ?_
      exact lc_27 C0 hKn hL (by omega) (by omega) hlt rfl rfl rfl rfl hcc hR (fun hr h => lw_wide (k := 133 + (cc + 1)) (n := 6451 + 6 * (cc + 1)) (by omega) (by omega) (lw_next C0 (ih (cc + 1) rfl gz hr h))) H locs ls hho hS hl
    · refine lv_tableIn (off := 1067) (tgt := 1106) hx hb dl_39 (by decide) (by decide) (by decide) (by decide) ?_
      exact lc_28 C0 hKn hL (by omega) (by omega) hlt rfl rfl rfl rfl hcc hR (fun hr h => lw_wide (k := 133 + (cc + 1)) (n := 6451 + 6 * (cc + 1)) (by omega) (by omega) (lw_next C0 (ih (cc + 1) rfl gz hr h))) H locs ls hho hS hl
    · refine lv_tableIn (off := 1116) (tgt := 1155) hx hb dl_39 (by decide) (by decide) (by decide) (by decide) ?_
      exact lc_29 C0 hKn hL (by omega) (by omega) hlt rfl rfl rfl rfl hcc hR (fun hr h => lw_wide (k := 133 + (cc + 1)) (n := 6451 + 6 * (cc + 1)) (by omega) (by omega) (lw_next C0 (ih (cc + 1) rfl gz hr h))) H locs ls hho hS hl
    · refine lv_tableIn (off := 1129) (tgt := 1168) hx hb dl_39 (by decide) (by decide) (by decide) (by decide) ?_
      exact lc_30 C0 hKn hL (by omega) (by omega) hlt rfl rfl rfl rfl hcc hR (fun hr h => lw_wide (k := 133 + (cc + 1)) (n := 6451 + 6 * (cc + 1)) (by omega) (by omega) (lw_next C0 (ih (cc + 1) rfl gz hr h))) H locs ls hho hS hl
    · refine lv_tableIn (off := 1142) (tgt := 1181) hx hb dl_39 (by decide) (by decide) (by decide) (by decide) ?_
      exact lc_31 C0 hKn hL (by omega) (by omega) hlt rfl rfl rfl rfl hcc hR (fun hr h => lw_wide (k := 133 + (cc + 1)) (n := 6451 + 6 * (cc + 1)) (by omega) (by omega) (lw_next C0 (ih (cc + 1) rfl gz hr h))) H locs ls hho hS hl
    · refine lv_tableIn (off := 1167) (tgt := 1206) hx hb dl_39 (by decide) (by decide) (by decide) (by decide) ?_
      exact lc_32 C0 hKn hL (by omega) (by omega) hlt rfl rfl rfl rfl hcc hR (fun hr h => lw_wide (k := 133 + (cc + 1)) (n := 6451 + 6 * (cc + 1)) (by omega) (by omega) (lw_next C0 (ih (cc + 1) rfl gz hr h))) H locs ls hho hS hl
    · refine lv_tableIn (off := 1204) (tgt := 1243) hx hb dl_39 (by decide) (by decide) (by decide) (by decide) ?_
      exact lc_33 C0 hKn hL (by omega) (by omega) hlt rfl rfl rfl rfl hcc hR (fun hr h => lw_wide (k := 133 + (cc + 1)) (n := 6451 + 6 * (cc + 1)) (by omega) (by omega) (lw_next C0 (ih (cc + 1) rfl gz hr h))) H locs ls hho hS hl
    · refine lv_tableIn (off := 1217) (tgt := 1256) hx hb dl_39 (by decide) (by decide) (by decide) (by decide) ?_
      exact lc_34 C0 hKn hL (by omega) (by omega) hlt rfl rfl rfl rfl hcc hR (fun hr h => lw_wide (k := 133 + (cc + 1)) (n := 6451 + 6 * (cc + 1)) (by omega) (by omega) (lw_next C0 (ih (cc + 1) rfl gz hr h))) H locs ls hho hS hl
    · refine lv_tableIn (off := 1230) (tgt := 1269) hx hb dl_39 (by decide) (by decide) (by decide) (by decide) ?_
      exact lc_35 C0 hKn hL (by omega) (by omega) hlt rfl rfl rfl rfl hcc hR (fun hr h => lw_wide (k := 133 + (cc + 1)) (n := 6451 + 6 * (cc + 1)) (by omega) (by omega) (lw_next C0 (ih (cc + 1) rfl gz hr h))) H locs ls hho hS hl
    · refine lv_tableIn (off := 1243) (tgt := 1282) hx hb dl_39 (by decide) (by decide) (by decide) (by decide) ?_
      exact lc_36 C0 hKn hL (by omega) (by omega) hlt rfl rfl rfl rfl hcc hR (fun hr h => lw_wide (k := 133 + (cc + 1)) (n := 6451 + 6 * (cc + 1)) (by omega) (by omega) (lw_next C0 (ih (cc + 1) rfl gz hr h))) H locs ls hho hS hl
    · refine lv_tableIn (off := 1280) (tgt := 1319) hx hb dl_39 (by decide) (by decide) (by decide) (by decide) ?_
      exact lc_37 C0 hKn hL (by omega) (by omega) hlt rfl rfl rfl rfl hcc hR (fun hr h => lw_wide (k := 133 + (cc + 1)) (n := 6451 + 6 * (cc + 1)) (by omega) (by omega) (lw_next C0 (ih (cc + 1) rfl gz hr h))) H locs ls hho hS hl
    · refine lv_tableIn (off := 1293) (tgt := 1332) hx hb dl_39 (by decide) (by decide) (by decide) (by decide) ?_
      exact lc_38 C0 hKn hL (by omega) (by omega) hlt rfl rfl rfl rfl hcc hR (fun hr h => lw_wide (k := 133 + (cc + 1)) (n := 6451 + 6 * (cc + 1)) (by omega) (by omega) (lw_next C0 (ih (cc + 1) rfl gz hr h))) H locs ls hho hS hl
    · refine lv_tableIn (off := 1306) (tgt := 1345) hx hb dl_39 (by decide) (by decide) (by decide) (by decide) ?_
      exact lc_39 C0 hKn hL (by omega) (by omega) hlt rfl rfl rfl rfl hcc hR (fun hr h => lw_wide (k := 133 + (cc + 1)) (n := 6451 + 6 * (cc + 1)) (by omega) (by omega) (lw_next C0 (ih (cc + 1) rfl gz hr h))) H locs ls hho hS hl
    · refine lv_tableIn (off := 1319) (tgt := 1358) hx hb dl_39 (by decide) (by decide) (by decide) (by decide) ?_
      exact lc_40 C0 hKn hL (by omega) (by omega) hlt rfl rfl rfl rfl hcc hR (fun hr h => lw_wide (k := 133 + (cc + 1)) (n := 6451 + 6 * (cc + 1)) (by omega) (by omega) (lw_next C0 (ih (cc + 1) rfl gz hr h))) H locs ls hho hS hl
    · refine lv_tableIn (off := 1380) (tgt := 1419) hx hb dl_39 (by decide) (by decide) (by decide) (by decide) ?_
      exact lc_41 C0 hKn hL (by omega) (by omega) hlt rfl rfl rfl rfl hcc hR (fun hr h => lw_wide (k := 133 + (cc + 1)) (n := 6451 + 6 * (cc + 1)) (by omega) (by omega) (lw_next C0 (ih (cc + 1) rfl gz hr h))) H locs ls hho hS hl
    · refine lv_tableIn (off := 1405) (tgt := 1444) hx hb dl_39 (by decide) (by decide) (by decide) (by decide) ?_
      exact lc_42 C0 hKn hL (by omega) (by omega) hlt rfl rfl rfl rfl hcc hR (fun hr h => lw_wide (k := 133 + (cc + 1)) (n := 6451 + 6 * (cc + 1)) (by omega) (by omega) (lw_next C0 (ih (cc + 1) rfl gz hr h))) H locs ls hho hS hl
    · refine lv_tableIn (off := 1430) (tgt := 1469) hx hb dl_39 (by decide) (by decide) (by decide) (by decide) ?_
      exact lc_43 C0 hKn hL (by omega) (by omega) hlt rfl rfl rfl rfl hcc hR (fun hr h => lw_wide (k := 133 + (cc + 1)) (n := 6451 + 6 * (cc + 1)) (by omega) (by omega) (lw_next C0 (ih (cc + 1) rfl gz hr h))) H locs ls hho hS hl
    · refine lv_tableIn (off := 1443) (tgt := 1482) hx hb dl_39 (by decide) (by decide) (by decide) (by decide) ?_
      exact lc_44 C0 hKn hL (by omega) (by omega) hlt rfl rfl rfl rfl hcc hR (fun hr h => lw_wide (k := 133 + (cc + 1)) (n := 6451 + 6 * (cc + 1)) (by omega) (by omega) (lw_next C0 (ih (cc + 1) rfl gz hr h))) H locs ls hho hS hl
    · refine lv_tableIn (off := 1480) (tgt := 1519) hx hb dl_39 (by decide) (by decide) (by decide) (by decide) ?_
      exact lc_45 C0 hKn hL (by omega) (by omega) hlt rfl rfl rfl rfl hcc hR (fun hr h => lw_wide (k := 133 + (cc + 1)) (n := 6451 + 6 * (cc + 1)) (by omega) (by omega) (lw_next C0 (ih (cc + 1) rfl gz hr h))) H locs ls hho hS hl
    · refine lv_tableIn (off := 1505) (tgt := 1544) hx hb dl_39 (by decide) (by decide) (by decide) (by decide) ?_
      exact lc_46 C0 hKn hL (by omega) (by omega) hlt rfl rfl rfl rfl hcc hR (fun hr h => lw_wide (k := 133 + (cc + 1)) (n := 6451 + 6 * (cc + 1)) (by omega) (by omega) (lw_next C0 (ih (cc + 1) rfl gz hr h))) H locs ls hho hS hl
    · refine lv_tableIn (off := 1530) (tgt := 1569) hx hb dl_39 (by decide) (by decide) (by decide) (by decide) ?_
      exact lc_47 C0 hKn hL (by omega) (by omega) hlt rfl rfl rfl rfl hcc hR (fun hr h => lw_wide (k := 133 + (cc + 1)) (n := 6451 + 6 * (cc + 1)) (by omega) (by omega) (lw_next C0 (ih (cc + 1) rfl gz hr h))) H locs ls hho hS hl
    · refine lv_tableIn (off := 1555) (tgt := 1594) hx hb dl_39 (by decide) (by decide) (by decide) (by decide) ?_
      exact h48 gz i cc hp hcc hlt hR (fun gz2 hr h => lw_next C0 (ih (cc + 1) rfl gz2 hr h)) H locs ls hho hS hl
    · have h48 : (48 : Int) < (nI k).toInt := Int32.lt_iff_toInt_lt.mp (show (48 : Int32) < nI k from nI_lt hk9 (by omega))
      refine lv_tableOut (tgt := 1649) hx hb dl_39 (Or.inr h48) (by decide) ?_
      obtain ⟨S, x, r1, r2, r3, r4⟩ := hR
      exact lw_wide (k := 133 + (cc + 1)) (n := 6451 + 6 * (cc + 1)) (by omega) (by omega) (lw_next C0 (ih (cc + 1) rfl gz hp ⟨S, x, r1, r2, wf_s r3, r4⟩)) H locs ls hho hS hl
end LAWE
