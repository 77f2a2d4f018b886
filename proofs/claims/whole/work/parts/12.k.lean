theorem ml_So_9 : xLk "SunnyOnes" 9 m_Text_new := Or.inr ⟨"SunnyOnes", List.mem_of_getElem? (i := 0) (by decide +kernel)⟩
theorem fl_So_10 : xFl "SunnyOnes" 10 0 0 := ⟨("SunnyOnes", F_So, 17), rfl, by decide, wg2 44 (by decide +kernel) rfl⟩
theorem ml_So_18 : xLk "SunnyOnes" 18 m_Row_new := Or.inr ⟨"SunnyOnes", List.mem_of_getElem? (i := 1) (by decide +kernel)⟩
theorem fl_So_19 : xFl "SunnyOnes" 19 0 1 := ⟨("SunnyOnes", F_So, 17), rfl, by decide, wg2 45 (by decide +kernel) rfl⟩
theorem ml_So_25 : xLk "SunnyOnes" 25 m_Land_new := Or.inl (wg1 58 (by decide +kernel) rfl)
theorem fl_So_26 : xFl "SunnyOnes" 26 0 2 := ⟨("SunnyOnes", F_So, 17), rfl, by decide, wg2 46 (by decide +kernel) rfl⟩
theorem ml_So_32 : xLk "SunnyOnes" 32 m_Rule_new := Or.inl (wg1 80 (by decide +kernel) rfl)
theorem fl_So_35 : xFl "SunnyOnes" 35 0 3 := ⟨("SunnyOnes", F_So, 17), rfl, by decide, wg2 47 (by decide +kernel) rfl⟩
theorem fl_So_39 : xFl "SunnyOnes" 39 0 4 := ⟨("SunnyOnes", F_So, 17), rfl, by decide, wg2 48 (by decide +kernel) rfl⟩
theorem ml_So_44 : xLk "SunnyOnes" 44 m_Sun_new := Or.inl (wg1 110 (by decide +kernel) rfl)
theorem fl_So_47 : xFl "SunnyOnes" 47 0 5 := ⟨("SunnyOnes", F_So, 17), rfl, by decide, wg2 49 (by decide +kernel) rfl⟩
theorem ml_So_53 : xLk "SunnyOnes" 53 m_Folk_new := Or.inr ⟨"SunnyOnes", List.mem_of_getElem? (i := 3) (by decide +kernel)⟩
theorem fl_So_54 : xFl "SunnyOnes" 54 0 6 := ⟨("SunnyOnes", F_So, 17), rfl, by decide, wg2 50 (by decide +kernel) rfl⟩
theorem fl_So_58 : xFl "SunnyOnes" 58 0 7 := ⟨("SunnyOnes", F_So, 17), rfl, by decide, wg2 51 (by decide +kernel) rfl⟩
theorem fl_So_61 : xFl "SunnyOnes" 61 0 8 := ⟨("SunnyOnes", F_So, 17), rfl, by decide, wg2 52 (by decide +kernel) rfl⟩
theorem ml_So_66 : xLk "SunnyOnes" 66 m_Past_new := Or.inl (wg1 148 (by decide +kernel) rfl)
theorem fl_So_67 : xFl "SunnyOnes" 67 0 9 := ⟨("SunnyOnes", F_So, 17), rfl, by decide, wg2 53 (by decide +kernel) rfl⟩
theorem ml_So_73 : xLk "SunnyOnes" 73 m_Clues_new := Or.inl (wg1 174 (by decide +kernel) rfl)
theorem fl_So_76 : xFl "SunnyOnes" 76 0 10 := ⟨("SunnyOnes", F_So, 17), rfl, by decide, wg2 54 (by decide +kernel) rfl⟩
theorem fl_So_80 : xFl "SunnyOnes" 80 0 11 := ⟨("SunnyOnes", F_So, 17), rfl, by decide, wg2 55 (by decide +kernel) rfl⟩
theorem ml_So_85 : xLk "SunnyOnes" 85 m_Walk_new := Or.inl (wg1 196 (by decide +kernel) rfl)
theorem fl_So_88 : xFl "SunnyOnes" 88 0 12 := ⟨("SunnyOnes", F_So, 17), rfl, by decide, wg2 56 (by decide +kernel) rfl⟩
theorem ml_So_94 : xLk "SunnyOnes" 94 m_Rooms_new := Or.inl (wg1 230 (by decide +kernel) rfl)
theorem fl_So_97 : xFl "SunnyOnes" 97 0 13 := ⟨("SunnyOnes", F_So, 17), rfl, by decide, wg2 57 (by decide +kernel) rfl⟩
theorem ml_So_103 : xLk "SunnyOnes" 103 m_Chance_new := Or.inl (wg2 24 (by decide +kernel) rfl)
theorem fl_So_106 : xFl "SunnyOnes" 106 0 14 := ⟨("SunnyOnes", F_So, 17), rfl, by decide, wg2 58 (by decide +kernel) rfl⟩
theorem fl_So_110 : xFl "SunnyOnes" 110 0 15 := ⟨("SunnyOnes", F_So, 17), rfl, by decide, wg2 59 (by decide +kernel) rfl⟩
theorem fl_So_114 : xFl "SunnyOnes" 114 0 16 := ⟨("SunnyOnes", F_So, 17), rfl, by decide, wg2 60 (by decide +kernel) rfl⟩
def k_So_new : List xEC := [
  (0, .aload_n 0, 1, 0, 0, 0, m_x),
  (1, .invokespecial 1, 4, 0, 0, 1, m_x),
  (4, .aload_n 0, 5, 0, 0, 0, m_x),
  (5, .new 7, 8, 10, 0, 0, m_x),
  (8, .dup, 9, 0, 0, 0, m_x),
  (9, .invokespecial 9, 12, 0, 0, 0, m_Text_new),
  (12, .putfield 10, 15, 0, 0, 0, m_x),
  (15, .aload_n 0, 16, 0, 0, 0, m_x),
  (16, .new 16, 19, 7, 0, 0, m_x),
  (19, .dup, 20, 0, 0, 0, m_x),
  (20, .invokespecial 18, 23, 0, 0, 0, m_Row_new),
  (23, .putfield 19, 26, 0, 1, 0, m_x),
  (26, .aload_n 0, 27, 0, 0, 0, m_x),
  (27, .new 23, 30, 4, 0, 0, m_x),
  (30, .dup, 31, 0, 0, 0, m_x),
  (31, .invokespecial 25, 34, 0, 0, 0, m_Land_new),
  (34, .putfield 26, 37, 0, 2, 0, m_x),
  (37, .aload_n 0, 38, 0, 0, 0, m_x),
  (38, .new 30, 41, 8, 0, 0, m_x),
  (41, .dup, 42, 0, 0, 0, m_x),
  (42, .aload_n 0, 43, 0, 0, 0, m_x),
  (43, .getfield 10, 46, 0, 0, 0, m_x),
  (46, .invokespecial 32, 49, 0, 0, 0, m_Rule_new),
  (49, .putfield 35, 52, 0, 3, 0, m_x),
  (52, .aload_n 0, 53, 0, 0, 0, m_x),
  (53, .new 30, 56, 8, 0, 0, m_x),
  (56, .dup, 57, 0, 0, 0, m_x),
  (57, .aload_n 0, 58, 0, 0, 0, m_x),
  (58, .getfield 10, 61, 0, 0, 0, m_x),
  (61, .invokespecial 32, 64, 0, 0, 0, m_Rule_new),
  (64, .putfield 39, 67, 0, 4, 0, m_x),
  (67, .aload_n 0, 68, 0, 0, 0, m_x),
  (68, .new 42, 71, 9, 0, 0, m_x),
  (71, .dup, 72, 0, 0, 0, m_x),
  (72, .aload_n 0, 73, 0, 0, 0, m_x),
  (73, .getfield 26, 76, 0, 2, 0, m_x),
  (76, .aload_n 0, 77, 0, 0, 0, m_x),
  (77, .getfield 35, 80, 0, 3, 0, m_x),
  (80, .invokespecial 44, 83, 0, 0, 0, m_Sun_new),
  (83, .putfield 47, 86, 0, 5, 0, m_x),
  (86, .aload_n 0, 87, 0, 0, 0, m_x),
  (87, .new 51, 90, 3, 0, 0, m_x),
  (90, .dup, 91, 0, 0, 0, m_x),
  (91, .invokespecial 53, 94, 0, 0, 0, m_Folk_new),
  (94, .putfield 54, 97, 0, 6, 0, m_x),
  (97, .aload_n 0, 98, 0, 0, 0, m_x),
  (98, .new 51, 101, 3, 0, 0, m_x),
  (101, .dup, 102, 0, 0, 0, m_x),
  (102, .invokespecial 53, 105, 0, 0, 0, m_Folk_new),
  (105, .putfield 58, 108, 0, 7, 0, m_x),
  (108, .aload_n 0, 109, 0, 0, 0, m_x),
  (109, .new 51, 112, 3, 0, 0, m_x),
  (112, .dup, 113, 0, 0, 0, m_x),
  (113, .invokespecial 53, 116, 0, 0, 0, m_Folk_new),
  (116, .putfield 61, 119, 0, 8, 0, m_x),
  (119, .aload_n 0, 120, 0, 0, 0, m_x),
  (120, .new 64, 123, 5, 0, 0, m_x),
  (123, .dup, 124, 0, 0, 0, m_x),
  (124, .invokespecial 66, 127, 0, 0, 0, m_Past_new),
  (127, .putfield 67, 130, 0, 9, 0, m_x),
  (130, .aload_n 0, 131, 0, 0, 0, m_x),
  (131, .new 71, 134, 2, 0, 0, m_x),
  (134, .dup, 135, 0, 0, 0, m_x),
  (135, .bipush 10, 137, 0, 0, 0, m_x),
  (137, .invokespecial 73, 140, 0, 0, 0, m_Clues_new),
  (140, .putfield 76, 143, 0, 10, 0, m_x),
  (143, .aload_n 0, 144, 0, 0, 0, m_x),
  (144, .new 71, 147, 2, 0, 0, m_x),
  (147, .dup, 148, 0, 0, 0, m_x),
  (148, .bipush 12, 150, 0, 0, 0, m_x),
  (150, .invokespecial 73, 153, 0, 0, 0, m_Clues_new),
  (153, .putfield 80, 156, 0, 11, 0, m_x),
  (156, .aload_n 0, 157, 0, 0, 0, m_x),
  (157, .new 83, 160, 11, 0, 0, m_x),
  (160, .dup, 161, 0, 0, 0, m_x),
  (161, .aload_n 0, 162, 0, 0, 0, m_x),
  (162, .getfield 26, 165, 0, 2, 0, m_x),
  (165, .aload_n 0, 166, 0, 0, 0, m_x),
  (166, .getfield 47, 169, 0, 5, 0, m_x),
  (169, .aload_n 0, 170, 0, 0, 0, m_x),
  (170, .getfield 58, 173, 0, 7, 0, m_x),
  (173, .invokespecial 85, 176, 0, 0, 0, m_Walk_new),
  (176, .putfield 88, 179, 0, 12, 0, m_x),
  (179, .aload_n 0, 180, 0, 0, 0, m_x),
  (180, .new 92, 183, 6, 0, 0, m_x),
  (183, .dup, 184, 0, 0, 0, m_x),
  (184, .aload_n 0, 185, 0, 0, 0, m_x),
  (185, .getfield 26, 188, 0, 2, 0, m_x),
  (188, .aload_n 0, 189, 0, 0, 0, m_x),
  (189, .getfield 47, 192, 0, 5, 0, m_x),
  (192, .invokespecial 94, 195, 0, 0, 0, m_Rooms_new),
  (195, .putfield 97, 198, 0, 13, 0, m_x),
  (198, .aload_n 0, 199, 0, 0, 0, m_x),
  (199, .new 101, 202, 1, 0, 0, m_x),
  (202, .dup, 203, 0, 0, 0, m_x),
  (203, .aload_n 0, 204, 0, 0, 0, m_x),
  (204, .getfield 47, 207, 0, 5, 0, m_x),
  (207, .aload_n 0, 208, 0, 0, 0, m_x),
  (208, .getfield 58, 211, 0, 7, 0, m_x),
  (211, .invokespecial 103, 214, 0, 0, 0, m_Chance_new),
  (214, .putfield 106, 217, 0, 14, 0, m_x),
  (217, .aload_n 0, 218, 0, 0, 0, m_x),
  (218, .bipush 100, 220, 0, 0, 0, m_x),
  (220, .newarray .int, 222, 0, 0, 0, m_x),
  (222, .putfield 110, 225, 0, 15, 0, m_x),
  (225, .aload_n 0, 226, 0, 0, 0, m_x),
  (226, .iconst 0, 227, 0, 0, 0, m_x),
  (227, .putfield 114, 230, 0, 16, 0, m_x),
  (230, .return_, 231, 0, 0, 0, m_x)]
theorem dc_So_new : ∀ E ∈ k_So_new, xDc m_So_new E := by decide +kernel
set_option maxRecDepth 20000 in
theorem ok_So_new : ∀ E ∈ k_So_new, xOk m_So_new E := xok_of dc_So_new (xfc trivial (xfc ⟨wg1 25 (by decide +kernel) rfl, wg1 26 (by decide +kernel) rfl, wg1 27 (by decide +kernel) rfl⟩ (xfc trivial (xfc ⟨("SunnyOnes$Text", F_Text, 2), rfl, wg1 28 (by decide +kernel) rfl, wg1 29 (by decide +kernel) rfl, wg1 2 (by decide +kernel) rfl, rfl⟩ (xfc trivial (xfc ⟨ml_So_9, kd_Text_new⟩ (xfc ⟨fl_So_10, fun q h f => by cases h; exact ⟨rfl, rfl⟩⟩ (xfc trivial (xfc ⟨("SunnyOnes$Row", F_Row, 2), rfl, wg1 42 (by decide +kernel) rfl, wg1 43 (by decide +kernel) rfl, wg1 3 (by decide +kernel) rfl, rfl⟩ (xfc trivial (xfc ⟨ml_So_18, kd_Row_new⟩ (xfc ⟨fl_So_19, fun q h f => by cases h; exact ⟨rfl, rfl⟩⟩ (xfc trivial (xfc ⟨("SunnyOnes$Land", F_Land, 4), rfl, wg1 56 (by decide +kernel) rfl, wg1 57 (by decide +kernel) rfl, wg1 4 (by decide +kernel) rfl, rfl⟩ (xfc trivial (xfc ⟨ml_So_25, kd_Land_new⟩ (xfc ⟨fl_So_26, fun q h f => by cases h; exact ⟨rfl, rfl⟩⟩ (xfc trivial (xfc ⟨("SunnyOnes$Rule", F_Rule, 5), rfl, wg1 78 (by decide +kernel) rfl, wg1 79 (by decide +kernel) rfl, wg1 5 (by decide +kernel) rfl, rfl⟩ (xfc trivial (xfc trivial (xfc fl_So_10 (xfc ⟨ml_So_32, kd_Rule_new⟩ (xfc ⟨fl_So_35, fun q h f => by cases h; exact ⟨rfl, rfl⟩⟩ (xfc trivial (xfc ⟨("SunnyOnes$Rule", F_Rule, 5), rfl, wg1 78 (by decide +kernel) rfl, wg1 79 (by decide +kernel) rfl, wg1 5 (by decide +kernel) rfl, rfl⟩ (xfc trivial (xfc trivial (xfc fl_So_10 (xfc ⟨ml_So_32, kd_Rule_new⟩ (xfc ⟨fl_So_39, fun q h f => by cases h; exact ⟨rfl, rfl⟩⟩ (xfc trivial (xfc ⟨("SunnyOnes$Sun", F_Sun, 3), rfl, wg1 108 (by decide +kernel) rfl, wg1 109 (by decide +kernel) rfl, wg1 6 (by decide +kernel) rfl, rfl⟩ (xfc trivial (xfc trivial (xfc fl_So_26 (xfc trivial (xfc fl_So_35 (xfc ⟨ml_So_44, kd_Sun_new⟩ (xfc ⟨fl_So_47, fun q h f => by cases h; exact ⟨rfl, rfl⟩⟩ (xfc trivial (xfc ⟨("SunnyOnes$Folk", F_Folk, 5), rfl, wg1 124 (by decide +kernel) rfl, wg1 125 (by decide +kernel) rfl, wg1 7 (by decide +kernel) rfl, rfl⟩ (xfc trivial (xfc ⟨ml_So_53, kd_Folk_new⟩ (xfc ⟨fl_So_54, fun q h f => by cases h; exact ⟨rfl, rfl⟩⟩ (xfc trivial (xfc ⟨("SunnyOnes$Folk", F_Folk, 5), rfl, wg1 124 (by decide +kernel) rfl, wg1 125 (by decide +kernel) rfl, wg1 7 (by decide +kernel) rfl, rfl⟩ (xfc trivial (xfc ⟨ml_So_53, kd_Folk_new⟩ (xfc ⟨fl_So_58, fun q h f => by cases h; exact ⟨rfl, rfl⟩⟩ (xfc trivial (xfc ⟨("SunnyOnes$Folk", F_Folk, 5), rfl, wg1 124 (by decide +kernel) rfl, wg1 125 (by decide +kernel) rfl, wg1 7 (by decide +kernel) rfl, rfl⟩ (xfc trivial (xfc ⟨ml_So_53, kd_Folk_new⟩ (xfc ⟨fl_So_61, fun q h f => by cases h; exact ⟨rfl, rfl⟩⟩ (xfc trivial (xfc ⟨("SunnyOnes$Past", F_Past, 5), rfl, wg1 146 (by decide +kernel) rfl, wg1 147 (by decide +kernel) rfl, wg1 8 (by decide +kernel) rfl, rfl⟩ (xfc trivial (xfc ⟨ml_So_66, kd_Past_new⟩ (xfc ⟨fl_So_67, fun q h f => by cases h; exact ⟨rfl, rfl⟩⟩ (xfc trivial (xfc ⟨("SunnyOnes$Clues", F_Clues, 4), rfl, wg1 172 (by decide +kernel) rfl, wg1 173 (by decide +kernel) rfl, wg1 9 (by decide +kernel) rfl, rfl⟩ (xfc trivial (xfc trivial (xfc ⟨ml_So_73, kd_Clues_new⟩ (xfc ⟨fl_So_76, fun q h f => by cases h; exact ⟨rfl, rfl⟩⟩ (xfc trivial (xfc ⟨("SunnyOnes$Clues", F_Clues, 4), rfl, wg1 172 (by decide +kernel) rfl, wg1 173 (by decide +kernel) rfl, wg1 9 (by decide +kernel) rfl, rfl⟩ (xfc trivial (xfc trivial (xfc ⟨ml_So_73, kd_Clues_new⟩ (xfc ⟨fl_So_80, fun q h f => by cases h; exact ⟨rfl, rfl⟩⟩ (xfc trivial (xfc ⟨("SunnyOnes$Walk", F_Walk, 9), rfl, wg1 194 (by decide +kernel) rfl, wg1 195 (by decide +kernel) rfl, wg1 11 (by decide +kernel) rfl, rfl⟩ (xfc trivial (xfc trivial (xfc fl_So_26 (xfc trivial (xfc fl_So_47 (xfc trivial (xfc fl_So_58 (xfc ⟨ml_So_85, kd_Walk_new⟩ (xfc ⟨fl_So_88, fun q h f => by cases h; exact ⟨rfl, rfl⟩⟩ (xfc trivial (xfc ⟨("SunnyOnes$Rooms", F_Rooms, 9), rfl, wg1 228 (by decide +kernel) rfl, wg1 229 (by decide +kernel) rfl, wg1 12 (by decide +kernel) rfl, rfl⟩ (xfc trivial (xfc trivial (xfc fl_So_26 (xfc trivial (xfc fl_So_47 (xfc ⟨ml_So_94, kd_Rooms_new⟩ (xfc ⟨fl_So_97, fun q h f => by cases h; exact ⟨rfl, rfl⟩⟩ (xfc trivial (xfc ⟨("SunnyOnes$Chance", F_Chance, 5), rfl, wg2 22 (by decide +kernel) rfl, wg2 23 (by decide +kernel) rfl, wg1 13 (by decide +kernel) rfl, rfl⟩ (xfc trivial (xfc trivial (xfc fl_So_47 (xfc trivial (xfc fl_So_58 (xfc ⟨ml_So_103, kd_Chance_new⟩ (xfc ⟨fl_So_106, fun q h f => by cases h; exact ⟨rfl, rfl⟩⟩ (xfc trivial (xfc trivial (xfc ⟨wg1 41 (by decide +kernel) rfl, by unfold xAty; decide⟩ (xfc ⟨fl_So_110, fun q h f => by cases h; exact ⟨rfl, rfl⟩⟩ (xfc trivial (xfc trivial (xfc ⟨fl_So_114, fun q h f => by cases h; exact absurd f (by decide)⟩ (xfc trivial (xfn))))))))))))))))))))))))))))))))))))))))))))))))))))))))))))))))))))))))))))))))))))))))))))))))))))))))))))))
theorem s_So_new_0 (C : xCx) (r : List Value) (hp : xHp) (x : Nat) : (xV k_So_new C 0 [.ref x] r hp) = (True ∧ xV k_So_new C 1 [.ref x] (.ref x :: r) hp) := xVe _ _ _ _ _ _
theorem s_So_new_1 (a : Nat) (l : Launch) (d b lo gz n0 s0 : Nat) (Po : Option Value → xHp → Prop) (L r : List Value) (hp : xHp) : (xV k_So_new (l, d + 1, b, lo, gz, n0, s0, m_So_new, Po) 1 L (.ref a :: r) hp) = (xcs r 8 ∧ xV k_So_new (l, d + 1, b, lo, gz, n0, s0, m_So_new, Po) 4 L r hp) := xVe _ _ _ _ _ _
theorem s_So_new_4 (C : xCx) (r : List Value) (hp : xHp) (x : Nat) : (xV k_So_new C 4 [.ref x] r hp) = (True ∧ xV k_So_new C 5 [.ref x] (.ref x :: r) hp) := xVe _ _ _ _ _ _
theorem s_So_new_5 (l : Launch) (d b lo gz n0 s0 : Nat) (Po : Option Value → xHp → Prop) (L r : List Value) (hp : xHp) : (xV k_So_new (l, d, b, lo, gz, n0, s0, m_So_new, Po) 5 L r hp) = ((gz = 0 ∧ hp.2.1 + 1 ≤ n0 + 102 ∧ hp.2.2 + 2 ≤ s0 + 1016) ∧ xV k_So_new (l, d, b, lo, gz, n0, s0, m_So_new, Po) 8 L (.ref hp.2.1 :: r) (va_up hp.1 hp.2.1 (.inr (10, xDf 10)), hp.2.1 + 1, hp.2.2 + 2)) := xVe _ _ _ _ _ _
theorem s_So_new_8 (v : Value) (C : xCx) (L r : List Value) (hp : xHp) : (xV k_So_new C 8 L (v :: r) hp) = (v.category = 1 ∧ xV k_So_new C 9 L (v :: v :: r) hp) := xVe _ _ _ _ _ _
theorem s_So_new_9 (a : Nat) (l : Launch) (d b lo gz n0 s0 : Nat) (Po : Option Value → xHp → Prop) (L r : List Value) (hp : xHp) : (xV k_So_new (l, d + 1, b, lo, gz, n0, s0, m_So_new, Po) 9 L (.ref a :: r) hp) = (True ∧ xcs r 8 ∧ (gz = 0 ∧ hp.2.1 + 1 ≤ n0 + 102 ∧ hp.2.2 + 80 ≤ s0 + 1016) ∧ xMv l d b lo gz m_Text_new [.ref a] hp (fun hp' => xV k_So_new (l, d + 1, b, lo, gz, n0, s0, m_So_new, Po) 12 L r hp')) := xVe _ _ _ _ _ _
theorem s_So_new_12 (x a : Nat) (C : xCx) (L r : List Value) (hp : xHp) : (xV k_So_new C 12 L (.ref x :: .ref a :: r) hp) = (True ∧ xPf hp a 0 0 (.ref x) (fun hp' => xV k_So_new C 15 L r hp')) := xVe _ _ _ _ _ _
theorem s_So_new_15 (C : xCx) (r : List Value) (hp : xHp) (x : Nat) : (xV k_So_new C 15 [.ref x] r hp) = (True ∧ xV k_So_new C 16 [.ref x] (.ref x :: r) hp) := xVe _ _ _ _ _ _
theorem s_So_new_16 (l : Launch) (d b lo gz n0 s0 : Nat) (Po : Option Value → xHp → Prop) (L r : List Value) (hp : xHp) : (xV k_So_new (l, d, b, lo, gz, n0, s0, m_So_new, Po) 16 L r hp) = ((gz = 0 ∧ hp.2.1 + 1 ≤ n0 + 102 ∧ hp.2.2 + 2 ≤ s0 + 1016) ∧ xV k_So_new (l, d, b, lo, gz, n0, s0, m_So_new, Po) 19 L (.ref hp.2.1 :: r) (va_up hp.1 hp.2.1 (.inr (7, xDf 7)), hp.2.1 + 1, hp.2.2 + 2)) := xVe _ _ _ _ _ _
theorem s_So_new_19 (v : Value) (C : xCx) (L r : List Value) (hp : xHp) : (xV k_So_new C 19 L (v :: r) hp) = (v.category = 1 ∧ xV k_So_new C 20 L (v :: v :: r) hp) := xVe _ _ _ _ _ _
theorem s_So_new_20 (a : Nat) (l : Launch) (d b lo gz n0 s0 : Nat) (Po : Option Value → xHp → Prop) (L r : List Value) (hp : xHp) : (xV k_So_new (l, d + 1, b, lo, gz, n0, s0, m_So_new, Po) 20 L (.ref a :: r) hp) = (True ∧ xcs r 8 ∧ (gz = 0 ∧ hp.2.1 + 1 ≤ n0 + 102 ∧ hp.2.2 + 16 ≤ s0 + 1016) ∧ xMv l d b lo gz m_Row_new [.ref a] hp (fun hp' => xV k_So_new (l, d + 1, b, lo, gz, n0, s0, m_So_new, Po) 23 L r hp')) := xVe _ _ _ _ _ _
theorem s_So_new_23 (x a : Nat) (C : xCx) (L r : List Value) (hp : xHp) : (xV k_So_new C 23 L (.ref x :: .ref a :: r) hp) = (True ∧ xPf hp a 0 1 (.ref x) (fun hp' => xV k_So_new C 26 L r hp')) := xVe _ _ _ _ _ _
theorem s_So_new_26 (C : xCx) (r : List Value) (hp : xHp) (x : Nat) : (xV k_So_new C 26 [.ref x] r hp) = (True ∧ xV k_So_new C 27 [.ref x] (.ref x :: r) hp) := xVe _ _ _ _ _ _
theorem s_So_new_27 (l : Launch) (d b lo gz n0 s0 : Nat) (Po : Option Value → xHp → Prop) (L r : List Value) (hp : xHp) : (xV k_So_new (l, d, b, lo, gz, n0, s0, m_So_new, Po) 27 L r hp) = ((gz = 0 ∧ hp.2.1 + 1 ≤ n0 + 102 ∧ hp.2.2 + 4 ≤ s0 + 1016) ∧ xV k_So_new (l, d, b, lo, gz, n0, s0, m_So_new, Po) 30 L (.ref hp.2.1 :: r) (va_up hp.1 hp.2.1 (.inr (4, xDf 4)), hp.2.1 + 1, hp.2.2 + 4)) := xVe _ _ _ _ _ _
theorem s_So_new_30 (v : Value) (C : xCx) (L r : List Value) (hp : xHp) : (xV k_So_new C 30 L (v :: r) hp) = (v.category = 1 ∧ xV k_So_new C 31 L (v :: v :: r) hp) := xVe _ _ _ _ _ _
theorem s_So_new_31 (a : Nat) (l : Launch) (d b lo gz n0 s0 : Nat) (Po : Option Value → xHp → Prop) (L r : List Value) (hp : xHp) : (xV k_So_new (l, d + 1, b, lo, gz, n0, s0, m_So_new, Po) 31 L (.ref a :: r) hp) = (True ∧ xcs r 8 ∧ (gz = 0 ∧ hp.2.1 + 2 ≤ n0 + 102 ∧ hp.2.2 + 26 ≤ s0 + 1016) ∧ xMv l d b lo gz m_Land_new [.ref a] hp (fun hp' => xV k_So_new (l, d + 1, b, lo, gz, n0, s0, m_So_new, Po) 34 L r hp')) := xVe _ _ _ _ _ _
theorem s_So_new_34 (x a : Nat) (C : xCx) (L r : List Value) (hp : xHp) : (xV k_So_new C 34 L (.ref x :: .ref a :: r) hp) = (True ∧ xPf hp a 0 2 (.ref x) (fun hp' => xV k_So_new C 37 L r hp')) := xVe _ _ _ _ _ _
theorem s_So_new_37 (C : xCx) (r : List Value) (hp : xHp) (x : Nat) : (xV k_So_new C 37 [.ref x] r hp) = (True ∧ xV k_So_new C 38 [.ref x] (.ref x :: r) hp) := xVe _ _ _ _ _ _
theorem s_So_new_38 (l : Launch) (d b lo gz n0 s0 : Nat) (Po : Option Value → xHp → Prop) (L r : List Value) (hp : xHp) : (xV k_So_new (l, d, b, lo, gz, n0, s0, m_So_new, Po) 38 L r hp) = ((gz = 0 ∧ hp.2.1 + 1 ≤ n0 + 102 ∧ hp.2.2 + 5 ≤ s0 + 1016) ∧ xV k_So_new (l, d, b, lo, gz, n0, s0, m_So_new, Po) 41 L (.ref hp.2.1 :: r) (va_up hp.1 hp.2.1 (.inr (8, xDf 8)), hp.2.1 + 1, hp.2.2 + 5)) := xVe _ _ _ _ _ _
theorem s_So_new_41 (v : Value) (C : xCx) (L r : List Value) (hp : xHp) : (xV k_So_new C 41 L (v :: r) hp) = (v.category = 1 ∧ xV k_So_new C 42 L (v :: v :: r) hp) := xVe _ _ _ _ _ _
theorem s_So_new_42 (C : xCx) (r : List Value) (hp : xHp) (x : Nat) : (xV k_So_new C 42 [.ref x] r hp) = (True ∧ xV k_So_new C 43 [.ref x] (.ref x :: r) hp) := xVe _ _ _ _ _ _
theorem s_So_new_43 (a : Nat) (C : xCx) (L r : List Value) (hp : xHp) : (xV k_So_new C 43 L (.ref a :: r) hp) = (xF hp a 0 0 (fun v => xV k_So_new C 46 L (v :: r) hp)) := xVe _ _ _ _ _ _
theorem s_So_new_46 (x0 : Nat) (a : Nat) (l : Launch) (d b lo gz n0 s0 : Nat) (Po : Option Value → xHp → Prop) (L r : List Value) (hp : xHp) : (xV k_So_new (l, d + 1, b, lo, gz, n0, s0, m_So_new, Po) 46 L (.ref x0 :: .ref a :: r) hp) = (True ∧ xcs r 8 ∧ (gz = 0 ∧ hp.2.1 + 2 ≤ n0 + 102 ∧ hp.2.2 + 80 ≤ s0 + 1016) ∧ xMv l d b lo gz m_Rule_new [.ref a, .ref x0] hp (fun hp' => xV k_So_new (l, d + 1, b, lo, gz, n0, s0, m_So_new, Po) 49 L r hp')) := xVe _ _ _ _ _ _
theorem s_So_new_49 (x a : Nat) (C : xCx) (L r : List Value) (hp : xHp) : (xV k_So_new C 49 L (.ref x :: .ref a :: r) hp) = (True ∧ xPf hp a 0 3 (.ref x) (fun hp' => xV k_So_new C 52 L r hp')) := xVe _ _ _ _ _ _
theorem s_So_new_52 (C : xCx) (r : List Value) (hp : xHp) (x : Nat) : (xV k_So_new C 52 [.ref x] r hp) = (True ∧ xV k_So_new C 53 [.ref x] (.ref x :: r) hp) := xVe _ _ _ _ _ _
theorem s_So_new_53 (l : Launch) (d b lo gz n0 s0 : Nat) (Po : Option Value → xHp → Prop) (L r : List Value) (hp : xHp) : (xV k_So_new (l, d, b, lo, gz, n0, s0, m_So_new, Po) 53 L r hp) = ((gz = 0 ∧ hp.2.1 + 1 ≤ n0 + 102 ∧ hp.2.2 + 5 ≤ s0 + 1016) ∧ xV k_So_new (l, d, b, lo, gz, n0, s0, m_So_new, Po) 56 L (.ref hp.2.1 :: r) (va_up hp.1 hp.2.1 (.inr (8, xDf 8)), hp.2.1 + 1, hp.2.2 + 5)) := xVe _ _ _ _ _ _
theorem s_So_new_56 (v : Value) (C : xCx) (L r : List Value) (hp : xHp) : (xV k_So_new C 56 L (v :: r) hp) = (v.category = 1 ∧ xV k_So_new C 57 L (v :: v :: r) hp) := xVe _ _ _ _ _ _
theorem s_So_new_57 (C : xCx) (r : List Value) (hp : xHp) (x : Nat) : (xV k_So_new C 57 [.ref x] r hp) = (True ∧ xV k_So_new C 58 [.ref x] (.ref x :: r) hp) := xVe _ _ _ _ _ _
theorem s_So_new_58 (a : Nat) (C : xCx) (L r : List Value) (hp : xHp) : (xV k_So_new C 58 L (.ref a :: r) hp) = (xF hp a 0 0 (fun v => xV k_So_new C 61 L (v :: r) hp)) := xVe _ _ _ _ _ _
theorem s_So_new_61 (x0 : Nat) (a : Nat) (l : Launch) (d b lo gz n0 s0 : Nat) (Po : Option Value → xHp → Prop) (L r : List Value) (hp : xHp) : (xV k_So_new (l, d + 1, b, lo, gz, n0, s0, m_So_new, Po) 61 L (.ref x0 :: .ref a :: r) hp) = (True ∧ xcs r 8 ∧ (gz = 0 ∧ hp.2.1 + 2 ≤ n0 + 102 ∧ hp.2.2 + 80 ≤ s0 + 1016) ∧ xMv l d b lo gz m_Rule_new [.ref a, .ref x0] hp (fun hp' => xV k_So_new (l, d + 1, b, lo, gz, n0, s0, m_So_new, Po) 64 L r hp')) := xVe _ _ _ _ _ _
theorem s_So_new_64 (x a : Nat) (C : xCx) (L r : List Value) (hp : xHp) : (xV k_So_new C 64 L (.ref x :: .ref a :: r) hp) = (True ∧ xPf hp a 0 4 (.ref x) (fun hp' => xV k_So_new C 67 L r hp')) := xVe _ _ _ _ _ _
theorem s_So_new_67 (C : xCx) (r : List Value) (hp : xHp) (x : Nat) : (xV k_So_new C 67 [.ref x] r hp) = (True ∧ xV k_So_new C 68 [.ref x] (.ref x :: r) hp) := xVe _ _ _ _ _ _
theorem s_So_new_68 (l : Launch) (d b lo gz n0 s0 : Nat) (Po : Option Value → xHp → Prop) (L r : List Value) (hp : xHp) : (xV k_So_new (l, d, b, lo, gz, n0, s0, m_So_new, Po) 68 L r hp) = ((gz = 0 ∧ hp.2.1 + 1 ≤ n0 + 102 ∧ hp.2.2 + 3 ≤ s0 + 1016) ∧ xV k_So_new (l, d, b, lo, gz, n0, s0, m_So_new, Po) 71 L (.ref hp.2.1 :: r) (va_up hp.1 hp.2.1 (.inr (9, xDf 9)), hp.2.1 + 1, hp.2.2 + 3)) := xVe _ _ _ _ _ _
theorem s_So_new_71 (v : Value) (C : xCx) (L r : List Value) (hp : xHp) : (xV k_So_new C 71 L (v :: r) hp) = (v.category = 1 ∧ xV k_So_new C 72 L (v :: v :: r) hp) := xVe _ _ _ _ _ _
theorem s_So_new_72 (C : xCx) (r : List Value) (hp : xHp) (x : Nat) : (xV k_So_new C 72 [.ref x] r hp) = (True ∧ xV k_So_new C 73 [.ref x] (.ref x :: r) hp) := xVe _ _ _ _ _ _
theorem s_So_new_73 (a : Nat) (C : xCx) (L r : List Value) (hp : xHp) : (xV k_So_new C 73 L (.ref a :: r) hp) = (xF hp a 0 2 (fun v => xV k_So_new C 76 L (v :: r) hp)) := xVe _ _ _ _ _ _
theorem s_So_new_76 (C : xCx) (r : List Value) (hp : xHp) (x : Nat) : (xV k_So_new C 76 [.ref x] r hp) = (True ∧ xV k_So_new C 77 [.ref x] (.ref x :: r) hp) := xVe _ _ _ _ _ _
theorem s_So_new_77 (a : Nat) (C : xCx) (L r : List Value) (hp : xHp) : (xV k_So_new C 77 L (.ref a :: r) hp) = (xF hp a 0 3 (fun v => xV k_So_new C 80 L (v :: r) hp)) := xVe _ _ _ _ _ _
theorem s_So_new_80 (x0 : Nat) (x1 : Nat) (a : Nat) (l : Launch) (d b lo gz n0 s0 : Nat) (Po : Option Value → xHp → Prop) (L r : List Value) (hp : xHp) : (xV k_So_new (l, d + 1, b, lo, gz, n0, s0, m_So_new, Po) 80 L (.ref x1 :: .ref x0 :: .ref a :: r) hp) = (True ∧ xcs r 8 ∧ (gz = 0 ∧ hp.2.1 + 1 ≤ n0 + 102 ∧ hp.2.2 + 7 ≤ s0 + 1016) ∧ xMv l d b lo gz m_Sun_new [.ref a, .ref x0, .ref x1] hp (fun hp' => xV k_So_new (l, d + 1, b, lo, gz, n0, s0, m_So_new, Po) 83 L r hp')) := xVe _ _ _ _ _ _
theorem s_So_new_83 (x a : Nat) (C : xCx) (L r : List Value) (hp : xHp) : (xV k_So_new C 83 L (.ref x :: .ref a :: r) hp) = (True ∧ xPf hp a 0 5 (.ref x) (fun hp' => xV k_So_new C 86 L r hp')) := xVe _ _ _ _ _ _
theorem s_So_new_86 (C : xCx) (r : List Value) (hp : xHp) (x : Nat) : (xV k_So_new C 86 [.ref x] r hp) = (True ∧ xV k_So_new C 87 [.ref x] (.ref x :: r) hp) := xVe _ _ _ _ _ _
theorem s_So_new_87 (l : Launch) (d b lo gz n0 s0 : Nat) (Po : Option Value → xHp → Prop) (L r : List Value) (hp : xHp) : (xV k_So_new (l, d, b, lo, gz, n0, s0, m_So_new, Po) 87 L r hp) = ((gz = 0 ∧ hp.2.1 + 1 ≤ n0 + 102 ∧ hp.2.2 + 5 ≤ s0 + 1016) ∧ xV k_So_new (l, d, b, lo, gz, n0, s0, m_So_new, Po) 90 L (.ref hp.2.1 :: r) (va_up hp.1 hp.2.1 (.inr (3, xDf 3)), hp.2.1 + 1, hp.2.2 + 5)) := xVe _ _ _ _ _ _
theorem s_So_new_90 (v : Value) (C : xCx) (L r : List Value) (hp : xHp) : (xV k_So_new C 90 L (v :: r) hp) = (v.category = 1 ∧ xV k_So_new C 91 L (v :: v :: r) hp) := xVe _ _ _ _ _ _
theorem s_So_new_91 (a : Nat) (l : Launch) (d b lo gz n0 s0 : Nat) (Po : Option Value → xHp → Prop) (L r : List Value) (hp : xHp) : (xV k_So_new (l, d + 1, b, lo, gz, n0, s0, m_So_new, Po) 91 L (.ref a :: r) hp) = (True ∧ xcs r 8 ∧ (gz = 0 ∧ hp.2.1 + 3 ≤ n0 + 102 ∧ hp.2.2 + 21 ≤ s0 + 1016) ∧ xMv l d b lo gz m_Folk_new [.ref a] hp (fun hp' => xV k_So_new (l, d + 1, b, lo, gz, n0, s0, m_So_new, Po) 94 L r hp')) := xVe _ _ _ _ _ _
theorem s_So_new_94 (x a : Nat) (C : xCx) (L r : List Value) (hp : xHp) : (xV k_So_new C 94 L (.ref x :: .ref a :: r) hp) = (True ∧ xPf hp a 0 6 (.ref x) (fun hp' => xV k_So_new C 97 L r hp')) := xVe _ _ _ _ _ _
theorem s_So_new_97 (C : xCx) (r : List Value) (hp : xHp) (x : Nat) : (xV k_So_new C 97 [.ref x] r hp) = (True ∧ xV k_So_new C 98 [.ref x] (.ref x :: r) hp) := xVe _ _ _ _ _ _
theorem s_So_new_98 (l : Launch) (d b lo gz n0 s0 : Nat) (Po : Option Value → xHp → Prop) (L r : List Value) (hp : xHp) : (xV k_So_new (l, d, b, lo, gz, n0, s0, m_So_new, Po) 98 L r hp) = ((gz = 0 ∧ hp.2.1 + 1 ≤ n0 + 102 ∧ hp.2.2 + 5 ≤ s0 + 1016) ∧ xV k_So_new (l, d, b, lo, gz, n0, s0, m_So_new, Po) 101 L (.ref hp.2.1 :: r) (va_up hp.1 hp.2.1 (.inr (3, xDf 3)), hp.2.1 + 1, hp.2.2 + 5)) := xVe _ _ _ _ _ _
theorem s_So_new_101 (v : Value) (C : xCx) (L r : List Value) (hp : xHp) : (xV k_So_new C 101 L (v :: r) hp) = (v.category = 1 ∧ xV k_So_new C 102 L (v :: v :: r) hp) := xVe _ _ _ _ _ _
theorem s_So_new_102 (a : Nat) (l : Launch) (d b lo gz n0 s0 : Nat) (Po : Option Value → xHp → Prop) (L r : List Value) (hp : xHp) : (xV k_So_new (l, d + 1, b, lo, gz, n0, s0, m_So_new, Po) 102 L (.ref a :: r) hp) = (True ∧ xcs r 8 ∧ (gz = 0 ∧ hp.2.1 + 3 ≤ n0 + 102 ∧ hp.2.2 + 21 ≤ s0 + 1016) ∧ xMv l d b lo gz m_Folk_new [.ref a] hp (fun hp' => xV k_So_new (l, d + 1, b, lo, gz, n0, s0, m_So_new, Po) 105 L r hp')) := xVe _ _ _ _ _ _
theorem s_So_new_105 (x a : Nat) (C : xCx) (L r : List Value) (hp : xHp) : (xV k_So_new C 105 L (.ref x :: .ref a :: r) hp) = (True ∧ xPf hp a 0 7 (.ref x) (fun hp' => xV k_So_new C 108 L r hp')) := xVe _ _ _ _ _ _
theorem s_So_new_108 (C : xCx) (r : List Value) (hp : xHp) (x : Nat) : (xV k_So_new C 108 [.ref x] r hp) = (True ∧ xV k_So_new C 109 [.ref x] (.ref x :: r) hp) := xVe _ _ _ _ _ _
theorem s_So_new_109 (l : Launch) (d b lo gz n0 s0 : Nat) (Po : Option Value → xHp → Prop) (L r : List Value) (hp : xHp) : (xV k_So_new (l, d, b, lo, gz, n0, s0, m_So_new, Po) 109 L r hp) = ((gz = 0 ∧ hp.2.1 + 1 ≤ n0 + 102 ∧ hp.2.2 + 5 ≤ s0 + 1016) ∧ xV k_So_new (l, d, b, lo, gz, n0, s0, m_So_new, Po) 112 L (.ref hp.2.1 :: r) (va_up hp.1 hp.2.1 (.inr (3, xDf 3)), hp.2.1 + 1, hp.2.2 + 5)) := xVe _ _ _ _ _ _
theorem s_So_new_112 (v : Value) (C : xCx) (L r : List Value) (hp : xHp) : (xV k_So_new C 112 L (v :: r) hp) = (v.category = 1 ∧ xV k_So_new C 113 L (v :: v :: r) hp) := xVe _ _ _ _ _ _
theorem s_So_new_113 (a : Nat) (l : Launch) (d b lo gz n0 s0 : Nat) (Po : Option Value → xHp → Prop) (L r : List Value) (hp : xHp) : (xV k_So_new (l, d + 1, b, lo, gz, n0, s0, m_So_new, Po) 113 L (.ref a :: r) hp) = (True ∧ xcs r 8 ∧ (gz = 0 ∧ hp.2.1 + 3 ≤ n0 + 102 ∧ hp.2.2 + 21 ≤ s0 + 1016) ∧ xMv l d b lo gz m_Folk_new [.ref a] hp (fun hp' => xV k_So_new (l, d + 1, b, lo, gz, n0, s0, m_So_new, Po) 116 L r hp')) := xVe _ _ _ _ _ _
theorem s_So_new_116 (x a : Nat) (C : xCx) (L r : List Value) (hp : xHp) : (xV k_So_new C 116 L (.ref x :: .ref a :: r) hp) = (True ∧ xPf hp a 0 8 (.ref x) (fun hp' => xV k_So_new C 119 L r hp')) := xVe _ _ _ _ _ _
theorem s_So_new_119 (C : xCx) (r : List Value) (hp : xHp) (x : Nat) : (xV k_So_new C 119 [.ref x] r hp) = (True ∧ xV k_So_new C 120 [.ref x] (.ref x :: r) hp) := xVe _ _ _ _ _ _
theorem s_So_new_120 (l : Launch) (d b lo gz n0 s0 : Nat) (Po : Option Value → xHp → Prop) (L r : List Value) (hp : xHp) : (xV k_So_new (l, d, b, lo, gz, n0, s0, m_So_new, Po) 120 L r hp) = ((gz = 0 ∧ hp.2.1 + 1 ≤ n0 + 102 ∧ hp.2.2 + 5 ≤ s0 + 1016) ∧ xV k_So_new (l, d, b, lo, gz, n0, s0, m_So_new, Po) 123 L (.ref hp.2.1 :: r) (va_up hp.1 hp.2.1 (.inr (5, xDf 5)), hp.2.1 + 1, hp.2.2 + 5)) := xVe _ _ _ _ _ _
theorem s_So_new_123 (v : Value) (C : xCx) (L r : List Value) (hp : xHp) : (xV k_So_new C 123 L (v :: r) hp) = (v.category = 1 ∧ xV k_So_new C 124 L (v :: v :: r) hp) := xVe _ _ _ _ _ _
theorem s_So_new_124 (a : Nat) (l : Launch) (d b lo gz n0 s0 : Nat) (Po : Option Value → xHp → Prop) (L r : List Value) (hp : xHp) : (xV k_So_new (l, d + 1, b, lo, gz, n0, s0, m_So_new, Po) 124 L (.ref a :: r) hp) = (True ∧ xcs r 8 ∧ (gz = 0 ∧ hp.2.1 + 59 ≤ n0 + 102 ∧ hp.2.2 + 380 ≤ s0 + 1016) ∧ xMv l d b lo gz m_Past_new [.ref a] hp (fun hp' => xV k_So_new (l, d + 1, b, lo, gz, n0, s0, m_So_new, Po) 127 L r hp')) := xVe _ _ _ _ _ _
theorem s_So_new_127 (x a : Nat) (C : xCx) (L r : List Value) (hp : xHp) : (xV k_So_new C 127 L (.ref x :: .ref a :: r) hp) = (True ∧ xPf hp a 0 9 (.ref x) (fun hp' => xV k_So_new C 130 L r hp')) := xVe _ _ _ _ _ _
theorem s_So_new_130 (C : xCx) (r : List Value) (hp : xHp) (x : Nat) : (xV k_So_new C 130 [.ref x] r hp) = (True ∧ xV k_So_new C 131 [.ref x] (.ref x :: r) hp) := xVe _ _ _ _ _ _
theorem s_So_new_131 (l : Launch) (d b lo gz n0 s0 : Nat) (Po : Option Value → xHp → Prop) (L r : List Value) (hp : xHp) : (xV k_So_new (l, d, b, lo, gz, n0, s0, m_So_new, Po) 131 L r hp) = ((gz = 0 ∧ hp.2.1 + 1 ≤ n0 + 102 ∧ hp.2.2 + 4 ≤ s0 + 1016) ∧ xV k_So_new (l, d, b, lo, gz, n0, s0, m_So_new, Po) 134 L (.ref hp.2.1 :: r) (va_up hp.1 hp.2.1 (.inr (2, xDf 2)), hp.2.1 + 1, hp.2.2 + 4)) := xVe _ _ _ _ _ _
theorem s_So_new_134 (v : Value) (C : xCx) (L r : List Value) (hp : xHp) : (xV k_So_new C 134 L (v :: r) hp) = (v.category = 1 ∧ xV k_So_new C 135 L (v :: v :: r) hp) := xVe _ _ _ _ _ _
theorem s_So_new_135  (C : xCx) (L r : List Value) (hp : xHp) : (xV k_So_new C 135 L (r) hp) = (xV k_So_new C 137 L (.int (10) :: r) hp) := xVe _ _ _ _ _ _
theorem s_So_new_137 (x0 : Int32) (a : Nat) (l : Launch) (d b lo gz n0 s0 : Nat) (Po : Option Value → xHp → Prop) (L r : List Value) (hp : xHp) : (xV k_So_new (l, d + 1, b, lo, gz, n0, s0, m_So_new, Po) 137 L (.int x0 :: .ref a :: r) hp) = (True ∧ xcs r 8 ∧ (gz = 0 ∧ hp.2.1 + 2 ≤ n0 + 102 ∧ hp.2.2 + 24 ≤ s0 + 1016) ∧ xMv l d b lo gz m_Clues_new [.ref a, .int x0] hp (fun hp' => xV k_So_new (l, d + 1, b, lo, gz, n0, s0, m_So_new, Po) 140 L r hp')) := xVe _ _ _ _ _ _
theorem s_So_new_140 (x a : Nat) (C : xCx) (L r : List Value) (hp : xHp) : (xV k_So_new C 140 L (.ref x :: .ref a :: r) hp) = (True ∧ xPf hp a 0 10 (.ref x) (fun hp' => xV k_So_new C 143 L r hp')) := xVe _ _ _ _ _ _
theorem s_So_new_143 (C : xCx) (r : List Value) (hp : xHp) (x : Nat) : (xV k_So_new C 143 [.ref x] r hp) = (True ∧ xV k_So_new C 144 [.ref x] (.ref x :: r) hp) := xVe _ _ _ _ _ _
theorem s_So_new_144 (l : Launch) (d b lo gz n0 s0 : Nat) (Po : Option Value → xHp → Prop) (L r : List Value) (hp : xHp) : (xV k_So_new (l, d, b, lo, gz, n0, s0, m_So_new, Po) 144 L r hp) = ((gz = 0 ∧ hp.2.1 + 1 ≤ n0 + 102 ∧ hp.2.2 + 4 ≤ s0 + 1016) ∧ xV k_So_new (l, d, b, lo, gz, n0, s0, m_So_new, Po) 147 L (.ref hp.2.1 :: r) (va_up hp.1 hp.2.1 (.inr (2, xDf 2)), hp.2.1 + 1, hp.2.2 + 4)) := xVe _ _ _ _ _ _
theorem s_So_new_147 (v : Value) (C : xCx) (L r : List Value) (hp : xHp) : (xV k_So_new C 147 L (v :: r) hp) = (v.category = 1 ∧ xV k_So_new C 148 L (v :: v :: r) hp) := xVe _ _ _ _ _ _
theorem s_So_new_148  (C : xCx) (L r : List Value) (hp : xHp) : (xV k_So_new C 148 L (r) hp) = (xV k_So_new C 150 L (.int (12) :: r) hp) := xVe _ _ _ _ _ _
theorem s_So_new_150 (x0 : Int32) (a : Nat) (l : Launch) (d b lo gz n0 s0 : Nat) (Po : Option Value → xHp → Prop) (L r : List Value) (hp : xHp) : (xV k_So_new (l, d + 1, b, lo, gz, n0, s0, m_So_new, Po) 150 L (.int x0 :: .ref a :: r) hp) = (True ∧ xcs r 8 ∧ (gz = 0 ∧ hp.2.1 + 2 ≤ n0 + 102 ∧ hp.2.2 + 24 ≤ s0 + 1016) ∧ xMv l d b lo gz m_Clues_new [.ref a, .int x0] hp (fun hp' => xV k_So_new (l, d + 1, b, lo, gz, n0, s0, m_So_new, Po) 153 L r hp')) := xVe _ _ _ _ _ _
theorem s_So_new_153 (x a : Nat) (C : xCx) (L r : List Value) (hp : xHp) : (xV k_So_new C 153 L (.ref x :: .ref a :: r) hp) = (True ∧ xPf hp a 0 11 (.ref x) (fun hp' => xV k_So_new C 156 L r hp')) := xVe _ _ _ _ _ _
theorem s_So_new_156 (C : xCx) (r : List Value) (hp : xHp) (x : Nat) : (xV k_So_new C 156 [.ref x] r hp) = (True ∧ xV k_So_new C 157 [.ref x] (.ref x :: r) hp) := xVe _ _ _ _ _ _
theorem s_So_new_157 (l : Launch) (d b lo gz n0 s0 : Nat) (Po : Option Value → xHp → Prop) (L r : List Value) (hp : xHp) : (xV k_So_new (l, d, b, lo, gz, n0, s0, m_So_new, Po) 157 L r hp) = ((gz = 0 ∧ hp.2.1 + 1 ≤ n0 + 102 ∧ hp.2.2 + 9 ≤ s0 + 1016) ∧ xV k_So_new (l, d, b, lo, gz, n0, s0, m_So_new, Po) 160 L (.ref hp.2.1 :: r) (va_up hp.1 hp.2.1 (.inr (11, xDf 11)), hp.2.1 + 1, hp.2.2 + 9)) := xVe _ _ _ _ _ _
theorem s_So_new_160 (v : Value) (C : xCx) (L r : List Value) (hp : xHp) : (xV k_So_new C 160 L (v :: r) hp) = (v.category = 1 ∧ xV k_So_new C 161 L (v :: v :: r) hp) := xVe _ _ _ _ _ _
theorem s_So_new_161 (C : xCx) (r : List Value) (hp : xHp) (x : Nat) : (xV k_So_new C 161 [.ref x] r hp) = (True ∧ xV k_So_new C 162 [.ref x] (.ref x :: r) hp) := xVe _ _ _ _ _ _
theorem s_So_new_162 (a : Nat) (C : xCx) (L r : List Value) (hp : xHp) : (xV k_So_new C 162 L (.ref a :: r) hp) = (xF hp a 0 2 (fun v => xV k_So_new C 165 L (v :: r) hp)) := xVe _ _ _ _ _ _
theorem s_So_new_165 (C : xCx) (r : List Value) (hp : xHp) (x : Nat) : (xV k_So_new C 165 [.ref x] r hp) = (True ∧ xV k_So_new C 166 [.ref x] (.ref x :: r) hp) := xVe _ _ _ _ _ _
theorem s_So_new_166 (a : Nat) (C : xCx) (L r : List Value) (hp : xHp) : (xV k_So_new C 166 L (.ref a :: r) hp) = (xF hp a 0 5 (fun v => xV k_So_new C 169 L (v :: r) hp)) := xVe _ _ _ _ _ _
theorem s_So_new_169 (C : xCx) (r : List Value) (hp : xHp) (x : Nat) : (xV k_So_new C 169 [.ref x] r hp) = (True ∧ xV k_So_new C 170 [.ref x] (.ref x :: r) hp) := xVe _ _ _ _ _ _
theorem s_So_new_170 (a : Nat) (C : xCx) (L r : List Value) (hp : xHp) : (xV k_So_new C 170 L (.ref a :: r) hp) = (xF hp a 0 7 (fun v => xV k_So_new C 173 L (v :: r) hp)) := xVe _ _ _ _ _ _
theorem s_So_new_173 (x0 : Nat) (x1 : Nat) (x2 : Nat) (a : Nat) (l : Launch) (d b lo gz n0 s0 : Nat) (Po : Option Value → xHp → Prop) (L r : List Value) (hp : xHp) : (xV k_So_new (l, d + 1, b, lo, gz, n0, s0, m_So_new, Po) 173 L (.ref x2 :: .ref x1 :: .ref x0 :: .ref a :: r) hp) = (True ∧ xcs r 8 ∧ (gz = 0 ∧ hp.2.1 + 2 ≤ n0 + 102 ∧ hp.2.2 + 8 ≤ s0 + 1016) ∧ xMv l d b lo gz m_Walk_new [.ref a, .ref x0, .ref x1, .ref x2] hp (fun hp' => xV k_So_new (l, d + 1, b, lo, gz, n0, s0, m_So_new, Po) 176 L r hp')) := xVe _ _ _ _ _ _
theorem s_So_new_176 (x a : Nat) (C : xCx) (L r : List Value) (hp : xHp) : (xV k_So_new C 176 L (.ref x :: .ref a :: r) hp) = (True ∧ xPf hp a 0 12 (.ref x) (fun hp' => xV k_So_new C 179 L r hp')) := xVe _ _ _ _ _ _
theorem s_So_new_179 (C : xCx) (r : List Value) (hp : xHp) (x : Nat) : (xV k_So_new C 179 [.ref x] r hp) = (True ∧ xV k_So_new C 180 [.ref x] (.ref x :: r) hp) := xVe _ _ _ _ _ _
theorem s_So_new_180 (l : Launch) (d b lo gz n0 s0 : Nat) (Po : Option Value → xHp → Prop) (L r : List Value) (hp : xHp) : (xV k_So_new (l, d, b, lo, gz, n0, s0, m_So_new, Po) 180 L r hp) = ((gz = 0 ∧ hp.2.1 + 1 ≤ n0 + 102 ∧ hp.2.2 + 9 ≤ s0 + 1016) ∧ xV k_So_new (l, d, b, lo, gz, n0, s0, m_So_new, Po) 183 L (.ref hp.2.1 :: r) (va_up hp.1 hp.2.1 (.inr (6, xDf 6)), hp.2.1 + 1, hp.2.2 + 9)) := xVe _ _ _ _ _ _
theorem s_So_new_183 (v : Value) (C : xCx) (L r : List Value) (hp : xHp) : (xV k_So_new C 183 L (v :: r) hp) = (v.category = 1 ∧ xV k_So_new C 184 L (v :: v :: r) hp) := xVe _ _ _ _ _ _
theorem s_So_new_184 (C : xCx) (r : List Value) (hp : xHp) (x : Nat) : (xV k_So_new C 184 [.ref x] r hp) = (True ∧ xV k_So_new C 185 [.ref x] (.ref x :: r) hp) := xVe _ _ _ _ _ _
theorem s_So_new_185 (a : Nat) (C : xCx) (L r : List Value) (hp : xHp) : (xV k_So_new C 185 L (.ref a :: r) hp) = (xF hp a 0 2 (fun v => xV k_So_new C 188 L (v :: r) hp)) := xVe _ _ _ _ _ _
theorem s_So_new_188 (C : xCx) (r : List Value) (hp : xHp) (x : Nat) : (xV k_So_new C 188 [.ref x] r hp) = (True ∧ xV k_So_new C 189 [.ref x] (.ref x :: r) hp) := xVe _ _ _ _ _ _
theorem s_So_new_189 (a : Nat) (C : xCx) (L r : List Value) (hp : xHp) : (xV k_So_new C 189 L (.ref a :: r) hp) = (xF hp a 0 5 (fun v => xV k_So_new C 192 L (v :: r) hp)) := xVe _ _ _ _ _ _
theorem s_So_new_192 (x0 : Nat) (x1 : Nat) (a : Nat) (l : Launch) (d b lo gz n0 s0 : Nat) (Po : Option Value → xHp → Prop) (L r : List Value) (hp : xHp) : (xV k_So_new (l, d + 1, b, lo, gz, n0, s0, m_So_new, Po) 192 L (.ref x1 :: .ref x0 :: .ref a :: r) hp) = (True ∧ xcs r 8 ∧ (gz = 0 ∧ hp.2.1 + 3 ≤ n0 + 102 ∧ hp.2.2 + 56 ≤ s0 + 1016) ∧ xMv l d b lo gz m_Rooms_new [.ref a, .ref x0, .ref x1] hp (fun hp' => xV k_So_new (l, d + 1, b, lo, gz, n0, s0, m_So_new, Po) 195 L r hp')) := xVe _ _ _ _ _ _
theorem s_So_new_195 (x a : Nat) (C : xCx) (L r : List Value) (hp : xHp) : (xV k_So_new C 195 L (.ref x :: .ref a :: r) hp) = (True ∧ xPf hp a 0 13 (.ref x) (fun hp' => xV k_So_new C 198 L r hp')) := xVe _ _ _ _ _ _
theorem s_So_new_198 (C : xCx) (r : List Value) (hp : xHp) (x : Nat) : (xV k_So_new C 198 [.ref x] r hp) = (True ∧ xV k_So_new C 199 [.ref x] (.ref x :: r) hp) := xVe _ _ _ _ _ _
theorem s_So_new_199 (l : Launch) (d b lo gz n0 s0 : Nat) (Po : Option Value → xHp → Prop) (L r : List Value) (hp : xHp) : (xV k_So_new (l, d, b, lo, gz, n0, s0, m_So_new, Po) 199 L r hp) = ((gz = 0 ∧ hp.2.1 + 1 ≤ n0 + 102 ∧ hp.2.2 + 5 ≤ s0 + 1016) ∧ xV k_So_new (l, d, b, lo, gz, n0, s0, m_So_new, Po) 202 L (.ref hp.2.1 :: r) (va_up hp.1 hp.2.1 (.inr (1, xDf 1)), hp.2.1 + 1, hp.2.2 + 5)) := xVe _ _ _ _ _ _
theorem s_So_new_202 (v : Value) (C : xCx) (L r : List Value) (hp : xHp) : (xV k_So_new C 202 L (v :: r) hp) = (v.category = 1 ∧ xV k_So_new C 203 L (v :: v :: r) hp) := xVe _ _ _ _ _ _
theorem s_So_new_203 (C : xCx) (r : List Value) (hp : xHp) (x : Nat) : (xV k_So_new C 203 [.ref x] r hp) = (True ∧ xV k_So_new C 204 [.ref x] (.ref x :: r) hp) := xVe _ _ _ _ _ _
theorem s_So_new_204 (a : Nat) (C : xCx) (L r : List Value) (hp : xHp) : (xV k_So_new C 204 L (.ref a :: r) hp) = (xF hp a 0 5 (fun v => xV k_So_new C 207 L (v :: r) hp)) := xVe _ _ _ _ _ _
theorem s_So_new_207 (C : xCx) (r : List Value) (hp : xHp) (x : Nat) : (xV k_So_new C 207 [.ref x] r hp) = (True ∧ xV k_So_new C 208 [.ref x] (.ref x :: r) hp) := xVe _ _ _ _ _ _
theorem s_So_new_208 (a : Nat) (C : xCx) (L r : List Value) (hp : xHp) : (xV k_So_new C 208 L (.ref a :: r) hp) = (xF hp a 0 7 (fun v => xV k_So_new C 211 L (v :: r) hp)) := xVe _ _ _ _ _ _
theorem s_So_new_211 (x0 : Nat) (x1 : Nat) (a : Nat) (l : Launch) (d b lo gz n0 s0 : Nat) (Po : Option Value → xHp → Prop) (L r : List Value) (hp : xHp) : (xV k_So_new (l, d + 1, b, lo, gz, n0, s0, m_So_new, Po) 211 L (.ref x1 :: .ref x0 :: .ref a :: r) hp) = (True ∧ xcs r 8 ∧ xMv l d b lo gz m_Chance_new [.ref a, .ref x0, .ref x1] hp (fun hp' => xV k_So_new (l, d + 1, b, lo, gz, n0, s0, m_So_new, Po) 214 L r hp')) := xVe _ _ _ _ _ _
theorem s_So_new_214 (x a : Nat) (C : xCx) (L r : List Value) (hp : xHp) : (xV k_So_new C 214 L (.ref x :: .ref a :: r) hp) = (True ∧ xPf hp a 0 14 (.ref x) (fun hp' => xV k_So_new C 217 L r hp')) := xVe _ _ _ _ _ _
theorem s_So_new_217 (C : xCx) (r : List Value) (hp : xHp) (x : Nat) : (xV k_So_new C 217 [.ref x] r hp) = (True ∧ xV k_So_new C 218 [.ref x] (.ref x :: r) hp) := xVe _ _ _ _ _ _
theorem s_So_new_218  (C : xCx) (L r : List Value) (hp : xHp) : (xV k_So_new C 218 L (r) hp) = (xV k_So_new C 220 L (.int (100) :: r) hp) := xVe _ _ _ _ _ _
theorem s_So_new_220 (n : Int32) (l : Launch) (d b lo gz n0 s0 : Nat) (Po : Option Value → xHp → Prop) (L r : List Value) (hp : xHp) : (xV k_So_new (l, d, b, lo, gz, n0, s0, m_So_new, Po) 220 L (.int n :: r) hp) = (¬ n < 0 ∧ n.toNatClampNeg ≤ 10000 ∧ (gz = 0 ∧ hp.2.1 + 1 ≤ n0 + 102 ∧ hp.2.2 + n.toNatClampNeg ≤ s0 + 1016) ∧ xV k_So_new (l, d, b, lo, gz, n0, s0, m_So_new, Po) 222 L (.ref hp.2.1 :: r) (va_up hp.1 hp.2.1 (.inl (.int, xZero .int n.toNatClampNeg)), hp.2.1 + 1, hp.2.2 + n.toNatClampNeg)) := xVe _ _ _ _ _ _
theorem s_So_new_222 (x a : Nat) (C : xCx) (L r : List Value) (hp : xHp) : (xV k_So_new C 222 L (.ref x :: .ref a :: r) hp) = (True ∧ xPf hp a 0 15 (.ref x) (fun hp' => xV k_So_new C 225 L r hp')) := xVe _ _ _ _ _ _
theorem s_So_new_225 (C : xCx) (r : List Value) (hp : xHp) (x : Nat) : (xV k_So_new C 225 [.ref x] r hp) = (True ∧ xV k_So_new C 226 [.ref x] (.ref x :: r) hp) := xVe _ _ _ _ _ _
theorem s_So_new_226  (C : xCx) (L r : List Value) (hp : xHp) : (xV k_So_new C 226 L (r) hp) = (xV k_So_new C 227 L (.int (0) :: r) hp) := xVe _ _ _ _ _ _
theorem s_So_new_227 (x : Int32) (a : Nat) (C : xCx) (L r : List Value) (hp : xHp) : (xV k_So_new C 227 L (.int x :: .ref a :: r) hp) = (True ∧ xPf hp a 0 16 (.int x) (fun hp' => xV k_So_new C 230 L r hp')) := xVe _ _ _ _ _ _
theorem s_So_new_230 (l : Launch) (d b lo gz n0 s0 : Nat) (Po : Option Value → xHp → Prop) (L : List Value) (hp : xHp) : (xV k_So_new (l, d, b, lo, gz, n0, s0, m_So_new, Po) 230 L [] hp) = (hp.2.1 = n0 + 102 ∧ hp.2.2 = s0 + 1016 ∧ Po (none) hp) := xVe _ _ _ _ _ _
def k_So_put : List xEC := [
  (0, .iload_n 1, 1, 0, 0, 0, m_x),
  (1, .ifCond .lt 13, 4, 0, 14, 0, m_x),
  (4, .iload_n 1, 5, 0, 0, 0, m_x),
  (5, .aload_n 0, 6, 0, 0, 0, m_x),
  (6, .arraylength, 7, 0, 0, 0, m_x),
  (7, .if_icmp .ge 7, 10, 0, 14, 0, m_x),
  (10, .aload_n 0, 11, 0, 0, 0, m_x),
  (11, .iload_n 1, 12, 0, 0, 0, m_x),
  (12, .iload_n 2, 13, 0, 0, 0, m_x),
  (13, .iastore, 14, 0, 0, 0, m_x),
  (14, .return_, 15, 0, 0, 0, m_x)]
theorem dc_So_put : ∀ E ∈ k_So_put, xDc m_So_put E := by decide +kernel
set_option maxRecDepth 20000 in
theorem ok_So_put : ∀ E ∈ k_So_put, xOk m_So_put E := xok_of dc_So_put (xfc trivial (xfc (show ((1 : Nat) : Int) + (13) = ((14 : Nat) : Int) from by decide) (xfc trivial (xfc trivial (xfc trivial (xfc (show ((7 : Nat) : Int) + (7) = ((14 : Nat) : Int) from by decide) (xfc trivial (xfc trivial (xfc trivial (xfc trivial (xfc trivial (xfn))))))))))))
theorem s_So_put_0 (C : xCx) (r : List Value) (hp : xHp) (x : Int32) (a0 a2 : Value) : (xV k_So_put C 0 [a0, .int x, a2] r hp) = (xV k_So_put C 1 [a0, .int x, a2] (.int x :: r) hp) := xVe _ _ _ _ _ _
theorem s_So_put_1 (x : Int32) (C : xCx) (L r : List Value) (hp : xHp) : (xV k_So_put C 1 L (.int x :: r) hp) = (((x < 0 → xV k_So_put C 14 L r hp) ∧ (¬ x < 0 → xV k_So_put C 4 L r hp))) := xVe _ _ _ _ _ _
theorem s_So_put_4 (C : xCx) (r : List Value) (hp : xHp) (x : Int32) (a0 a2 : Value) : (xV k_So_put C 4 [a0, .int x, a2] r hp) = (xV k_So_put C 5 [a0, .int x, a2] (.int x :: r) hp) := xVe _ _ _ _ _ _
theorem s_So_put_5 (C : xCx) (r : List Value) (hp : xHp) (x : Nat) (a1 a2 : Value) : (xV k_So_put C 5 [.ref x, a1, a2] r hp) = (True ∧ xV k_So_put C 6 [.ref x, a1, a2] (.ref x :: r) hp) := xVe _ _ _ _ _ _
theorem s_So_put_6 (a : Nat) (C : xCx) (L r : List Value) (hp : xHp) : (xV k_So_put C 6 L (.ref a :: r) hp) = (xLn hp a (fun n => xV k_So_put C 7 L (.int (Int32.ofNat n) :: r) hp)) := xVe _ _ _ _ _ _
theorem s_So_put_7 (x y : Int32) (C : xCx) (L r : List Value) (hp : xHp) : (xV k_So_put C 7 L (.int y :: .int x :: r) hp) = (((y ≤ x → xV k_So_put C 14 L r hp) ∧ (¬ y ≤ x → xV k_So_put C 10 L r hp))) := xVe _ _ _ _ _ _
theorem s_So_put_10 (C : xCx) (r : List Value) (hp : xHp) (x : Nat) (a1 a2 : Value) : (xV k_So_put C 10 [.ref x, a1, a2] r hp) = (True ∧ xV k_So_put C 11 [.ref x, a1, a2] (.ref x :: r) hp) := xVe _ _ _ _ _ _
theorem s_So_put_11 (C : xCx) (r : List Value) (hp : xHp) (x : Int32) (a0 a2 : Value) : (xV k_So_put C 11 [a0, .int x, a2] r hp) = (xV k_So_put C 12 [a0, .int x, a2] (.int x :: r) hp) := xVe _ _ _ _ _ _
theorem s_So_put_12 (C : xCx) (r : List Value) (hp : xHp) (x : Int32) (a0 a1 : Value) : (xV k_So_put C 12 [a0, a1, .int x] r hp) = (xV k_So_put C 13 [a0, a1, .int x] (.int x :: r) hp) := xVe _ _ _ _ _ _
theorem s_So_put_13 (x i : Int32) (a : Nat) (C : xCx) (L r : List Value) (hp : xHp) : (xV k_So_put C 13 L (.int x :: .int i :: .ref a :: r) hp) = (xAi hp a (fun ty n g => ty = .int ∧ vp_in i n ∧ xV k_So_put C 14 L r (xup hp a (.inl (.int, n, .inl (upd g i.toNatClampNeg x)))))) := xVe _ _ _ _ _ _
theorem s_So_put_14 (l : Launch) (d b lo gz n0 s0 : Nat) (Po : Option Value → xHp → Prop) (L : List Value) (hp : xHp) : (xV k_So_put (l, d, b, lo, gz, n0, s0, m_So_put, Po) 14 L [] hp) = (Po (none) hp) := xVe _ _ _ _ _ _
theorem ml_So_118 : xLk "SunnyOnes" 118 m_Text_addFour := Or.inl (wg2 100 (by decide +kernel) rfl)
theorem ml_So_122 : xLk "SunnyOnes" 122 m_Text_length := Or.inl (wg2 105 (by decide +kernel) rfl)
def k_So_sign : List xEC := [
  (0, .aload_n 0, 1, 0, 0, 0, m_x),
  (1, .getfield 10, 4, 0, 0, 0, m_x),
  (4, .iload_n 1, 5, 0, 0, 0, m_x),
  (5, .invokevirtual 118, 8, 10, 0, 0, m_Text_addFour),
  (8, .ifCond .eq 13, 11, 0, 21, 0, m_x),
  (11, .aload_n 0, 12, 0, 0, 0, m_x),
  (12, .getfield 10, 15, 0, 0, 0, m_x),
  (15, .invokevirtual 122, 18, 10, 0, 0, m_Text_length),
  (18, .goto 4, 21, 0, 22, 0, m_x),
  (21, .iconst (-1), 22, 0, 0, 0, m_x),
  (22, .ireturn, 23, 0, 0, 0, m_x)]
theorem dc_So_sign : ∀ E ∈ k_So_sign, xDc m_So_sign E := by decide +kernel
set_option maxRecDepth 20000 in
theorem ok_So_sign : ∀ E ∈ k_So_sign, xOk m_So_sign E := xok_of dc_So_sign (xfc trivial (xfc fl_So_10 (xfc trivial (xfc ⟨ml_So_118, kd_Text_addFour⟩ (xfc (show ((8 : Nat) : Int) + (13) = ((21 : Nat) : Int) from by decide) (xfc trivial (xfc fl_So_10 (xfc ⟨ml_So_122, kd_Text_length⟩ (xfc (show ((18 : Nat) : Int) + (4) = ((22 : Nat) : Int) from by decide) (xfc trivial (xfc trivial (xfn))))))))))))
theorem s_So_sign_0 (C : xCx) (r : List Value) (hp : xHp) (x : Nat) (a1 : Value) : (xV k_So_sign C 0 [.ref x, a1] r hp) = (True ∧ xV k_So_sign C 1 [.ref x, a1] (.ref x :: r) hp) := xVe _ _ _ _ _ _
theorem s_So_sign_1 (a : Nat) (C : xCx) (L r : List Value) (hp : xHp) : (xV k_So_sign C 1 L (.ref a :: r) hp) = (xF hp a 0 0 (fun v => xV k_So_sign C 4 L (v :: r) hp)) := xVe _ _ _ _ _ _
theorem s_So_sign_4 (C : xCx) (r : List Value) (hp : xHp) (x : Int32) (a0 : Value) : (xV k_So_sign C 4 [a0, .int x] r hp) = (xV k_So_sign C 5 [a0, .int x] (.int x :: r) hp) := xVe _ _ _ _ _ _
theorem s_So_sign_5 (x0 : Int32) (a : Nat) (l : Launch) (d b lo gz n0 s0 : Nat) (Po : Option Value → xHp → Prop) (L r : List Value) (hp : xHp) : (xV k_So_sign (l, d + 1, b, lo, gz, n0, s0, m_So_sign, Po) 5 L (.int x0 :: .ref a :: r) hp) = (xO hp a 10 ∧ xcs r 8 ∧ xMi l d b lo gz m_Text_addFour [.ref a, .int x0] hp (fun x hp' => xV k_So_sign (l, d + 1, b, lo, gz, n0, s0, m_So_sign, Po) 8 L (.int x :: r) hp')) := xVe _ _ _ _ _ _
theorem s_So_sign_8 (x : Int32) (C : xCx) (L r : List Value) (hp : xHp) : (xV k_So_sign C 8 L (.int x :: r) hp) = (((x = 0 → xV k_So_sign C 21 L r hp) ∧ (¬ x = 0 → xV k_So_sign C 11 L r hp))) := xVe _ _ _ _ _ _
theorem s_So_sign_11 (C : xCx) (r : List Value) (hp : xHp) (x : Nat) (a1 : Value) : (xV k_So_sign C 11 [.ref x, a1] r hp) = (True ∧ xV k_So_sign C 12 [.ref x, a1] (.ref x :: r) hp) := xVe _ _ _ _ _ _
theorem s_So_sign_12 (a : Nat) (C : xCx) (L r : List Value) (hp : xHp) : (xV k_So_sign C 12 L (.ref a :: r) hp) = (xF hp a 0 0 (fun v => xV k_So_sign C 15 L (v :: r) hp)) := xVe _ _ _ _ _ _
theorem s_So_sign_15 (a : Nat) (l : Launch) (d b lo gz n0 s0 : Nat) (Po : Option Value → xHp → Prop) (L r : List Value) (hp : xHp) : (xV k_So_sign (l, d + 1, b, lo, gz, n0, s0, m_So_sign, Po) 15 L (.ref a :: r) hp) = (xO hp a 10 ∧ xcs r 8 ∧ xMi l d b lo gz m_Text_length [.ref a] hp (fun x hp' => xV k_So_sign (l, d + 1, b, lo, gz, n0, s0, m_So_sign, Po) 18 L (.int x :: r) hp')) := xVe _ _ _ _ _ _
theorem s_So_sign_18 (C : xCx) (L r : List Value) (hp : xHp) : (xV k_So_sign C 18 L r hp) = (xV k_So_sign C 22 L r hp) := xVe _ _ _ _ _ _
theorem s_So_sign_21  (C : xCx) (L r : List Value) (hp : xHp) : (xV k_So_sign C 21 L (r) hp) = (xV k_So_sign C 22 L (.int (-1) :: r) hp) := xVe _ _ _ _ _ _
theorem s_So_sign_22 (v : Int32) (l : Launch) (d b lo gz n0 s0 : Nat) (Po : Option Value → xHp → Prop) (L : List Value) (hp : xHp) : (xV k_So_sign (l, d, b, lo, gz, n0, s0, m_So_sign, Po) 22 L [.int v] hp) = (Po (some (.int v)) hp) := xVe _ _ _ _ _ _
theorem ml_So_126 : xLk "SunnyOnes" 126 m_Text_cut := Or.inl (wg2 113 (by decide +kernel) rfl)
def k_So_end : List xEC := [
  (0, .aload_n 0, 1, 0, 0, 0, m_x),
  (1, .getfield 10, 4, 0, 0, 0, m_x),
  (4, .iload_n 1, 5, 0, 0, 0, m_x),
  (5, .invokevirtual 126, 8, 10, 0, 0, m_Text_cut),
  (8, .ireturn, 9, 0, 0, 0, m_x)]
theorem dc_So_end : ∀ E ∈ k_So_end, xDc m_So_end E := by decide +kernel
set_option maxRecDepth 20000 in
theorem ok_So_end : ∀ E ∈ k_So_end, xOk m_So_end E := xok_of dc_So_end (xfc trivial (xfc fl_So_10 (xfc trivial (xfc ⟨ml_So_126, kd_Text_cut⟩ (xfc trivial (xfn))))))
theorem s_So_end_0 (C : xCx) (r : List Value) (hp : xHp) (x : Nat) (a1 : Value) : (xV k_So_end C 0 [.ref x, a1] r hp) = (True ∧ xV k_So_end C 1 [.ref x, a1] (.ref x :: r) hp) := xVe _ _ _ _ _ _
theorem s_So_end_1 (a : Nat) (C : xCx) (L r : List Value) (hp : xHp) : (xV k_So_end C 1 L (.ref a :: r) hp) = (xF hp a 0 0 (fun v => xV k_So_end C 4 L (v :: r) hp)) := xVe _ _ _ _ _ _
theorem s_So_end_4 (C : xCx) (r : List Value) (hp : xHp) (x : Int32) (a0 : Value) : (xV k_So_end C 4 [a0, .int x] r hp) = (xV k_So_end C 5 [a0, .int x] (.int x :: r) hp) := xVe _ _ _ _ _ _
theorem s_So_end_5 (x0 : Int32) (a : Nat) (l : Launch) (d b lo gz n0 s0 : Nat) (Po : Option Value → xHp → Prop) (L r : List Value) (hp : xHp) : (xV k_So_end (l, d + 1, b, lo, gz, n0, s0, m_So_end, Po) 5 L (.int x0 :: .ref a :: r) hp) = (xO hp a 10 ∧ xcs r 8 ∧ xMi l d b lo gz m_Text_cut [.ref a, .int x0] hp (fun x hp' => xV k_So_end (l, d + 1, b, lo, gz, n0, s0, m_So_end, Po) 8 L (.int x :: r) hp')) := xVe _ _ _ _ _ _
theorem s_So_end_8 (v : Int32) (l : Launch) (d b lo gz n0 s0 : Nat) (Po : Option Value → xHp → Prop) (L : List Value) (hp : xHp) : (xV k_So_end (l, d, b, lo, gz, n0, s0, m_So_end, Po) 8 L [.int v] hp) = ((v = 0 ∨ v = 1) ∧ Po (some (.int v)) hp) := xVe _ _ _ _ _ _
theorem ml_So_129 : xLk "SunnyOnes" 129 m_Land_size := Or.inl (wg2 121 (by decide +kernel) rfl)
theorem ml_So_132 : xLk "SunnyOnes" 132 m_Text_badLine := Or.inl (wg2 125 (by decide +kernel) rfl)
theorem ml_So_136 : xLk "SunnyOnes" 136 m_Text_lines := Or.inl (wg2 140 (by decide +kernel) rfl)
theorem ml_So_139 : xLk "SunnyOnes" 139 m_Text_digit := Or.inl (wg2 144 (by decide +kernel) rfl)
theorem ml_So_143 : xLk "SunnyOnes" 143 m_Land_add := Or.inl (wg2 145 (by decide +kernel) rfl)
theorem ml_So_146 : xLk "SunnyOnes" 146 m_So_cameWith := Or.inl (wg2 149 (by decide +kernel) rfl)
def k_So_places : List xEC := [
  (0, .aload_n 0, 1, 0, 0, 0, m_x),
  (1, .getfield 10, 4, 0, 0, 0, m_x),
  (4, .iconst 1, 5, 0, 0, 0, m_x),
  (5, .bipush 6, 7, 0, 0, 0, m_x),
  (7, .aload_n 0, 8, 0, 0, 0, m_x),
  (8, .getfield 26, 11, 0, 2, 0, m_x),
  (11, .invokevirtual 129, 14, 4, 0, 0, m_Land_size),
  (14, .bipush 10, 16, 0, 0, 0, m_x),
  (16, .invokevirtual 132, 19, 10, 0, 0, m_Text_badLine),
  (19, .istore_n 1, 20, 0, 0, 0, m_x),
  (20, .iload_n 1, 21, 0, 0, 0, m_x),
  (21, .iconst (-1), 22, 0, 0, 0, m_x),
  (22, .if_icmp .ne 13, 25, 0, 35, 0, m_x),
  (25, .aload_n 0, 26, 0, 0, 0, m_x),
  (26, .getfield 10, 29, 0, 0, 0, m_x),
  (29, .invokevirtual 136, 32, 10, 0, 0, m_Text_lines),
  (32, .goto 4, 35, 0, 36, 0, m_x),
  (35, .iconst 0, 36, 0, 0, 0, m_x),
  (36, .istore_n 2, 37, 0, 0, 0, m_x),
  (37, .iconst 0, 38, 0, 0, 0, m_x),
  (38, .istore_n 3, 39, 0, 0, 0, m_x),
  (39, .iload_n 3, 40, 0, 0, 0, m_x),
  (40, .iload_n 2, 41, 0, 0, 0, m_x),
  (41, .if_icmp .ge 26, 44, 0, 67, 0, m_x),
  (44, .aload_n 0, 45, 0, 0, 0, m_x),
  (45, .getfield 26, 48, 0, 2, 0, m_x),
  (48, .aload_n 0, 49, 0, 0, 0, m_x),
  (49, .getfield 10, 52, 0, 0, 0, m_x),
  (52, .iconst 2, 53, 0, 0, 0, m_x),
  (53, .iload_n 3, 54, 0, 0, 0, m_x),
  (54, .imul, 55, 0, 0, 0, m_x),
  (55, .invokevirtual 139, 58, 10, 0, 0, m_Text_digit),
  (58, .invokevirtual 143, 61, 4, 0, 0, m_Land_add),
  (61, .iinc 3 1, 64, 0, 0, 0, m_x),
  (64, .goto (-25), 67, 0, 39, 0, m_x),
  (67, .aload_n 0, 68, 0, 0, 0, m_x),
  (68, .iload_n 1, 69, 0, 0, 0, m_x),
  (69, .iload_n 2, 70, 0, 0, 0, m_x),
  (70, .invokevirtual 146, 73, 0, 0, 0, m_So_cameWith),
  (73, .ireturn, 74, 0, 0, 0, m_x)]
theorem dc_So_places : ∀ E ∈ k_So_places, xDc m_So_places E := by decide +kernel
set_option maxRecDepth 20000 in
theorem ok_So_places : ∀ E ∈ k_So_places, xOk m_So_places E := xok_of dc_So_places (xfc trivial (xfc fl_So_10 (xfc trivial (xfc trivial (xfc trivial (xfc fl_So_26 (xfc ⟨ml_So_129, kd_Land_size⟩ (xfc trivial (xfc ⟨ml_So_132, kd_Text_badLine⟩ (xfc trivial (xfc trivial (xfc trivial (xfc (show ((22 : Nat) : Int) + (13) = ((35 : Nat) : Int) from by decide) (xfc trivial (xfc fl_So_10 (xfc ⟨ml_So_136, kd_Text_lines⟩ (xfc (show ((32 : Nat) : Int) + (4) = ((36 : Nat) : Int) from by decide) (xfc trivial (xfc trivial (xfc trivial (xfc trivial (xfc trivial (xfc trivial (xfc (show ((41 : Nat) : Int) + (26) = ((67 : Nat) : Int) from by decide) (xfc trivial (xfc fl_So_26 (xfc trivial (xfc fl_So_10 (xfc trivial (xfc trivial (xfc trivial (xfc ⟨ml_So_139, kd_Text_digit⟩ (xfc ⟨ml_So_143, kd_Land_add⟩ (xfc trivial (xfc (show ((64 : Nat) : Int) + (-25) = ((39 : Nat) : Int) from by decide) (xfc trivial (xfc trivial (xfc trivial (xfc ⟨ml_So_146, kd_So_cameWith⟩ (xfc trivial (xfn)))))))))))))))))))))))))))))))))))))))))
theorem s_So_places_0 (C : xCx) (r : List Value) (hp : xHp) (x : Nat) (a1 a2 a3 : Value) : (xV k_So_places C 0 [.ref x, a1, a2, a3] r hp) = (True ∧ xV k_So_places C 1 [.ref x, a1, a2, a3] (.ref x :: r) hp) := xVe _ _ _ _ _ _
theorem s_So_places_1 (a : Nat) (C : xCx) (L r : List Value) (hp : xHp) : (xV k_So_places C 1 L (.ref a :: r) hp) = (xF hp a 0 0 (fun v => xV k_So_places C 4 L (v :: r) hp)) := xVe _ _ _ _ _ _
theorem s_So_places_4  (C : xCx) (L r : List Value) (hp : xHp) : (xV k_So_places C 4 L (r) hp) = (xV k_So_places C 5 L (.int (1) :: r) hp) := xVe _ _ _ _ _ _
theorem s_So_places_5  (C : xCx) (L r : List Value) (hp : xHp) : (xV k_So_places C 5 L (r) hp) = (xV k_So_places C 7 L (.int (6) :: r) hp) := xVe _ _ _ _ _ _
theorem s_So_places_7 (C : xCx) (r : List Value) (hp : xHp) (x : Nat) (a1 a2 a3 : Value) : (xV k_So_places C 7 [.ref x, a1, a2, a3] r hp) = (True ∧ xV k_So_places C 8 [.ref x, a1, a2, a3] (.ref x :: r) hp) := xVe _ _ _ _ _ _
theorem s_So_places_8 (a : Nat) (C : xCx) (L r : List Value) (hp : xHp) : (xV k_So_places C 8 L (.ref a :: r) hp) = (xF hp a 0 2 (fun v => xV k_So_places C 11 L (v :: r) hp)) := xVe _ _ _ _ _ _
theorem s_So_places_11 (a : Nat) (l : Launch) (d b lo gz n0 s0 : Nat) (Po : Option Value → xHp → Prop) (L r : List Value) (hp : xHp) : (xV k_So_places (l, d + 1, b, lo, gz, n0, s0, m_So_places, Po) 11 L (.ref a :: r) hp) = (xO hp a 4 ∧ xcs r 8 ∧ xMi l d b lo gz m_Land_size [.ref a] hp (fun x hp' => xV k_So_places (l, d + 1, b, lo, gz, n0, s0, m_So_places, Po) 14 L (.int x :: r) hp')) := xVe _ _ _ _ _ _
theorem s_So_places_14  (C : xCx) (L r : List Value) (hp : xHp) : (xV k_So_places C 14 L (r) hp) = (xV k_So_places C 16 L (.int (10) :: r) hp) := xVe _ _ _ _ _ _
theorem s_So_places_16 (x0 : Int32) (x1 : Int32) (x2 : Int32) (x3 : Int32) (a : Nat) (l : Launch) (d b lo gz n0 s0 : Nat) (Po : Option Value → xHp → Prop) (L r : List Value) (hp : xHp) : (xV k_So_places (l, d + 1, b, lo, gz, n0, s0, m_So_places, Po) 16 L (.int x3 :: .int x2 :: .int x1 :: .int x0 :: .ref a :: r) hp) = (xO hp a 10 ∧ xcs r 8 ∧ xMi l d b lo gz m_Text_badLine [.ref a, .int x0, .int x1, .int x2, .int x3] hp (fun x hp' => xV k_So_places (l, d + 1, b, lo, gz, n0, s0, m_So_places, Po) 19 L (.int x :: r) hp')) := xVe _ _ _ _ _ _
theorem s_So_places_19 (C : xCx) (r : List Value) (hp : xHp) (x : Int32) (a0 a1 a2 a3 : Value) : (xV k_So_places C 19 [a0, a1, a2, a3] (.int x :: r) hp) = (1 < 4 ∧ xNl [a0, a1, a2, a3] 1 ∧ xV k_So_places C 20 [a0, .int x, a2, a3] r hp) := xVe _ _ _ _ _ _
theorem s_So_places_20 (C : xCx) (r : List Value) (hp : xHp) (x : Int32) (a0 a2 a3 : Value) : (xV k_So_places C 20 [a0, .int x, a2, a3] r hp) = (xV k_So_places C 21 [a0, .int x, a2, a3] (.int x :: r) hp) := xVe _ _ _ _ _ _
theorem s_So_places_21  (C : xCx) (L r : List Value) (hp : xHp) : (xV k_So_places C 21 L (r) hp) = (xV k_So_places C 22 L (.int (-1) :: r) hp) := xVe _ _ _ _ _ _
theorem s_So_places_22 (x y : Int32) (C : xCx) (L r : List Value) (hp : xHp) : (xV k_So_places C 22 L (.int y :: .int x :: r) hp) = (((¬ x = y → xV k_So_places C 35 L r hp) ∧ (x = y → xV k_So_places C 25 L r hp))) := xVe _ _ _ _ _ _
theorem s_So_places_25 (C : xCx) (r : List Value) (hp : xHp) (x : Nat) (a1 a2 a3 : Value) : (xV k_So_places C 25 [.ref x, a1, a2, a3] r hp) = (True ∧ xV k_So_places C 26 [.ref x, a1, a2, a3] (.ref x :: r) hp) := xVe _ _ _ _ _ _
theorem s_So_places_26 (a : Nat) (C : xCx) (L r : List Value) (hp : xHp) : (xV k_So_places C 26 L (.ref a :: r) hp) = (xF hp a 0 0 (fun v => xV k_So_places C 29 L (v :: r) hp)) := xVe _ _ _ _ _ _
theorem s_So_places_29 (a : Nat) (l : Launch) (d b lo gz n0 s0 : Nat) (Po : Option Value → xHp → Prop) (L r : List Value) (hp : xHp) : (xV k_So_places (l, d + 1, b, lo, gz, n0, s0, m_So_places, Po) 29 L (.ref a :: r) hp) = (xO hp a 10 ∧ xcs r 8 ∧ xMi l d b lo gz m_Text_lines [.ref a] hp (fun x hp' => xV k_So_places (l, d + 1, b, lo, gz, n0, s0, m_So_places, Po) 32 L (.int x :: r) hp')) := xVe _ _ _ _ _ _
theorem s_So_places_32 (C : xCx) (L r : List Value) (hp : xHp) : (xV k_So_places C 32 L r hp) = (xV k_So_places C 36 L r hp) := xVe _ _ _ _ _ _
theorem s_So_places_35  (C : xCx) (L r : List Value) (hp : xHp) : (xV k_So_places C 35 L (r) hp) = (xV k_So_places C 36 L (.int (0) :: r) hp) := xVe _ _ _ _ _ _
theorem s_So_places_36 (C : xCx) (r : List Value) (hp : xHp) (x : Int32) (a0 a1 a2 a3 : Value) : (xV k_So_places C 36 [a0, a1, a2, a3] (.int x :: r) hp) = (2 < 4 ∧ xNl [a0, a1, a2, a3] 2 ∧ xV k_So_places C 37 [a0, a1, .int x, a3] r hp) := xVe _ _ _ _ _ _
theorem s_So_places_37  (C : xCx) (L r : List Value) (hp : xHp) : (xV k_So_places C 37 L (r) hp) = (xV k_So_places C 38 L (.int (0) :: r) hp) := xVe _ _ _ _ _ _
theorem s_So_places_38 (C : xCx) (r : List Value) (hp : xHp) (x : Int32) (a0 a1 a2 a3 : Value) : (xV k_So_places C 38 [a0, a1, a2, a3] (.int x :: r) hp) = (3 < 4 ∧ xNl [a0, a1, a2, a3] 3 ∧ xV k_So_places C 39 [a0, a1, a2, .int x] r hp) := xVe _ _ _ _ _ _
theorem s_So_places_39 (C : xCx) (r : List Value) (hp : xHp) (x : Int32) (a0 a1 a2 : Value) : (xV k_So_places C 39 [a0, a1, a2, .int x] r hp) = (xV k_So_places C 40 [a0, a1, a2, .int x] (.int x :: r) hp) := xVe _ _ _ _ _ _
theorem s_So_places_40 (C : xCx) (r : List Value) (hp : xHp) (x : Int32) (a0 a1 a3 : Value) : (xV k_So_places C 40 [a0, a1, .int x, a3] r hp) = (xV k_So_places C 41 [a0, a1, .int x, a3] (.int x :: r) hp) := xVe _ _ _ _ _ _
theorem s_So_places_41 (x y : Int32) (C : xCx) (L r : List Value) (hp : xHp) : (xV k_So_places C 41 L (.int y :: .int x :: r) hp) = (((y ≤ x → xV k_So_places C 67 L r hp) ∧ (¬ y ≤ x → xV k_So_places C 44 L r hp))) := xVe _ _ _ _ _ _
theorem s_So_places_44 (C : xCx) (r : List Value) (hp : xHp) (x : Nat) (a1 a2 a3 : Value) : (xV k_So_places C 44 [.ref x, a1, a2, a3] r hp) = (True ∧ xV k_So_places C 45 [.ref x, a1, a2, a3] (.ref x :: r) hp) := xVe _ _ _ _ _ _
theorem s_So_places_45 (a : Nat) (C : xCx) (L r : List Value) (hp : xHp) : (xV k_So_places C 45 L (.ref a :: r) hp) = (xF hp a 0 2 (fun v => xV k_So_places C 48 L (v :: r) hp)) := xVe _ _ _ _ _ _
theorem s_So_places_48 (C : xCx) (r : List Value) (hp : xHp) (x : Nat) (a1 a2 a3 : Value) : (xV k_So_places C 48 [.ref x, a1, a2, a3] r hp) = (True ∧ xV k_So_places C 49 [.ref x, a1, a2, a3] (.ref x :: r) hp) := xVe _ _ _ _ _ _
theorem s_So_places_49 (a : Nat) (C : xCx) (L r : List Value) (hp : xHp) : (xV k_So_places C 49 L (.ref a :: r) hp) = (xF hp a 0 0 (fun v => xV k_So_places C 52 L (v :: r) hp)) := xVe _ _ _ _ _ _
theorem s_So_places_52  (C : xCx) (L r : List Value) (hp : xHp) : (xV k_So_places C 52 L (r) hp) = (xV k_So_places C 53 L (.int (2) :: r) hp) := xVe _ _ _ _ _ _
theorem s_So_places_53 (C : xCx) (r : List Value) (hp : xHp) (x : Int32) (a0 a1 a2 : Value) : (xV k_So_places C 53 [a0, a1, a2, .int x] r hp) = (xV k_So_places C 54 [a0, a1, a2, .int x] (.int x :: r) hp) := xVe _ _ _ _ _ _
theorem s_So_places_54 (x y : Int32) (C : xCx) (L r : List Value) (hp : xHp) : (xV k_So_places C 54 L (.int y :: .int x :: r) hp) = (xV k_So_places C 55 L (.int (x * y) :: r) hp) := xVe _ _ _ _ _ _
theorem s_So_places_55 (x0 : Int32) (a : Nat) (l : Launch) (d b lo gz n0 s0 : Nat) (Po : Option Value → xHp → Prop) (L r : List Value) (hp : xHp) : (xV k_So_places (l, d + 1, b, lo, gz, n0, s0, m_So_places, Po) 55 L (.int x0 :: .ref a :: r) hp) = (xO hp a 10 ∧ xcs r 8 ∧ xMi l d b lo gz m_Text_digit [.ref a, .int x0] hp (fun x hp' => xV k_So_places (l, d + 1, b, lo, gz, n0, s0, m_So_places, Po) 58 L (.int x :: r) hp')) := xVe _ _ _ _ _ _
theorem s_So_places_58 (x0 : Int32) (a : Nat) (l : Launch) (d b lo gz n0 s0 : Nat) (Po : Option Value → xHp → Prop) (L r : List Value) (hp : xHp) : (xV k_So_places (l, d + 1, b, lo, gz, n0, s0, m_So_places, Po) 58 L (.int x0 :: .ref a :: r) hp) = (xO hp a 4 ∧ xcs r 8 ∧ xMv l d b lo gz m_Land_add [.ref a, .int x0] hp (fun hp' => xV k_So_places (l, d + 1, b, lo, gz, n0, s0, m_So_places, Po) 61 L r hp')) := xVe _ _ _ _ _ _
theorem s_So_places_61 (C : xCx) (r : List Value) (hp : xHp) (x : Int32) (a0 a1 a2 : Value) : (xV k_So_places C 61 [a0, a1, a2, .int x] r hp) = (xNl [a0, a1, a2, .int x] 3 ∧ xV k_So_places C 64 [a0, a1, a2, .int (x + (1))] r hp) := xVe _ _ _ _ _ _
theorem s_So_places_64 (C : xCx) (L r : List Value) (hp : xHp) : (xV k_So_places C 64 L r hp) = (xV k_So_places C 39 L r hp) := xVe _ _ _ _ _ _
theorem s_So_places_67 (C : xCx) (r : List Value) (hp : xHp) (x : Nat) (a1 a2 a3 : Value) : (xV k_So_places C 67 [.ref x, a1, a2, a3] r hp) = (True ∧ xV k_So_places C 68 [.ref x, a1, a2, a3] (.ref x :: r) hp) := xVe _ _ _ _ _ _
theorem s_So_places_68 (C : xCx) (r : List Value) (hp : xHp) (x : Int32) (a0 a2 a3 : Value) : (xV k_So_places C 68 [a0, .int x, a2, a3] r hp) = (xV k_So_places C 69 [a0, .int x, a2, a3] (.int x :: r) hp) := xVe _ _ _ _ _ _
theorem s_So_places_69 (C : xCx) (r : List Value) (hp : xHp) (x : Int32) (a0 a1 a3 : Value) : (xV k_So_places C 69 [a0, a1, .int x, a3] r hp) = (xV k_So_places C 70 [a0, a1, .int x, a3] (.int x :: r) hp) := xVe _ _ _ _ _ _
theorem s_So_places_70 (x0 : Int32) (x1 : Int32) (a : Nat) (l : Launch) (d b lo gz n0 s0 : Nat) (Po : Option Value → xHp → Prop) (L r : List Value) (hp : xHp) : (xV k_So_places (l, d + 1, b, lo, gz, n0, s0, m_So_places, Po) 70 L (.int x1 :: .int x0 :: .ref a :: r) hp) = (xO hp a 0 ∧ xcs r 8 ∧ xMi l d b lo gz m_So_cameWith [.ref a, .int x0, .int x1] hp (fun x hp' => xV k_So_places (l, d + 1, b, lo, gz, n0, s0, m_So_places, Po) 73 L (.int x :: r) hp')) := xVe _ _ _ _ _ _
theorem s_So_places_73 (v : Int32) (l : Launch) (d b lo gz n0 s0 : Nat) (Po : Option Value → xHp → Prop) (L : List Value) (hp : xHp) : (xV k_So_places (l, d, b, lo, gz, n0, s0, m_So_places, Po) 73 L [.int v] hp) = (Po (some (.int v)) hp) := xVe _ _ _ _ _ _
theorem ml_So_157 : xLk "SunnyOnes" 157 m_Text_clear := Or.inl (wg2 153 (by decide +kernel) rfl)
theorem ml_So_160 : xLk "SunnyOnes" 160 m_Past_forgetActs := Or.inl (wg2 157 (by decide +kernel) rfl)
theorem ml_So_163 : xLk "SunnyOnes" 163 m_Past_forgetShelves := Or.inl (wg2 161 (by decide +kernel) rfl)
def k_So_cameWith : List xEC := [
  (0, .aload_n 0, 1, 0, 0, 0, m_x),
  (1, .getfield 10, 4, 0, 0, 0, m_x),
  (4, .invokevirtual 157, 7, 10, 0, 0, m_Text_clear),
  (7, .iload_n 1, 8, 0, 0, 0, m_x),
  (8, .iconst (-1), 9, 0, 0, 0, m_x),
  (9, .if_icmp .eq 7, 12, 0, 16, 0, m_x),
  (12, .iconst (-1), 13, 0, 0, 0, m_x),
  (13, .iload_n 1, 14, 0, 0, 0, m_x),
  (14, .isub, 15, 0, 0, 0, m_x),
  (15, .ireturn, 16, 0, 0, 0, m_x),
  (16, .iload_n 2, 17, 0, 0, 0, m_x),
  (17, .ifCond .le 17, 20, 0, 34, 0, m_x),
  (20, .aload_n 0, 21, 0, 0, 0, m_x),
  (21, .getfield 67, 24, 0, 9, 0, m_x),
  (24, .invokevirtual 160, 27, 5, 0, 0, m_Past_forgetActs),
  (27, .aload_n 0, 28, 0, 0, 0, m_x),
  (28, .getfield 67, 31, 0, 9, 0, m_x),
  (31, .invokevirtual 163, 34, 5, 0, 0, m_Past_forgetShelves),
  (34, .iload_n 2, 35, 0, 0, 0, m_x),
  (35, .ireturn, 36, 0, 0, 0, m_x)]
theorem dc_So_cameWith : ∀ E ∈ k_So_cameWith, xDc m_So_cameWith E := by decide +kernel
set_option maxRecDepth 20000 in
theorem ok_So_cameWith : ∀ E ∈ k_So_cameWith, xOk m_So_cameWith E := xok_of dc_So_cameWith (xfc trivial (xfc fl_So_10 (xfc ⟨ml_So_157, kd_Text_clear⟩ (xfc trivial (xfc trivial (xfc (show ((9 : Nat) : Int) + (7) = ((16 : Nat) : Int) from by decide) (xfc trivial (xfc trivial (xfc trivial (xfc trivial (xfc trivial (xfc (show ((17 : Nat) : Int) + (17) = ((34 : Nat) : Int) from by decide) (xfc trivial (xfc fl_So_67 (xfc ⟨ml_So_160, kd_Past_forgetActs⟩ (xfc trivial (xfc fl_So_67 (xfc ⟨ml_So_163, kd_Past_forgetShelves⟩ (xfc trivial (xfc trivial (xfn)))))))))))))))))))))
theorem s_So_cameWith_0 (C : xCx) (r : List Value) (hp : xHp) (x : Nat) (a1 a2 : Value) : (xV k_So_cameWith C 0 [.ref x, a1, a2] r hp) = (True ∧ xV k_So_cameWith C 1 [.ref x, a1, a2] (.ref x :: r) hp) := xVe _ _ _ _ _ _
theorem s_So_cameWith_1 (a : Nat) (C : xCx) (L r : List Value) (hp : xHp) : (xV k_So_cameWith C 1 L (.ref a :: r) hp) = (xF hp a 0 0 (fun v => xV k_So_cameWith C 4 L (v :: r) hp)) := xVe _ _ _ _ _ _
theorem s_So_cameWith_4 (a : Nat) (l : Launch) (d b lo gz n0 s0 : Nat) (Po : Option Value → xHp → Prop) (L r : List Value) (hp : xHp) : (xV k_So_cameWith (l, d + 1, b, lo, gz, n0, s0, m_So_cameWith, Po) 4 L (.ref a :: r) hp) = (xO hp a 10 ∧ xcs r 8 ∧ xMv l d b lo gz m_Text_clear [.ref a] hp (fun hp' => xV k_So_cameWith (l, d + 1, b, lo, gz, n0, s0, m_So_cameWith, Po) 7 L r hp')) := xVe _ _ _ _ _ _
theorem s_So_cameWith_7 (C : xCx) (r : List Value) (hp : xHp) (x : Int32) (a0 a2 : Value) : (xV k_So_cameWith C 7 [a0, .int x, a2] r hp) = (xV k_So_cameWith C 8 [a0, .int x, a2] (.int x :: r) hp) := xVe _ _ _ _ _ _
theorem s_So_cameWith_8  (C : xCx) (L r : List Value) (hp : xHp) : (xV k_So_cameWith C 8 L (r) hp) = (xV k_So_cameWith C 9 L (.int (-1) :: r) hp) := xVe _ _ _ _ _ _
theorem s_So_cameWith_9 (x y : Int32) (C : xCx) (L r : List Value) (hp : xHp) : (xV k_So_cameWith C 9 L (.int y :: .int x :: r) hp) = (((x = y → xV k_So_cameWith C 16 L r hp) ∧ (¬ x = y → xV k_So_cameWith C 12 L r hp))) := xVe _ _ _ _ _ _
theorem s_So_cameWith_12  (C : xCx) (L r : List Value) (hp : xHp) : (xV k_So_cameWith C 12 L (r) hp) = (xV k_So_cameWith C 13 L (.int (-1) :: r) hp) := xVe _ _ _ _ _ _
theorem s_So_cameWith_13 (C : xCx) (r : List Value) (hp : xHp) (x : Int32) (a0 a2 : Value) : (xV k_So_cameWith C 13 [a0, .int x, a2] r hp) = (xV k_So_cameWith C 14 [a0, .int x, a2] (.int x :: r) hp) := xVe _ _ _ _ _ _
theorem s_So_cameWith_14 (x y : Int32) (C : xCx) (L r : List Value) (hp : xHp) : (xV k_So_cameWith C 14 L (.int y :: .int x :: r) hp) = (xV k_So_cameWith C 15 L (.int (x - y) :: r) hp) := xVe _ _ _ _ _ _
theorem s_So_cameWith_15 (v : Int32) (l : Launch) (d b lo gz n0 s0 : Nat) (Po : Option Value → xHp → Prop) (L : List Value) (hp : xHp) : (xV k_So_cameWith (l, d, b, lo, gz, n0, s0, m_So_cameWith, Po) 15 L [.int v] hp) = (Po (some (.int v)) hp) := xVe _ _ _ _ _ _
theorem s_So_cameWith_16 (C : xCx) (r : List Value) (hp : xHp) (x : Int32) (a0 a1 : Value) : (xV k_So_cameWith C 16 [a0, a1, .int x] r hp) = (xV k_So_cameWith C 17 [a0, a1, .int x] (.int x :: r) hp) := xVe _ _ _ _ _ _
theorem s_So_cameWith_17 (x : Int32) (C : xCx) (L r : List Value) (hp : xHp) : (xV k_So_cameWith C 17 L (.int x :: r) hp) = (((x ≤ 0 → xV k_So_cameWith C 34 L r hp) ∧ (¬ x ≤ 0 → xV k_So_cameWith C 20 L r hp))) := xVe _ _ _ _ _ _
theorem s_So_cameWith_20 (C : xCx) (r : List Value) (hp : xHp) (x : Nat) (a1 a2 : Value) : (xV k_So_cameWith C 20 [.ref x, a1, a2] r hp) = (True ∧ xV k_So_cameWith C 21 [.ref x, a1, a2] (.ref x :: r) hp) := xVe _ _ _ _ _ _
theorem s_So_cameWith_21 (a : Nat) (C : xCx) (L r : List Value) (hp : xHp) : (xV k_So_cameWith C 21 L (.ref a :: r) hp) = (xF hp a 0 9 (fun v => xV k_So_cameWith C 24 L (v :: r) hp)) := xVe _ _ _ _ _ _
theorem s_So_cameWith_24 (a : Nat) (l : Launch) (d b lo gz n0 s0 : Nat) (Po : Option Value → xHp → Prop) (L r : List Value) (hp : xHp) : (xV k_So_cameWith (l, d + 1, b, lo, gz, n0, s0, m_So_cameWith, Po) 24 L (.ref a :: r) hp) = (xO hp a 5 ∧ xcs r 8 ∧ xMv l d b lo gz m_Past_forgetActs [.ref a] hp (fun hp' => xV k_So_cameWith (l, d + 1, b, lo, gz, n0, s0, m_So_cameWith, Po) 27 L r hp')) := xVe _ _ _ _ _ _
theorem s_So_cameWith_27 (C : xCx) (r : List Value) (hp : xHp) (x : Nat) (a1 a2 : Value) : (xV k_So_cameWith C 27 [.ref x, a1, a2] r hp) = (True ∧ xV k_So_cameWith C 28 [.ref x, a1, a2] (.ref x :: r) hp) := xVe _ _ _ _ _ _
theorem s_So_cameWith_28 (a : Nat) (C : xCx) (L r : List Value) (hp : xHp) : (xV k_So_cameWith C 28 L (.ref a :: r) hp) = (xF hp a 0 9 (fun v => xV k_So_cameWith C 31 L (v :: r) hp)) := xVe _ _ _ _ _ _
theorem s_So_cameWith_31 (a : Nat) (l : Launch) (d b lo gz n0 s0 : Nat) (Po : Option Value → xHp → Prop) (L r : List Value) (hp : xHp) : (xV k_So_cameWith (l, d + 1, b, lo, gz, n0, s0, m_So_cameWith, Po) 31 L (.ref a :: r) hp) = (xO hp a 5 ∧ xcs r 8 ∧ xMv l d b lo gz m_Past_forgetShelves [.ref a] hp (fun hp' => xV k_So_cameWith (l, d + 1, b, lo, gz, n0, s0, m_So_cameWith, Po) 34 L r hp')) := xVe _ _ _ _ _ _
theorem s_So_cameWith_34 (C : xCx) (r : List Value) (hp : xHp) (x : Int32) (a0 a1 : Value) : (xV k_So_cameWith C 34 [a0, a1, .int x] r hp) = (xV k_So_cameWith C 35 [a0, a1, .int x] (.int x :: r) hp) := xVe _ _ _ _ _ _
theorem s_So_cameWith_35 (v : Int32) (l : Launch) (d b lo gz n0 s0 : Nat) (Po : Option Value → xHp → Prop) (L : List Value) (hp : xHp) : (xV k_So_cameWith (l, d, b, lo, gz, n0, s0, m_So_cameWith, Po) 35 L [.int v] hp) = (Po (some (.int v)) hp) := xVe _ _ _ _ _ _
theorem ml_So_150 : xLk "SunnyOnes" 150 m_Folk_size := Or.inl (wg2 169 (by decide +kernel) rfl)
theorem ml_So_151 : xLk "SunnyOnes" 151 m_Text_number := Or.inl (wg2 173 (by decide +kernel) rfl)
theorem ml_So_154 : xLk "SunnyOnes" 154 m_Folk_add := Or.inl (wg2 177 (by decide +kernel) rfl)
def k_So_people : List xEC := [
  (0, .aload_n 0, 1, 0, 0, 0, m_x),
  (1, .getfield 10, 4, 0, 0, 0, m_x),
  (4, .iconst 3, 5, 0, 0, 0, m_x),
  (5, .bipush 7, 7, 0, 0, 0, m_x),
  (7, .aload_n 0, 8, 0, 0, 0, m_x),
  (8, .getfield 54, 11, 0, 6, 0, m_x),
  (11, .invokevirtual 150, 14, 3, 0, 0, m_Folk_size),
  (14, .aload_n 0, 15, 0, 0, 0, m_x),
  (15, .getfield 26, 18, 0, 2, 0, m_x),
  (18, .invokevirtual 129, 21, 4, 0, 0, m_Land_size),
  (21, .invokevirtual 132, 24, 10, 0, 0, m_Text_badLine),
  (24, .istore_n 1, 25, 0, 0, 0, m_x),
  (25, .iload_n 1, 26, 0, 0, 0, m_x),
  (26, .iconst (-1), 27, 0, 0, 0, m_x),
  (27, .if_icmp .ne 13, 30, 0, 40, 0, m_x),
  (30, .aload_n 0, 31, 0, 0, 0, m_x),
  (31, .getfield 10, 34, 0, 0, 0, m_x),
  (34, .invokevirtual 136, 37, 10, 0, 0, m_Text_lines),
  (37, .goto 4, 40, 0, 41, 0, m_x),
  (40, .iconst 0, 41, 0, 0, 0, m_x),
  (41, .istore_n 2, 42, 0, 0, 0, m_x),
  (42, .iconst 0, 43, 0, 0, 0, m_x),
  (43, .istore_n 3, 44, 0, 0, 0, m_x),
  (44, .iload_n 3, 45, 0, 0, 0, m_x),
  (45, .iload_n 2, 46, 0, 0, 0, m_x),
  (46, .if_icmp .ge 39, 49, 0, 85, 0, m_x),
  (49, .aload_n 0, 50, 0, 0, 0, m_x),
  (50, .getfield 54, 53, 0, 6, 0, m_x),
  (53, .aload_n 0, 54, 0, 0, 0, m_x),
  (54, .getfield 10, 57, 0, 0, 0, m_x),
  (57, .iconst 4, 58, 0, 0, 0, m_x),
  (58, .iload_n 3, 59, 0, 0, 0, m_x),
  (59, .imul, 60, 0, 0, 0, m_x),
  (60, .iconst 2, 61, 0, 0, 0, m_x),
  (61, .invokevirtual 151, 64, 10, 0, 0, m_Text_number),
  (64, .aload_n 0, 65, 0, 0, 0, m_x),
  (65, .getfield 10, 68, 0, 0, 0, m_x),
  (68, .iconst 4, 69, 0, 0, 0, m_x),
  (69, .iload_n 3, 70, 0, 0, 0, m_x),
  (70, .imul, 71, 0, 0, 0, m_x),
  (71, .iconst 2, 72, 0, 0, 0, m_x),
  (72, .iadd, 73, 0, 0, 0, m_x),
  (73, .invokevirtual 139, 76, 10, 0, 0, m_Text_digit),
  (76, .invokevirtual 154, 79, 3, 0, 0, m_Folk_add),
  (79, .iinc 3 1, 82, 0, 0, 0, m_x),
  (82, .goto (-38), 85, 0, 44, 0, m_x),
  (85, .aload_n 0, 86, 0, 0, 0, m_x),
  (86, .iload_n 1, 87, 0, 0, 0, m_x),
  (87, .iload_n 2, 88, 0, 0, 0, m_x),
  (88, .invokevirtual 146, 91, 0, 0, 0, m_So_cameWith),
  (91, .ireturn, 92, 0, 0, 0, m_x)]
theorem dc_So_people : ∀ E ∈ k_So_people, xDc m_So_people E := by decide +kernel
set_option maxRecDepth 20000 in
theorem ok_So_people : ∀ E ∈ k_So_people, xOk m_So_people E := xok_of dc_So_people (xfc trivial (xfc fl_So_10 (xfc trivial (xfc trivial (xfc trivial (xfc fl_So_54 (xfc ⟨ml_So_150, kd_Folk_size⟩ (xfc trivial (xfc fl_So_26 (xfc ⟨ml_So_129, kd_Land_size⟩ (xfc ⟨ml_So_132, kd_Text_badLine⟩ (xfc trivial (xfc trivial (xfc trivial (xfc (show ((27 : Nat) : Int) + (13) = ((40 : Nat) : Int) from by decide) (xfc trivial (xfc fl_So_10 (xfc ⟨ml_So_136, kd_Text_lines⟩ (xfc (show ((37 : Nat) : Int) + (4) = ((41 : Nat) : Int) from by decide) (xfc trivial (xfc trivial (xfc trivial (xfc trivial (xfc trivial (xfc trivial (xfc (show ((46 : Nat) : Int) + (39) = ((85 : Nat) : Int) from by decide) (xfc trivial (xfc fl_So_54 (xfc trivial (xfc fl_So_10 (xfc trivial (xfc trivial (xfc trivial (xfc trivial (xfc ⟨ml_So_151, kd_Text_number⟩ (xfc trivial (xfc fl_So_10 (xfc trivial (xfc trivial (xfc trivial (xfc trivial (xfc trivial (xfc ⟨ml_So_139, kd_Text_digit⟩ (xfc ⟨ml_So_154, kd_Folk_add⟩ (xfc trivial (xfc (show ((82 : Nat) : Int) + (-38) = ((44 : Nat) : Int) from by decide) (xfc trivial (xfc trivial (xfc trivial (xfc ⟨ml_So_146, kd_So_cameWith⟩ (xfc trivial (xfn))))))))))))))))))))))))))))))))))))))))))))))))))))
theorem s_So_people_0 (C : xCx) (r : List Value) (hp : xHp) (x : Nat) (a1 a2 a3 : Value) : (xV k_So_people C 0 [.ref x, a1, a2, a3] r hp) = (True ∧ xV k_So_people C 1 [.ref x, a1, a2, a3] (.ref x :: r) hp) := xVe _ _ _ _ _ _
theorem s_So_people_1 (a : Nat) (C : xCx) (L r : List Value) (hp : xHp) : (xV k_So_people C 1 L (.ref a :: r) hp) = (xF hp a 0 0 (fun v => xV k_So_people C 4 L (v :: r) hp)) := xVe _ _ _ _ _ _
theorem s_So_people_4  (C : xCx) (L r : List Value) (hp : xHp) : (xV k_So_people C 4 L (r) hp) = (xV k_So_people C 5 L (.int (3) :: r) hp) := xVe _ _ _ _ _ _
theorem s_So_people_5  (C : xCx) (L r : List Value) (hp : xHp) : (xV k_So_people C 5 L (r) hp) = (xV k_So_people C 7 L (.int (7) :: r) hp) := xVe _ _ _ _ _ _
theorem s_So_people_7 (C : xCx) (r : List Value) (hp : xHp) (x : Nat) (a1 a2 a3 : Value) : (xV k_So_people C 7 [.ref x, a1, a2, a3] r hp) = (True ∧ xV k_So_people C 8 [.ref x, a1, a2, a3] (.ref x :: r) hp) := xVe _ _ _ _ _ _
theorem s_So_people_8 (a : Nat) (C : xCx) (L r : List Value) (hp : xHp) : (xV k_So_people C 8 L (.ref a :: r) hp) = (xF hp a 0 6 (fun v => xV k_So_people C 11 L (v :: r) hp)) := xVe _ _ _ _ _ _
theorem s_So_people_11 (a : Nat) (l : Launch) (d b lo gz n0 s0 : Nat) (Po : Option Value → xHp → Prop) (L r : List Value) (hp : xHp) : (xV k_So_people (l, d + 1, b, lo, gz, n0, s0, m_So_people, Po) 11 L (.ref a :: r) hp) = (xO hp a 3 ∧ xcs r 8 ∧ xMi l d b lo gz m_Folk_size [.ref a] hp (fun x hp' => xV k_So_people (l, d + 1, b, lo, gz, n0, s0, m_So_people, Po) 14 L (.int x :: r) hp')) := xVe _ _ _ _ _ _
theorem s_So_people_14 (C : xCx) (r : List Value) (hp : xHp) (x : Nat) (a1 a2 a3 : Value) : (xV k_So_people C 14 [.ref x, a1, a2, a3] r hp) = (True ∧ xV k_So_people C 15 [.ref x, a1, a2, a3] (.ref x :: r) hp) := xVe _ _ _ _ _ _
theorem s_So_people_15 (a : Nat) (C : xCx) (L r : List Value) (hp : xHp) : (xV k_So_people C 15 L (.ref a :: r) hp) = (xF hp a 0 2 (fun v => xV k_So_people C 18 L (v :: r) hp)) := xVe _ _ _ _ _ _
theorem s_So_people_18 (a : Nat) (l : Launch) (d b lo gz n0 s0 : Nat) (Po : Option Value → xHp → Prop) (L r : List Value) (hp : xHp) : (xV k_So_people (l, d + 1, b, lo, gz, n0, s0, m_So_people, Po) 18 L (.ref a :: r) hp) = (xO hp a 4 ∧ xcs r 8 ∧ xMi l d b lo gz m_Land_size [.ref a] hp (fun x hp' => xV k_So_people (l, d + 1, b, lo, gz, n0, s0, m_So_people, Po) 21 L (.int x :: r) hp')) := xVe _ _ _ _ _ _
theorem s_So_people_21 (x0 : Int32) (x1 : Int32) (x2 : Int32) (x3 : Int32) (a : Nat) (l : Launch) (d b lo gz n0 s0 : Nat) (Po : Option Value → xHp → Prop) (L r : List Value) (hp : xHp) : (xV k_So_people (l, d + 1, b, lo, gz, n0, s0, m_So_people, Po) 21 L (.int x3 :: .int x2 :: .int x1 :: .int x0 :: .ref a :: r) hp) = (xO hp a 10 ∧ xcs r 8 ∧ xMi l d b lo gz m_Text_badLine [.ref a, .int x0, .int x1, .int x2, .int x3] hp (fun x hp' => xV k_So_people (l, d + 1, b, lo, gz, n0, s0, m_So_people, Po) 24 L (.int x :: r) hp')) := xVe _ _ _ _ _ _
theorem s_So_people_24 (C : xCx) (r : List Value) (hp : xHp) (x : Int32) (a0 a1 a2 a3 : Value) : (xV k_So_people C 24 [a0, a1, a2, a3] (.int x :: r) hp) = (1 < 4 ∧ xNl [a0, a1, a2, a3] 1 ∧ xV k_So_people C 25 [a0, .int x, a2, a3] r hp) := xVe _ _ _ _ _ _
theorem s_So_people_25 (C : xCx) (r : List Value) (hp : xHp) (x : Int32) (a0 a2 a3 : Value) : (xV k_So_people C 25 [a0, .int x, a2, a3] r hp) = (xV k_So_people C 26 [a0, .int x, a2, a3] (.int x :: r) hp) := xVe _ _ _ _ _ _
theorem s_So_people_26  (C : xCx) (L r : List Value) (hp : xHp) : (xV k_So_people C 26 L (r) hp) = (xV k_So_people C 27 L (.int (-1) :: r) hp) := xVe _ _ _ _ _ _
theorem s_So_people_27 (x y : Int32) (C : xCx) (L r : List Value) (hp : xHp) : (xV k_So_people C 27 L (.int y :: .int x :: r) hp) = (((¬ x = y → xV k_So_people C 40 L r hp) ∧ (x = y → xV k_So_people C 30 L r hp))) := xVe _ _ _ _ _ _
theorem s_So_people_30 (C : xCx) (r : List Value) (hp : xHp) (x : Nat) (a1 a2 a3 : Value) : (xV k_So_people C 30 [.ref x, a1, a2, a3] r hp) = (True ∧ xV k_So_people C 31 [.ref x, a1, a2, a3] (.ref x :: r) hp) := xVe _ _ _ _ _ _
theorem s_So_people_31 (a : Nat) (C : xCx) (L r : List Value) (hp : xHp) : (xV k_So_people C 31 L (.ref a :: r) hp) = (xF hp a 0 0 (fun v => xV k_So_people C 34 L (v :: r) hp)) := xVe _ _ _ _ _ _
theorem s_So_people_34 (a : Nat) (l : Launch) (d b lo gz n0 s0 : Nat) (Po : Option Value → xHp → Prop) (L r : List Value) (hp : xHp) : (xV k_So_people (l, d + 1, b, lo, gz, n0, s0, m_So_people, Po) 34 L (.ref a :: r) hp) = (xO hp a 10 ∧ xcs r 8 ∧ xMi l d b lo gz m_Text_lines [.ref a] hp (fun x hp' => xV k_So_people (l, d + 1, b, lo, gz, n0, s0, m_So_people, Po) 37 L (.int x :: r) hp')) := xVe _ _ _ _ _ _
theorem s_So_people_37 (C : xCx) (L r : List Value) (hp : xHp) : (xV k_So_people C 37 L r hp) = (xV k_So_people C 41 L r hp) := xVe _ _ _ _ _ _
theorem s_So_people_40  (C : xCx) (L r : List Value) (hp : xHp) : (xV k_So_people C 40 L (r) hp) = (xV k_So_people C 41 L (.int (0) :: r) hp) := xVe _ _ _ _ _ _
theorem s_So_people_41 (C : xCx) (r : List Value) (hp : xHp) (x : Int32) (a0 a1 a2 a3 : Value) : (xV k_So_people C 41 [a0, a1, a2, a3] (.int x :: r) hp) = (2 < 4 ∧ xNl [a0, a1, a2, a3] 2 ∧ xV k_So_people C 42 [a0, a1, .int x, a3] r hp) := xVe _ _ _ _ _ _
theorem s_So_people_42  (C : xCx) (L r : List Value) (hp : xHp) : (xV k_So_people C 42 L (r) hp) = (xV k_So_people C 43 L (.int (0) :: r) hp) := xVe _ _ _ _ _ _
theorem s_So_people_43 (C : xCx) (r : List Value) (hp : xHp) (x : Int32) (a0 a1 a2 a3 : Value) : (xV k_So_people C 43 [a0, a1, a2, a3] (.int x :: r) hp) = (3 < 4 ∧ xNl [a0, a1, a2, a3] 3 ∧ xV k_So_people C 44 [a0, a1, a2, .int x] r hp) := xVe _ _ _ _ _ _
theorem s_So_people_44 (C : xCx) (r : List Value) (hp : xHp) (x : Int32) (a0 a1 a2 : Value) : (xV k_So_people C 44 [a0, a1, a2, .int x] r hp) = (xV k_So_people C 45 [a0, a1, a2, .int x] (.int x :: r) hp) := xVe _ _ _ _ _ _
theorem s_So_people_45 (C : xCx) (r : List Value) (hp : xHp) (x : Int32) (a0 a1 a3 : Value) : (xV k_So_people C 45 [a0, a1, .int x, a3] r hp) = (xV k_So_people C 46 [a0, a1, .int x, a3] (.int x :: r) hp) := xVe _ _ _ _ _ _
theorem s_So_people_46 (x y : Int32) (C : xCx) (L r : List Value) (hp : xHp) : (xV k_So_people C 46 L (.int y :: .int x :: r) hp) = (((y ≤ x → xV k_So_people C 85 L r hp) ∧ (¬ y ≤ x → xV k_So_people C 49 L r hp))) := xVe _ _ _ _ _ _
theorem s_So_people_49 (C : xCx) (r : List Value) (hp : xHp) (x : Nat) (a1 a2 a3 : Value) : (xV k_So_people C 49 [.ref x, a1, a2, a3] r hp) = (True ∧ xV k_So_people C 50 [.ref x, a1, a2, a3] (.ref x :: r) hp) := xVe _ _ _ _ _ _
theorem s_So_people_50 (a : Nat) (C : xCx) (L r : List Value) (hp : xHp) : (xV k_So_people C 50 L (.ref a :: r) hp) = (xF hp a 0 6 (fun v => xV k_So_people C 53 L (v :: r) hp)) := xVe _ _ _ _ _ _
theorem s_So_people_53 (C : xCx) (r : List Value) (hp : xHp) (x : Nat) (a1 a2 a3 : Value) : (xV k_So_people C 53 [.ref x, a1, a2, a3] r hp) = (True ∧ xV k_So_people C 54 [.ref x, a1, a2, a3] (.ref x :: r) hp) := xVe _ _ _ _ _ _
theorem s_So_people_54 (a : Nat) (C : xCx) (L r : List Value) (hp : xHp) : (xV k_So_people C 54 L (.ref a :: r) hp) = (xF hp a 0 0 (fun v => xV k_So_people C 57 L (v :: r) hp)) := xVe _ _ _ _ _ _
theorem s_So_people_57  (C : xCx) (L r : List Value) (hp : xHp) : (xV k_So_people C 57 L (r) hp) = (xV k_So_people C 58 L (.int (4) :: r) hp) := xVe _ _ _ _ _ _
theorem s_So_people_58 (C : xCx) (r : List Value) (hp : xHp) (x : Int32) (a0 a1 a2 : Value) : (xV k_So_people C 58 [a0, a1, a2, .int x] r hp) = (xV k_So_people C 59 [a0, a1, a2, .int x] (.int x :: r) hp) := xVe _ _ _ _ _ _
theorem s_So_people_59 (x y : Int32) (C : xCx) (L r : List Value) (hp : xHp) : (xV k_So_people C 59 L (.int y :: .int x :: r) hp) = (xV k_So_people C 60 L (.int (x * y) :: r) hp) := xVe _ _ _ _ _ _
theorem s_So_people_60  (C : xCx) (L r : List Value) (hp : xHp) : (xV k_So_people C 60 L (r) hp) = (xV k_So_people C 61 L (.int (2) :: r) hp) := xVe _ _ _ _ _ _
theorem s_So_people_61 (x0 : Int32) (x1 : Int32) (a : Nat) (l : Launch) (d b lo gz n0 s0 : Nat) (Po : Option Value → xHp → Prop) (L r : List Value) (hp : xHp) : (xV k_So_people (l, d + 1, b, lo, gz, n0, s0, m_So_people, Po) 61 L (.int x1 :: .int x0 :: .ref a :: r) hp) = (xO hp a 10 ∧ xcs r 8 ∧ xMi l d b lo gz m_Text_number [.ref a, .int x0, .int x1] hp (fun x hp' => xV k_So_people (l, d + 1, b, lo, gz, n0, s0, m_So_people, Po) 64 L (.int x :: r) hp')) := xVe _ _ _ _ _ _
theorem s_So_people_64 (C : xCx) (r : List Value) (hp : xHp) (x : Nat) (a1 a2 a3 : Value) : (xV k_So_people C 64 [.ref x, a1, a2, a3] r hp) = (True ∧ xV k_So_people C 65 [.ref x, a1, a2, a3] (.ref x :: r) hp) := xVe _ _ _ _ _ _
theorem s_So_people_65 (a : Nat) (C : xCx) (L r : List Value) (hp : xHp) : (xV k_So_people C 65 L (.ref a :: r) hp) = (xF hp a 0 0 (fun v => xV k_So_people C 68 L (v :: r) hp)) := xVe _ _ _ _ _ _
theorem s_So_people_68  (C : xCx) (L r : List Value) (hp : xHp) : (xV k_So_people C 68 L (r) hp) = (xV k_So_people C 69 L (.int (4) :: r) hp) := xVe _ _ _ _ _ _
theorem s_So_people_69 (C : xCx) (r : List Value) (hp : xHp) (x : Int32) (a0 a1 a2 : Value) : (xV k_So_people C 69 [a0, a1, a2, .int x] r hp) = (xV k_So_people C 70 [a0, a1, a2, .int x] (.int x :: r) hp) := xVe _ _ _ _ _ _
theorem s_So_people_70 (x y : Int32) (C : xCx) (L r : List Value) (hp : xHp) : (xV k_So_people C 70 L (.int y :: .int x :: r) hp) = (xV k_So_people C 71 L (.int (x * y) :: r) hp) := xVe _ _ _ _ _ _
theorem s_So_people_71  (C : xCx) (L r : List Value) (hp : xHp) : (xV k_So_people C 71 L (r) hp) = (xV k_So_people C 72 L (.int (2) :: r) hp) := xVe _ _ _ _ _ _
theorem s_So_people_72 (x y : Int32) (C : xCx) (L r : List Value) (hp : xHp) : (xV k_So_people C 72 L (.int y :: .int x :: r) hp) = (xV k_So_people C 73 L (.int (x + y) :: r) hp) := xVe _ _ _ _ _ _
theorem s_So_people_73 (x0 : Int32) (a : Nat) (l : Launch) (d b lo gz n0 s0 : Nat) (Po : Option Value → xHp → Prop) (L r : List Value) (hp : xHp) : (xV k_So_people (l, d + 1, b, lo, gz, n0, s0, m_So_people, Po) 73 L (.int x0 :: .ref a :: r) hp) = (xO hp a 10 ∧ xcs r 8 ∧ xMi l d b lo gz m_Text_digit [.ref a, .int x0] hp (fun x hp' => xV k_So_people (l, d + 1, b, lo, gz, n0, s0, m_So_people, Po) 76 L (.int x :: r) hp')) := xVe _ _ _ _ _ _
theorem s_So_people_76 (x0 : Int32) (x1 : Int32) (a : Nat) (l : Launch) (d b lo gz n0 s0 : Nat) (Po : Option Value → xHp → Prop) (L r : List Value) (hp : xHp) : (xV k_So_people (l, d + 1, b, lo, gz, n0, s0, m_So_people, Po) 76 L (.int x1 :: .int x0 :: .ref a :: r) hp) = (xO hp a 3 ∧ xcs r 8 ∧ xMv l d b lo gz m_Folk_add [.ref a, .int x0, .int x1] hp (fun hp' => xV k_So_people (l, d + 1, b, lo, gz, n0, s0, m_So_people, Po) 79 L r hp')) := xVe _ _ _ _ _ _
theorem s_So_people_79 (C : xCx) (r : List Value) (hp : xHp) (x : Int32) (a0 a1 a2 : Value) : (xV k_So_people C 79 [a0, a1, a2, .int x] r hp) = (xNl [a0, a1, a2, .int x] 3 ∧ xV k_So_people C 82 [a0, a1, a2, .int (x + (1))] r hp) := xVe _ _ _ _ _ _
theorem s_So_people_82 (C : xCx) (L r : List Value) (hp : xHp) : (xV k_So_people C 82 L r hp) = (xV k_So_people C 44 L r hp) := xVe _ _ _ _ _ _
theorem s_So_people_85 (C : xCx) (r : List Value) (hp : xHp) (x : Nat) (a1 a2 a3 : Value) : (xV k_So_people C 85 [.ref x, a1, a2, a3] r hp) = (True ∧ xV k_So_people C 86 [.ref x, a1, a2, a3] (.ref x :: r) hp) := xVe _ _ _ _ _ _
theorem s_So_people_86 (C : xCx) (r : List Value) (hp : xHp) (x : Int32) (a0 a2 a3 : Value) : (xV k_So_people C 86 [a0, .int x, a2, a3] r hp) = (xV k_So_people C 87 [a0, .int x, a2, a3] (.int x :: r) hp) := xVe _ _ _ _ _ _
theorem s_So_people_87 (C : xCx) (r : List Value) (hp : xHp) (x : Int32) (a0 a1 a3 : Value) : (xV k_So_people C 87 [a0, a1, .int x, a3] r hp) = (xV k_So_people C 88 [a0, a1, .int x, a3] (.int x :: r) hp) := xVe _ _ _ _ _ _
theorem s_So_people_88 (x0 : Int32) (x1 : Int32) (a : Nat) (l : Launch) (d b lo gz n0 s0 : Nat) (Po : Option Value → xHp → Prop) (L r : List Value) (hp : xHp) : (xV k_So_people (l, d + 1, b, lo, gz, n0, s0, m_So_people, Po) 88 L (.int x1 :: .int x0 :: .ref a :: r) hp) = (xO hp a 0 ∧ xcs r 8 ∧ xMi l d b lo gz m_So_cameWith [.ref a, .int x0, .int x1] hp (fun x hp' => xV k_So_people (l, d + 1, b, lo, gz, n0, s0, m_So_people, Po) 91 L (.int x :: r) hp')) := xVe _ _ _ _ _ _
theorem s_So_people_91 (v : Int32) (l : Launch) (d b lo gz n0 s0 : Nat) (Po : Option Value → xHp → Prop) (L : List Value) (hp : xHp) : (xV k_So_people (l, d, b, lo, gz, n0, s0, m_So_people, Po) 91 L [.int v] hp) = (Po (some (.int v)) hp) := xVe _ _ _ _ _ _
theorem ml_So_166 : xLk "SunnyOnes" 166 m_Text_badDigit := Or.inl (wg2 186 (by decide +kernel) rfl)
theorem ml_So_169 : xLk "SunnyOnes" 169 m_Land_takeSkies := Or.inl (wg2 190 (by decide +kernel) rfl)
def k_So_skies : List xEC := [
  (0, .aload_n 0, 1, 0, 0, 0, m_x),
  (1, .getfield 10, 4, 0, 0, 0, m_x),
  (4, .bipush 20, 6, 0, 0, 0, m_x),
  (6, .invokevirtual 166, 9, 10, 0, 0, m_Text_badDigit),
  (9, .istore_n 1, 10, 0, 0, 0, m_x),
  (10, .aload_n 0, 11, 0, 0, 0, m_x),
  (11, .getfield 10, 14, 0, 0, 0, m_x),
  (14, .invokevirtual 122, 17, 10, 0, 0, m_Text_length),
  (17, .istore_n 2, 18, 0, 0, 0, m_x),
  (18, .iload_n 1, 19, 0, 0, 0, m_x),
  (19, .iconst (-1), 20, 0, 0, 0, m_x),
  (20, .if_icmp .ne 14, 23, 0, 34, 0, m_x),
  (23, .aload_n 0, 24, 0, 0, 0, m_x),
  (24, .getfield 26, 27, 0, 2, 0, m_x),
  (27, .aload_n 0, 28, 0, 0, 0, m_x),
  (28, .getfield 10, 31, 0, 0, 0, m_x),
  (31, .invokevirtual 169, 34, 4, 0, 0, m_Land_takeSkies),
  (34, .aload_n 0, 35, 0, 0, 0, m_x),
  (35, .getfield 10, 38, 0, 0, 0, m_x),
  (38, .invokevirtual 157, 41, 10, 0, 0, m_Text_clear),
  (41, .iload_n 1, 42, 0, 0, 0, m_x),
  (42, .iconst (-1), 43, 0, 0, 0, m_x),
  (43, .if_icmp .ne 7, 46, 0, 50, 0, m_x),
  (46, .iload_n 2, 47, 0, 0, 0, m_x),
  (47, .goto 6, 50, 0, 53, 0, m_x),
  (50, .iconst (-1), 51, 0, 0, 0, m_x),
  (51, .iload_n 1, 52, 0, 0, 0, m_x),
  (52, .isub, 53, 0, 0, 0, m_x),
  (53, .ireturn, 54, 0, 0, 0, m_x)]
theorem dc_So_skies : ∀ E ∈ k_So_skies, xDc m_So_skies E := by decide +kernel
set_option maxRecDepth 20000 in
theorem ok_So_skies : ∀ E ∈ k_So_skies, xOk m_So_skies E := xok_of dc_So_skies (xfc trivial (xfc fl_So_10 (xfc trivial (xfc ⟨ml_So_166, kd_Text_badDigit⟩ (xfc trivial (xfc trivial (xfc fl_So_10 (xfc ⟨ml_So_122, kd_Text_length⟩ (xfc trivial (xfc trivial (xfc trivial (xfc (show ((20 : Nat) : Int) + (14) = ((34 : Nat) : Int) from by decide) (xfc trivial (xfc fl_So_26 (xfc trivial (xfc fl_So_10 (xfc ⟨ml_So_169, kd_Land_takeSkies⟩ (xfc trivial (xfc fl_So_10 (xfc ⟨ml_So_157, kd_Text_clear⟩ (xfc trivial (xfc trivial (xfc (show ((43 : Nat) : Int) + (7) = ((50 : Nat) : Int) from by decide) (xfc trivial (xfc (show ((47 : Nat) : Int) + (6) = ((53 : Nat) : Int) from by decide) (xfc trivial (xfc trivial (xfc trivial (xfc trivial (xfn))))))))))))))))))))))))))))))
theorem s_So_skies_0 (C : xCx) (r : List Value) (hp : xHp) (x : Nat) (a1 a2 : Value) : (xV k_So_skies C 0 [.ref x, a1, a2] r hp) = (True ∧ xV k_So_skies C 1 [.ref x, a1, a2] (.ref x :: r) hp) := xVe _ _ _ _ _ _
theorem s_So_skies_1 (a : Nat) (C : xCx) (L r : List Value) (hp : xHp) : (xV k_So_skies C 1 L (.ref a :: r) hp) = (xF hp a 0 0 (fun v => xV k_So_skies C 4 L (v :: r) hp)) := xVe _ _ _ _ _ _
theorem s_So_skies_4  (C : xCx) (L r : List Value) (hp : xHp) : (xV k_So_skies C 4 L (r) hp) = (xV k_So_skies C 6 L (.int (20) :: r) hp) := xVe _ _ _ _ _ _
theorem s_So_skies_6 (x0 : Int32) (a : Nat) (l : Launch) (d b lo gz n0 s0 : Nat) (Po : Option Value → xHp → Prop) (L r : List Value) (hp : xHp) : (xV k_So_skies (l, d + 1, b, lo, gz, n0, s0, m_So_skies, Po) 6 L (.int x0 :: .ref a :: r) hp) = (xO hp a 10 ∧ xcs r 8 ∧ xMi l d b lo gz m_Text_badDigit [.ref a, .int x0] hp (fun x hp' => xV k_So_skies (l, d + 1, b, lo, gz, n0, s0, m_So_skies, Po) 9 L (.int x :: r) hp')) := xVe _ _ _ _ _ _
theorem s_So_skies_9 (C : xCx) (r : List Value) (hp : xHp) (x : Int32) (a0 a1 a2 : Value) : (xV k_So_skies C 9 [a0, a1, a2] (.int x :: r) hp) = (1 < 3 ∧ xNl [a0, a1, a2] 1 ∧ xV k_So_skies C 10 [a0, .int x, a2] r hp) := xVe _ _ _ _ _ _
theorem s_So_skies_10 (C : xCx) (r : List Value) (hp : xHp) (x : Nat) (a1 a2 : Value) : (xV k_So_skies C 10 [.ref x, a1, a2] r hp) = (True ∧ xV k_So_skies C 11 [.ref x, a1, a2] (.ref x :: r) hp) := xVe _ _ _ _ _ _
theorem s_So_skies_11 (a : Nat) (C : xCx) (L r : List Value) (hp : xHp) : (xV k_So_skies C 11 L (.ref a :: r) hp) = (xF hp a 0 0 (fun v => xV k_So_skies C 14 L (v :: r) hp)) := xVe _ _ _ _ _ _
theorem s_So_skies_14 (a : Nat) (l : Launch) (d b lo gz n0 s0 : Nat) (Po : Option Value → xHp → Prop) (L r : List Value) (hp : xHp) : (xV k_So_skies (l, d + 1, b, lo, gz, n0, s0, m_So_skies, Po) 14 L (.ref a :: r) hp) = (xO hp a 10 ∧ xcs r 8 ∧ xMi l d b lo gz m_Text_length [.ref a] hp (fun x hp' => xV k_So_skies (l, d + 1, b, lo, gz, n0, s0, m_So_skies, Po) 17 L (.int x :: r) hp')) := xVe _ _ _ _ _ _
theorem s_So_skies_17 (C : xCx) (r : List Value) (hp : xHp) (x : Int32) (a0 a1 a2 : Value) : (xV k_So_skies C 17 [a0, a1, a2] (.int x :: r) hp) = (2 < 3 ∧ xNl [a0, a1, a2] 2 ∧ xV k_So_skies C 18 [a0, a1, .int x] r hp) := xVe _ _ _ _ _ _
theorem s_So_skies_18 (C : xCx) (r : List Value) (hp : xHp) (x : Int32) (a0 a2 : Value) : (xV k_So_skies C 18 [a0, .int x, a2] r hp) = (xV k_So_skies C 19 [a0, .int x, a2] (.int x :: r) hp) := xVe _ _ _ _ _ _
theorem s_So_skies_19  (C : xCx) (L r : List Value) (hp : xHp) : (xV k_So_skies C 19 L (r) hp) = (xV k_So_skies C 20 L (.int (-1) :: r) hp) := xVe _ _ _ _ _ _
theorem s_So_skies_20 (x y : Int32) (C : xCx) (L r : List Value) (hp : xHp) : (xV k_So_skies C 20 L (.int y :: .int x :: r) hp) = (((¬ x = y → xV k_So_skies C 34 L r hp) ∧ (x = y → xV k_So_skies C 23 L r hp))) := xVe _ _ _ _ _ _
theorem s_So_skies_23 (C : xCx) (r : List Value) (hp : xHp) (x : Nat) (a1 a2 : Value) : (xV k_So_skies C 23 [.ref x, a1, a2] r hp) = (True ∧ xV k_So_skies C 24 [.ref x, a1, a2] (.ref x :: r) hp) := xVe _ _ _ _ _ _
theorem s_So_skies_24 (a : Nat) (C : xCx) (L r : List Value) (hp : xHp) : (xV k_So_skies C 24 L (.ref a :: r) hp) = (xF hp a 0 2 (fun v => xV k_So_skies C 27 L (v :: r) hp)) := xVe _ _ _ _ _ _
theorem s_So_skies_27 (C : xCx) (r : List Value) (hp : xHp) (x : Nat) (a1 a2 : Value) : (xV k_So_skies C 27 [.ref x, a1, a2] r hp) = (True ∧ xV k_So_skies C 28 [.ref x, a1, a2] (.ref x :: r) hp) := xVe _ _ _ _ _ _
theorem s_So_skies_28 (a : Nat) (C : xCx) (L r : List Value) (hp : xHp) : (xV k_So_skies C 28 L (.ref a :: r) hp) = (xF hp a 0 0 (fun v => xV k_So_skies C 31 L (v :: r) hp)) := xVe _ _ _ _ _ _
theorem s_So_skies_31 (x0 : Nat) (a : Nat) (l : Launch) (d b lo gz n0 s0 : Nat) (Po : Option Value → xHp → Prop) (L r : List Value) (hp : xHp) : (xV k_So_skies (l, d + 1, b, lo, gz, n0, s0, m_So_skies, Po) 31 L (.ref x0 :: .ref a :: r) hp) = (xO hp a 4 ∧ xcs r 8 ∧ xMv l d b lo gz m_Land_takeSkies [.ref a, .ref x0] hp (fun hp' => xV k_So_skies (l, d + 1, b, lo, gz, n0, s0, m_So_skies, Po) 34 L r hp')) := xVe _ _ _ _ _ _
theorem s_So_skies_34 (C : xCx) (r : List Value) (hp : xHp) (x : Nat) (a1 a2 : Value) : (xV k_So_skies C 34 [.ref x, a1, a2] r hp) = (True ∧ xV k_So_skies C 35 [.ref x, a1, a2] (.ref x :: r) hp) := xVe _ _ _ _ _ _
theorem s_So_skies_35 (a : Nat) (C : xCx) (L r : List Value) (hp : xHp) : (xV k_So_skies C 35 L (.ref a :: r) hp) = (xF hp a 0 0 (fun v => xV k_So_skies C 38 L (v :: r) hp)) := xVe _ _ _ _ _ _
theorem s_So_skies_38 (a : Nat) (l : Launch) (d b lo gz n0 s0 : Nat) (Po : Option Value → xHp → Prop) (L r : List Value) (hp : xHp) : (xV k_So_skies (l, d + 1, b, lo, gz, n0, s0, m_So_skies, Po) 38 L (.ref a :: r) hp) = (xO hp a 10 ∧ xcs r 8 ∧ xMv l d b lo gz m_Text_clear [.ref a] hp (fun hp' => xV k_So_skies (l, d + 1, b, lo, gz, n0, s0, m_So_skies, Po) 41 L r hp')) := xVe _ _ _ _ _ _
theorem s_So_skies_41 (C : xCx) (r : List Value) (hp : xHp) (x : Int32) (a0 a2 : Value) : (xV k_So_skies C 41 [a0, .int x, a2] r hp) = (xV k_So_skies C 42 [a0, .int x, a2] (.int x :: r) hp) := xVe _ _ _ _ _ _
theorem s_So_skies_42  (C : xCx) (L r : List Value) (hp : xHp) : (xV k_So_skies C 42 L (r) hp) = (xV k_So_skies C 43 L (.int (-1) :: r) hp) := xVe _ _ _ _ _ _
theorem s_So_skies_43 (x y : Int32) (C : xCx) (L r : List Value) (hp : xHp) : (xV k_So_skies C 43 L (.int y :: .int x :: r) hp) = (((¬ x = y → xV k_So_skies C 50 L r hp) ∧ (x = y → xV k_So_skies C 46 L r hp))) := xVe _ _ _ _ _ _
theorem s_So_skies_46 (C : xCx) (r : List Value) (hp : xHp) (x : Int32) (a0 a1 : Value) : (xV k_So_skies C 46 [a0, a1, .int x] r hp) = (xV k_So_skies C 47 [a0, a1, .int x] (.int x :: r) hp) := xVe _ _ _ _ _ _
theorem s_So_skies_47 (C : xCx) (L r : List Value) (hp : xHp) : (xV k_So_skies C 47 L r hp) = (xV k_So_skies C 53 L r hp) := xVe _ _ _ _ _ _
theorem s_So_skies_50  (C : xCx) (L r : List Value) (hp : xHp) : (xV k_So_skies C 50 L (r) hp) = (xV k_So_skies C 51 L (.int (-1) :: r) hp) := xVe _ _ _ _ _ _
theorem s_So_skies_51 (C : xCx) (r : List Value) (hp : xHp) (x : Int32) (a0 a2 : Value) : (xV k_So_skies C 51 [a0, .int x, a2] r hp) = (xV k_So_skies C 52 [a0, .int x, a2] (.int x :: r) hp) := xVe _ _ _ _ _ _
theorem s_So_skies_52 (x y : Int32) (C : xCx) (L r : List Value) (hp : xHp) : (xV k_So_skies C 52 L (.int y :: .int x :: r) hp) = (xV k_So_skies C 53 L (.int (x - y) :: r) hp) := xVe _ _ _ _ _ _
theorem s_So_skies_53 (v : Int32) (l : Launch) (d b lo gz n0 s0 : Nat) (Po : Option Value → xHp → Prop) (L : List Value) (hp : xHp) : (xV k_So_skies (l, d, b, lo, gz, n0, s0, m_So_skies, Po) 53 L [.int v] hp) = (Po (some (.int v)) hp) := xVe _ _ _ _ _ _
theorem ml_So_172 : xLk "SunnyOnes" 172 m_Rule_read := Or.inl (wg2 200 (by decide +kernel) rfl)
theorem ml_So_175 : xLk "SunnyOnes" 175 m_Rule_copyFrom := Or.inl (wg3 2 (by decide +kernel) rfl)
def k_So_rule : List xEC := [
  (0, .aload_n 0, 1, 0, 0, 0, m_x),
  (1, .getfield 39, 4, 0, 4, 0, m_x),
  (4, .invokevirtual 172, 7, 8, 0, 0, m_Rule_read),
  (7, .istore_n 1, 8, 0, 0, 0, m_x),
  (8, .aload_n 0, 9, 0, 0, 0, m_x),
  (9, .getfield 10, 12, 0, 0, 0, m_x),
  (12, .invokevirtual 157, 15, 10, 0, 0, m_Text_clear),
  (15, .iload_n 1, 16, 0, 0, 0, m_x),
  (16, .iconst (-1), 17, 0, 0, 0, m_x),
  (17, .if_icmp .eq 7, 20, 0, 24, 0, m_x),
  (20, .iconst (-1), 21, 0, 0, 0, m_x),
  (21, .iload_n 1, 22, 0, 0, 0, m_x),
  (22, .isub, 23, 0, 0, 0, m_x),
  (23, .ireturn, 24, 0, 0, 0, m_x),
  (24, .aload_n 0, 25, 0, 0, 0, m_x),
  (25, .getfield 35, 28, 0, 3, 0, m_x),
  (28, .aload_n 0, 29, 0, 0, 0, m_x),
  (29, .getfield 39, 32, 0, 4, 0, m_x),
  (32, .invokevirtual 175, 35, 8, 0, 0, m_Rule_copyFrom),
  (35, .iconst 0, 36, 0, 0, 0, m_x),
  (36, .ireturn, 37, 0, 0, 0, m_x)]
theorem dc_So_rule : ∀ E ∈ k_So_rule, xDc m_So_rule E := by decide +kernel
set_option maxRecDepth 20000 in
theorem ok_So_rule : ∀ E ∈ k_So_rule, xOk m_So_rule E := xok_of dc_So_rule (xfc trivial (xfc fl_So_39 (xfc ⟨ml_So_172, kd_Rule_read⟩ (xfc trivial (xfc trivial (xfc fl_So_10 (xfc ⟨ml_So_157, kd_Text_clear⟩ (xfc trivial (xfc trivial (xfc (show ((17 : Nat) : Int) + (7) = ((24 : Nat) : Int) from by decide) (xfc trivial (xfc trivial (xfc trivial (xfc trivial (xfc trivial (xfc fl_So_35 (xfc trivial (xfc fl_So_39 (xfc ⟨ml_So_175, kd_Rule_copyFrom⟩ (xfc trivial (xfc trivial (xfn))))))))))))))))))))))
theorem s_So_rule_0 (C : xCx) (r : List Value) (hp : xHp) (x : Nat) (a1 : Value) : (xV k_So_rule C 0 [.ref x, a1] r hp) = (True ∧ xV k_So_rule C 1 [.ref x, a1] (.ref x :: r) hp) := xVe _ _ _ _ _ _
theorem s_So_rule_1 (a : Nat) (C : xCx) (L r : List Value) (hp : xHp) : (xV k_So_rule C 1 L (.ref a :: r) hp) = (xF hp a 0 4 (fun v => xV k_So_rule C 4 L (v :: r) hp)) := xVe _ _ _ _ _ _
theorem s_So_rule_4 (a : Nat) (l : Launch) (d b lo gz n0 s0 : Nat) (Po : Option Value → xHp → Prop) (L r : List Value) (hp : xHp) : (xV k_So_rule (l, d + 1, b, lo, gz, n0, s0, m_So_rule, Po) 4 L (.ref a :: r) hp) = (xO hp a 8 ∧ xcs r 8 ∧ xMi l d b lo gz m_Rule_read [.ref a] hp (fun x hp' => xV k_So_rule (l, d + 1, b, lo, gz, n0, s0, m_So_rule, Po) 7 L (.int x :: r) hp')) := xVe _ _ _ _ _ _
theorem s_So_rule_7 (C : xCx) (r : List Value) (hp : xHp) (x : Int32) (a0 a1 : Value) : (xV k_So_rule C 7 [a0, a1] (.int x :: r) hp) = (1 < 2 ∧ xNl [a0, a1] 1 ∧ xV k_So_rule C 8 [a0, .int x] r hp) := xVe _ _ _ _ _ _
theorem s_So_rule_8 (C : xCx) (r : List Value) (hp : xHp) (x : Nat) (a1 : Value) : (xV k_So_rule C 8 [.ref x, a1] r hp) = (True ∧ xV k_So_rule C 9 [.ref x, a1] (.ref x :: r) hp) := xVe _ _ _ _ _ _
theorem s_So_rule_9 (a : Nat) (C : xCx) (L r : List Value) (hp : xHp) : (xV k_So_rule C 9 L (.ref a :: r) hp) = (xF hp a 0 0 (fun v => xV k_So_rule C 12 L (v :: r) hp)) := xVe _ _ _ _ _ _
theorem s_So_rule_12 (a : Nat) (l : Launch) (d b lo gz n0 s0 : Nat) (Po : Option Value → xHp → Prop) (L r : List Value) (hp : xHp) : (xV k_So_rule (l, d + 1, b, lo, gz, n0, s0, m_So_rule, Po) 12 L (.ref a :: r) hp) = (xO hp a 10 ∧ xcs r 8 ∧ xMv l d b lo gz m_Text_clear [.ref a] hp (fun hp' => xV k_So_rule (l, d + 1, b, lo, gz, n0, s0, m_So_rule, Po) 15 L r hp')) := xVe _ _ _ _ _ _
theorem s_So_rule_15 (C : xCx) (r : List Value) (hp : xHp) (x : Int32) (a0 : Value) : (xV k_So_rule C 15 [a0, .int x] r hp) = (xV k_So_rule C 16 [a0, .int x] (.int x :: r) hp) := xVe _ _ _ _ _ _
theorem s_So_rule_16  (C : xCx) (L r : List Value) (hp : xHp) : (xV k_So_rule C 16 L (r) hp) = (xV k_So_rule C 17 L (.int (-1) :: r) hp) := xVe _ _ _ _ _ _
theorem s_So_rule_17 (x y : Int32) (C : xCx) (L r : List Value) (hp : xHp) : (xV k_So_rule C 17 L (.int y :: .int x :: r) hp) = (((x = y → xV k_So_rule C 24 L r hp) ∧ (¬ x = y → xV k_So_rule C 20 L r hp))) := xVe _ _ _ _ _ _
theorem s_So_rule_20  (C : xCx) (L r : List Value) (hp : xHp) : (xV k_So_rule C 20 L (r) hp) = (xV k_So_rule C 21 L (.int (-1) :: r) hp) := xVe _ _ _ _ _ _
theorem s_So_rule_21 (C : xCx) (r : List Value) (hp : xHp) (x : Int32) (a0 : Value) : (xV k_So_rule C 21 [a0, .int x] r hp) = (xV k_So_rule C 22 [a0, .int x] (.int x :: r) hp) := xVe _ _ _ _ _ _
theorem s_So_rule_22 (x y : Int32) (C : xCx) (L r : List Value) (hp : xHp) : (xV k_So_rule C 22 L (.int y :: .int x :: r) hp) = (xV k_So_rule C 23 L (.int (x - y) :: r) hp) := xVe _ _ _ _ _ _
theorem s_So_rule_23 (v : Int32) (l : Launch) (d b lo gz n0 s0 : Nat) (Po : Option Value → xHp → Prop) (L : List Value) (hp : xHp) : (xV k_So_rule (l, d, b, lo, gz, n0, s0, m_So_rule, Po) 23 L [.int v] hp) = (Po (some (.int v)) hp) := xVe _ _ _ _ _ _
theorem s_So_rule_24 (C : xCx) (r : List Value) (hp : xHp) (x : Nat) (a1 : Value) : (xV k_So_rule C 24 [.ref x, a1] r hp) = (True ∧ xV k_So_rule C 25 [.ref x, a1] (.ref x :: r) hp) := xVe _ _ _ _ _ _
theorem s_So_rule_25 (a : Nat) (C : xCx) (L r : List Value) (hp : xHp) : (xV k_So_rule C 25 L (.ref a :: r) hp) = (xF hp a 0 3 (fun v => xV k_So_rule C 28 L (v :: r) hp)) := xVe _ _ _ _ _ _
theorem s_So_rule_28 (C : xCx) (r : List Value) (hp : xHp) (x : Nat) (a1 : Value) : (xV k_So_rule C 28 [.ref x, a1] r hp) = (True ∧ xV k_So_rule C 29 [.ref x, a1] (.ref x :: r) hp) := xVe _ _ _ _ _ _
theorem s_So_rule_29 (a : Nat) (C : xCx) (L r : List Value) (hp : xHp) : (xV k_So_rule C 29 L (.ref a :: r) hp) = (xF hp a 0 4 (fun v => xV k_So_rule C 32 L (v :: r) hp)) := xVe _ _ _ _ _ _
theorem s_So_rule_32 (x0 : Nat) (a : Nat) (l : Launch) (d b lo gz n0 s0 : Nat) (Po : Option Value → xHp → Prop) (L r : List Value) (hp : xHp) : (xV k_So_rule (l, d + 1, b, lo, gz, n0, s0, m_So_rule, Po) 32 L (.ref x0 :: .ref a :: r) hp) = (xO hp a 8 ∧ xcs r 8 ∧ xMv l d b lo gz m_Rule_copyFrom [.ref a, .ref x0] hp (fun hp' => xV k_So_rule (l, d + 1, b, lo, gz, n0, s0, m_So_rule, Po) 35 L r hp')) := xVe _ _ _ _ _ _
theorem s_So_rule_35  (C : xCx) (L r : List Value) (hp : xHp) : (xV k_So_rule C 35 L (r) hp) = (xV k_So_rule C 36 L (.int (0) :: r) hp) := xVe _ _ _ _ _ _
theorem s_So_rule_36 (v : Int32) (l : Launch) (d b lo gz n0 s0 : Nat) (Po : Option Value → xHp → Prop) (L : List Value) (hp : xHp) : (xV k_So_rule (l, d, b, lo, gz, n0, s0, m_So_rule, Po) 36 L [.int v] hp) = (Po (some (.int v)) hp) := xVe _ _ _ _ _ _
def k_So_at : List xEC := [
  (0, .iload_n 1, 1, 0, 0, 0, m_x),
  (1, .ifCond .lt 15, 4, 0, 16, 0, m_x),
  (4, .iload_n 1, 5, 0, 0, 0, m_x),
  (5, .aload_n 0, 6, 0, 0, 0, m_x),
  (6, .arraylength, 7, 0, 0, 0, m_x),
  (7, .if_icmp .ge 9, 10, 0, 16, 0, m_x),
  (10, .aload_n 0, 11, 0, 0, 0, m_x),
  (11, .iload_n 1, 12, 0, 0, 0, m_x),
  (12, .iaload, 13, 0, 0, 0, m_x),
  (13, .goto 4, 16, 0, 17, 0, m_x),
  (16, .iconst 0, 17, 0, 0, 0, m_x),
  (17, .ireturn, 18, 0, 0, 0, m_x)]
theorem dc_So_at : ∀ E ∈ k_So_at, xDc m_So_at E := by decide +kernel
set_option maxRecDepth 20000 in
theorem ok_So_at : ∀ E ∈ k_So_at, xOk m_So_at E := xok_of dc_So_at (xfc trivial (xfc (show ((1 : Nat) : Int) + (15) = ((16 : Nat) : Int) from by decide) (xfc trivial (xfc trivial (xfc trivial (xfc (show ((7 : Nat) : Int) + (9) = ((16 : Nat) : Int) from by decide) (xfc trivial (xfc trivial (xfc trivial (xfc (show ((13 : Nat) : Int) + (4) = ((17 : Nat) : Int) from by decide) (xfc trivial (xfc trivial (xfn)))))))))))))
theorem s_So_at_0 (C : xCx) (r : List Value) (hp : xHp) (x : Int32) (a0 : Value) : (xV k_So_at C 0 [a0, .int x] r hp) = (xV k_So_at C 1 [a0, .int x] (.int x :: r) hp) := xVe _ _ _ _ _ _
theorem s_So_at_1 (x : Int32) (C : xCx) (L r : List Value) (hp : xHp) : (xV k_So_at C 1 L (.int x :: r) hp) = (((x < 0 → xV k_So_at C 16 L r hp) ∧ (¬ x < 0 → xV k_So_at C 4 L r hp))) := xVe _ _ _ _ _ _
theorem s_So_at_4 (C : xCx) (r : List Value) (hp : xHp) (x : Int32) (a0 : Value) : (xV k_So_at C 4 [a0, .int x] r hp) = (xV k_So_at C 5 [a0, .int x] (.int x :: r) hp) := xVe _ _ _ _ _ _
theorem s_So_at_5 (C : xCx) (r : List Value) (hp : xHp) (x : Nat) (a1 : Value) : (xV k_So_at C 5 [.ref x, a1] r hp) = (True ∧ xV k_So_at C 6 [.ref x, a1] (.ref x :: r) hp) := xVe _ _ _ _ _ _
theorem s_So_at_6 (a : Nat) (C : xCx) (L r : List Value) (hp : xHp) : (xV k_So_at C 6 L (.ref a :: r) hp) = (xLn hp a (fun n => xV k_So_at C 7 L (.int (Int32.ofNat n) :: r) hp)) := xVe _ _ _ _ _ _
theorem s_So_at_7 (x y : Int32) (C : xCx) (L r : List Value) (hp : xHp) : (xV k_So_at C 7 L (.int y :: .int x :: r) hp) = (((y ≤ x → xV k_So_at C 16 L r hp) ∧ (¬ y ≤ x → xV k_So_at C 10 L r hp))) := xVe _ _ _ _ _ _
theorem s_So_at_10 (C : xCx) (r : List Value) (hp : xHp) (x : Nat) (a1 : Value) : (xV k_So_at C 10 [.ref x, a1] r hp) = (True ∧ xV k_So_at C 11 [.ref x, a1] (.ref x :: r) hp) := xVe _ _ _ _ _ _
theorem s_So_at_11 (C : xCx) (r : List Value) (hp : xHp) (x : Int32) (a0 : Value) : (xV k_So_at C 11 [a0, .int x] r hp) = (xV k_So_at C 12 [a0, .int x] (.int x :: r) hp) := xVe _ _ _ _ _ _
theorem s_So_at_12 (i : Int32) (a : Nat) (C : xCx) (L r : List Value) (hp : xHp) : (xV k_So_at C 12 L (.int i :: .ref a :: r) hp) = (xAi hp a (fun ty n g => ty = .int ∧ vp_in i n ∧ xV k_So_at C 13 L (.int (g i.toNatClampNeg) :: r) hp)) := xVe _ _ _ _ _ _
theorem s_So_at_13 (C : xCx) (L r : List Value) (hp : xHp) : (xV k_So_at C 13 L r hp) = (xV k_So_at C 17 L r hp) := xVe _ _ _ _ _ _
theorem s_So_at_16  (C : xCx) (L r : List Value) (hp : xHp) : (xV k_So_at C 16 L (r) hp) = (xV k_So_at C 17 L (.int (0) :: r) hp) := xVe _ _ _ _ _ _
theorem s_So_at_17 (v : Int32) (l : Launch) (d b lo gz n0 s0 : Nat) (Po : Option Value → xHp → Prop) (L : List Value) (hp : xHp) : (xV k_So_at (l, d, b, lo, gz, n0, s0, m_So_at, Po) 17 L [.int v] hp) = (Po (some (.int v)) hp) := xVe _ _ _ _ _ _
theorem ml_So_208 : xLk "SunnyOnes" 208 m_Land_lightAll := Or.inl (wg3 14 (by decide +kernel) rfl)
theorem ml_So_212 : xLk "SunnyOnes" 212 m_Land_lights := Or.inl (wg3 21 (by decide +kernel) rfl)
def k_So_sheet : List xEC := [
  (0, .iload_n 1, 1, 0, 0, 0, m_x),
  (1, .ifCond .lt 14, 4, 0, 15, 0, m_x),
  (4, .iload_n 1, 5, 0, 0, 0, m_x),
  (5, .iconst 3, 6, 0, 0, 0, m_x),
  (6, .if_icmp .gt 9, 9, 0, 15, 0, m_x),
  (9, .iload_n 2, 10, 0, 0, 0, m_x),
  (10, .bipush 6, 12, 0, 0, 0, m_x),
  (12, .if_icmp .le 5, 15, 0, 17, 0, m_x),
  (15, .iconst (-1), 16, 0, 0, 0, m_x),
  (16, .ireturn, 17, 0, 0, 0, m_x),
  (17, .iload_n 1, 18, 0, 0, 0, m_x),
  (18, .iconst 3, 19, 0, 0, 0, m_x),
  (19, .if_icmp .ne 17, 22, 0, 36, 0, m_x),
  (22, .aload_n 0, 23, 0, 0, 0, m_x),
  (23, .getfield 26, 26, 0, 2, 0, m_x),
  (26, .iconst 0, 27, 0, 0, 0, m_x),
  (27, .iconst 0, 28, 0, 0, 0, m_x),
  (28, .iconst 0, 29, 0, 0, 0, m_x),
  (29, .iconst 0, 30, 0, 0, 0, m_x),
  (30, .invokevirtual 208, 33, 4, 0, 0, m_Land_lightAll),
  (33, .bipush (-3), 35, 0, 0, 0, m_x),
  (35, .ireturn, 36, 0, 0, 0, m_x),
  (36, .iload_n 2, 37, 0, 0, 0, m_x),
  (37, .ifCond .ge 6, 40, 0, 43, 0, m_x),
  (40, .bipush (-2), 42, 0, 0, 0, m_x),
  (42, .ireturn, 43, 0, 0, 0, m_x),
  (43, .aload_n 0, 44, 0, 0, 0, m_x),
  (44, .getfield 26, 47, 0, 2, 0, m_x),
  (47, .iload_n 1, 48, 0, 0, 0, m_x),
  (48, .iload_n 2, 49, 0, 0, 0, m_x),
  (49, .iload_n 3, 50, 0, 0, 0, m_x),
  (50, .iload 4, 52, 0, 0, 0, m_x),
  (52, .invokevirtual 208, 55, 4, 0, 0, m_Land_lightAll),
  (55, .aload_n 0, 56, 0, 0, 0, m_x),
  (56, .getfield 26, 59, 0, 2, 0, m_x),
  (59, .invokevirtual 212, 62, 4, 0, 0, m_Land_lights),
  (62, .ireturn, 63, 0, 0, 0, m_x)]
theorem dc_So_sheet : ∀ E ∈ k_So_sheet, xDc m_So_sheet E := by decide +kernel
set_option maxRecDepth 20000 in
theorem ok_So_sheet : ∀ E ∈ k_So_sheet, xOk m_So_sheet E := xok_of dc_So_sheet (xfc trivial (xfc (show ((1 : Nat) : Int) + (14) = ((15 : Nat) : Int) from by decide) (xfc trivial (xfc trivial (xfc (show ((6 : Nat) : Int) + (9) = ((15 : Nat) : Int) from by decide) (xfc trivial (xfc trivial (xfc (show ((12 : Nat) : Int) + (5) = ((17 : Nat) : Int) from by decide) (xfc trivial (xfc trivial (xfc trivial (xfc trivial (xfc (show ((19 : Nat) : Int) + (17) = ((36 : Nat) : Int) from by decide) (xfc trivial (xfc fl_So_26 (xfc trivial (xfc trivial (xfc trivial (xfc trivial (xfc ⟨ml_So_208, kd_Land_lightAll⟩ (xfc trivial (xfc trivial (xfc trivial (xfc (show ((37 : Nat) : Int) + (6) = ((43 : Nat) : Int) from by decide) (xfc trivial (xfc trivial (xfc trivial (xfc fl_So_26 (xfc trivial (xfc trivial (xfc trivial (xfc trivial (xfc ⟨ml_So_208, kd_Land_lightAll⟩ (xfc trivial (xfc fl_So_26 (xfc ⟨ml_So_212, kd_Land_lights⟩ (xfc trivial (xfn))))))))))))))))))))))))))))))))))))))
theorem s_So_sheet_0 (C : xCx) (r : List Value) (hp : xHp) (x : Int32) (a0 a2 a3 a4 : Value) : (xV k_So_sheet C 0 [a0, .int x, a2, a3, a4] r hp) = (xV k_So_sheet C 1 [a0, .int x, a2, a3, a4] (.int x :: r) hp) := xVe _ _ _ _ _ _
theorem s_So_sheet_1 (x : Int32) (C : xCx) (L r : List Value) (hp : xHp) : (xV k_So_sheet C 1 L (.int x :: r) hp) = (((x < 0 → xV k_So_sheet C 15 L r hp) ∧ (¬ x < 0 → xV k_So_sheet C 4 L r hp))) := xVe _ _ _ _ _ _
theorem s_So_sheet_4 (C : xCx) (r : List Value) (hp : xHp) (x : Int32) (a0 a2 a3 a4 : Value) : (xV k_So_sheet C 4 [a0, .int x, a2, a3, a4] r hp) = (xV k_So_sheet C 5 [a0, .int x, a2, a3, a4] (.int x :: r) hp) := xVe _ _ _ _ _ _
theorem s_So_sheet_5  (C : xCx) (L r : List Value) (hp : xHp) : (xV k_So_sheet C 5 L (r) hp) = (xV k_So_sheet C 6 L (.int (3) :: r) hp) := xVe _ _ _ _ _ _
theorem s_So_sheet_6 (x y : Int32) (C : xCx) (L r : List Value) (hp : xHp) : (xV k_So_sheet C 6 L (.int y :: .int x :: r) hp) = (((y < x → xV k_So_sheet C 15 L r hp) ∧ (¬ y < x → xV k_So_sheet C 9 L r hp))) := xVe _ _ _ _ _ _
theorem s_So_sheet_9 (C : xCx) (r : List Value) (hp : xHp) (x : Int32) (a0 a1 a3 a4 : Value) : (xV k_So_sheet C 9 [a0, a1, .int x, a3, a4] r hp) = (xV k_So_sheet C 10 [a0, a1, .int x, a3, a4] (.int x :: r) hp) := xVe _ _ _ _ _ _
theorem s_So_sheet_10  (C : xCx) (L r : List Value) (hp : xHp) : (xV k_So_sheet C 10 L (r) hp) = (xV k_So_sheet C 12 L (.int (6) :: r) hp) := xVe _ _ _ _ _ _
theorem s_So_sheet_12 (x y : Int32) (C : xCx) (L r : List Value) (hp : xHp) : (xV k_So_sheet C 12 L (.int y :: .int x :: r) hp) = (((x ≤ y → xV k_So_sheet C 17 L r hp) ∧ (¬ x ≤ y → xV k_So_sheet C 15 L r hp))) := xVe _ _ _ _ _ _
theorem s_So_sheet_15  (C : xCx) (L r : List Value) (hp : xHp) : (xV k_So_sheet C 15 L (r) hp) = (xV k_So_sheet C 16 L (.int (-1) :: r) hp) := xVe _ _ _ _ _ _
theorem s_So_sheet_16 (v : Int32) (l : Launch) (d b lo gz n0 s0 : Nat) (Po : Option Value → xHp → Prop) (L : List Value) (hp : xHp) : (xV k_So_sheet (l, d, b, lo, gz, n0, s0, m_So_sheet, Po) 16 L [.int v] hp) = (Po (some (.int v)) hp) := xVe _ _ _ _ _ _
theorem s_So_sheet_17 (C : xCx) (r : List Value) (hp : xHp) (x : Int32) (a0 a2 a3 a4 : Value) : (xV k_So_sheet C 17 [a0, .int x, a2, a3, a4] r hp) = (xV k_So_sheet C 18 [a0, .int x, a2, a3, a4] (.int x :: r) hp) := xVe _ _ _ _ _ _
theorem s_So_sheet_18  (C : xCx) (L r : List Value) (hp : xHp) : (xV k_So_sheet C 18 L (r) hp) = (xV k_So_sheet C 19 L (.int (3) :: r) hp) := xVe _ _ _ _ _ _
theorem s_So_sheet_19 (x y : Int32) (C : xCx) (L r : List Value) (hp : xHp) : (xV k_So_sheet C 19 L (.int y :: .int x :: r) hp) = (((¬ x = y → xV k_So_sheet C 36 L r hp) ∧ (x = y → xV k_So_sheet C 22 L r hp))) := xVe _ _ _ _ _ _
theorem s_So_sheet_22 (C : xCx) (r : List Value) (hp : xHp) (x : Nat) (a1 a2 a3 a4 : Value) : (xV k_So_sheet C 22 [.ref x, a1, a2, a3, a4] r hp) = (True ∧ xV k_So_sheet C 23 [.ref x, a1, a2, a3, a4] (.ref x :: r) hp) := xVe _ _ _ _ _ _
theorem s_So_sheet_23 (a : Nat) (C : xCx) (L r : List Value) (hp : xHp) : (xV k_So_sheet C 23 L (.ref a :: r) hp) = (xF hp a 0 2 (fun v => xV k_So_sheet C 26 L (v :: r) hp)) := xVe _ _ _ _ _ _
theorem s_So_sheet_26  (C : xCx) (L r : List Value) (hp : xHp) : (xV k_So_sheet C 26 L (r) hp) = (xV k_So_sheet C 27 L (.int (0) :: r) hp) := xVe _ _ _ _ _ _
theorem s_So_sheet_27  (C : xCx) (L r : List Value) (hp : xHp) : (xV k_So_sheet C 27 L (r) hp) = (xV k_So_sheet C 28 L (.int (0) :: r) hp) := xVe _ _ _ _ _ _
theorem s_So_sheet_28  (C : xCx) (L r : List Value) (hp : xHp) : (xV k_So_sheet C 28 L (r) hp) = (xV k_So_sheet C 29 L (.int (0) :: r) hp) := xVe _ _ _ _ _ _
theorem s_So_sheet_29  (C : xCx) (L r : List Value) (hp : xHp) : (xV k_So_sheet C 29 L (r) hp) = (xV k_So_sheet C 30 L (.int (0) :: r) hp) := xVe _ _ _ _ _ _
theorem s_So_sheet_30 (x0 : Int32) (x1 : Int32) (x2 : Int32) (x3 : Int32) (a : Nat) (l : Launch) (d b lo gz n0 s0 : Nat) (Po : Option Value → xHp → Prop) (L r : List Value) (hp : xHp) : (xV k_So_sheet (l, d + 1, b, lo, gz, n0, s0, m_So_sheet, Po) 30 L (.int x3 :: .int x2 :: .int x1 :: .int x0 :: .ref a :: r) hp) = (xO hp a 4 ∧ xcs r 8 ∧ xMv l d b lo gz m_Land_lightAll [.ref a, .int x0, .int x1, .int x2, .int x3] hp (fun hp' => xV k_So_sheet (l, d + 1, b, lo, gz, n0, s0, m_So_sheet, Po) 33 L r hp')) := xVe _ _ _ _ _ _
theorem s_So_sheet_33  (C : xCx) (L r : List Value) (hp : xHp) : (xV k_So_sheet C 33 L (r) hp) = (xV k_So_sheet C 35 L (.int (-3) :: r) hp) := xVe _ _ _ _ _ _
theorem s_So_sheet_35 (v : Int32) (l : Launch) (d b lo gz n0 s0 : Nat) (Po : Option Value → xHp → Prop) (L : List Value) (hp : xHp) : (xV k_So_sheet (l, d, b, lo, gz, n0, s0, m_So_sheet, Po) 35 L [.int v] hp) = (Po (some (.int v)) hp) := xVe _ _ _ _ _ _
theorem s_So_sheet_36 (C : xCx) (r : List Value) (hp : xHp) (x : Int32) (a0 a1 a3 a4 : Value) : (xV k_So_sheet C 36 [a0, a1, .int x, a3, a4] r hp) = (xV k_So_sheet C 37 [a0, a1, .int x, a3, a4] (.int x :: r) hp) := xVe _ _ _ _ _ _
theorem s_So_sheet_37 (x : Int32) (C : xCx) (L r : List Value) (hp : xHp) : (xV k_So_sheet C 37 L (.int x :: r) hp) = (((0 ≤ x → xV k_So_sheet C 43 L r hp) ∧ (¬ 0 ≤ x → xV k_So_sheet C 40 L r hp))) := xVe _ _ _ _ _ _
theorem s_So_sheet_40  (C : xCx) (L r : List Value) (hp : xHp) : (xV k_So_sheet C 40 L (r) hp) = (xV k_So_sheet C 42 L (.int (-2) :: r) hp) := xVe _ _ _ _ _ _
theorem s_So_sheet_42 (v : Int32) (l : Launch) (d b lo gz n0 s0 : Nat) (Po : Option Value → xHp → Prop) (L : List Value) (hp : xHp) : (xV k_So_sheet (l, d, b, lo, gz, n0, s0, m_So_sheet, Po) 42 L [.int v] hp) = (Po (some (.int v)) hp) := xVe _ _ _ _ _ _
theorem s_So_sheet_43 (C : xCx) (r : List Value) (hp : xHp) (x : Nat) (a1 a2 a3 a4 : Value) : (xV k_So_sheet C 43 [.ref x, a1, a2, a3, a4] r hp) = (True ∧ xV k_So_sheet C 44 [.ref x, a1, a2, a3, a4] (.ref x :: r) hp) := xVe _ _ _ _ _ _
theorem s_So_sheet_44 (a : Nat) (C : xCx) (L r : List Value) (hp : xHp) : (xV k_So_sheet C 44 L (.ref a :: r) hp) = (xF hp a 0 2 (fun v => xV k_So_sheet C 47 L (v :: r) hp)) := xVe _ _ _ _ _ _
theorem s_So_sheet_47 (C : xCx) (r : List Value) (hp : xHp) (x : Int32) (a0 a2 a3 a4 : Value) : (xV k_So_sheet C 47 [a0, .int x, a2, a3, a4] r hp) = (xV k_So_sheet C 48 [a0, .int x, a2, a3, a4] (.int x :: r) hp) := xVe _ _ _ _ _ _
theorem s_So_sheet_48 (C : xCx) (r : List Value) (hp : xHp) (x : Int32) (a0 a1 a3 a4 : Value) : (xV k_So_sheet C 48 [a0, a1, .int x, a3, a4] r hp) = (xV k_So_sheet C 49 [a0, a1, .int x, a3, a4] (.int x :: r) hp) := xVe _ _ _ _ _ _
theorem s_So_sheet_49 (C : xCx) (r : List Value) (hp : xHp) (x : Int32) (a0 a1 a2 a4 : Value) : (xV k_So_sheet C 49 [a0, a1, a2, .int x, a4] r hp) = (xV k_So_sheet C 50 [a0, a1, a2, .int x, a4] (.int x :: r) hp) := xVe _ _ _ _ _ _
theorem s_So_sheet_50 (C : xCx) (r : List Value) (hp : xHp) (x : Int32) (a0 a1 a2 a3 : Value) : (xV k_So_sheet C 50 [a0, a1, a2, a3, .int x] r hp) = (xV k_So_sheet C 52 [a0, a1, a2, a3, .int x] (.int x :: r) hp) := xVe _ _ _ _ _ _
theorem s_So_sheet_52 (x0 : Int32) (x1 : Int32) (x2 : Int32) (x3 : Int32) (a : Nat) (l : Launch) (d b lo gz n0 s0 : Nat) (Po : Option Value → xHp → Prop) (L r : List Value) (hp : xHp) : (xV k_So_sheet (l, d + 1, b, lo, gz, n0, s0, m_So_sheet, Po) 52 L (.int x3 :: .int x2 :: .int x1 :: .int x0 :: .ref a :: r) hp) = (xO hp a 4 ∧ xcs r 8 ∧ xMv l d b lo gz m_Land_lightAll [.ref a, .int x0, .int x1, .int x2, .int x3] hp (fun hp' => xV k_So_sheet (l, d + 1, b, lo, gz, n0, s0, m_So_sheet, Po) 55 L r hp')) := xVe _ _ _ _ _ _
theorem s_So_sheet_55 (C : xCx) (r : List Value) (hp : xHp) (x : Nat) (a1 a2 a3 a4 : Value) : (xV k_So_sheet C 55 [.ref x, a1, a2, a3, a4] r hp) = (True ∧ xV k_So_sheet C 56 [.ref x, a1, a2, a3, a4] (.ref x :: r) hp) := xVe _ _ _ _ _ _
theorem s_So_sheet_56 (a : Nat) (C : xCx) (L r : List Value) (hp : xHp) : (xV k_So_sheet C 56 L (.ref a :: r) hp) = (xF hp a 0 2 (fun v => xV k_So_sheet C 59 L (v :: r) hp)) := xVe _ _ _ _ _ _
theorem s_So_sheet_59 (a : Nat) (l : Launch) (d b lo gz n0 s0 : Nat) (Po : Option Value → xHp → Prop) (L r : List Value) (hp : xHp) : (xV k_So_sheet (l, d + 1, b, lo, gz, n0, s0, m_So_sheet, Po) 59 L (.ref a :: r) hp) = (xO hp a 4 ∧ xcs r 8 ∧ xMi l d b lo gz m_Land_lights [.ref a] hp (fun x hp' => xV k_So_sheet (l, d + 1, b, lo, gz, n0, s0, m_So_sheet, Po) 62 L (.int x :: r) hp')) := xVe _ _ _ _ _ _
theorem s_So_sheet_62 (v : Int32) (l : Launch) (d b lo gz n0 s0 : Nat) (Po : Option Value → xHp → Prop) (L : List Value) (hp : xHp) : (xV k_So_sheet (l, d, b, lo, gz, n0, s0, m_So_sheet, Po) 62 L [.int v] hp) = (Po (some (.int v)) hp) := xVe _ _ _ _ _ _
def k_So_within : List xEC := [
  (0, .iload_n 0, 1, 0, 0, 0, m_x),
  (1, .iload_n 1, 2, 0, 0, 0, m_x),
  (2, .if_icmp .ge 7, 5, 0, 9, 0, m_x),
  (5, .iload_n 1, 6, 0, 0, 0, m_x),
  (6, .goto 13, 9, 0, 19, 0, m_x),
  (9, .iload_n 0, 10, 0, 0, 0, m_x),
  (10, .iload_n 2, 11, 0, 0, 0, m_x),
  (11, .if_icmp .le 7, 14, 0, 18, 0, m_x),
  (14, .iload_n 2, 15, 0, 0, 0, m_x),
  (15, .goto 4, 18, 0, 19, 0, m_x),
  (18, .iload_n 0, 19, 0, 0, 0, m_x),
  (19, .ireturn, 20, 0, 0, 0, m_x)]
theorem dc_So_within : ∀ E ∈ k_So_within, xDc m_So_within E := by decide +kernel
set_option maxRecDepth 20000 in
theorem ok_So_within : ∀ E ∈ k_So_within, xOk m_So_within E := xok_of dc_So_within (xfc trivial (xfc trivial (xfc (show ((2 : Nat) : Int) + (7) = ((9 : Nat) : Int) from by decide) (xfc trivial (xfc (show ((6 : Nat) : Int) + (13) = ((19 : Nat) : Int) from by decide) (xfc trivial (xfc trivial (xfc (show ((11 : Nat) : Int) + (7) = ((18 : Nat) : Int) from by decide) (xfc trivial (xfc (show ((15 : Nat) : Int) + (4) = ((19 : Nat) : Int) from by decide) (xfc trivial (xfc trivial (xfn)))))))))))))
theorem s_So_within_0 (C : xCx) (r : List Value) (hp : xHp) (x : Int32) (a1 a2 : Value) : (xV k_So_within C 0 [.int x, a1, a2] r hp) = (xV k_So_within C 1 [.int x, a1, a2] (.int x :: r) hp) := xVe _ _ _ _ _ _
theorem s_So_within_1 (C : xCx) (r : List Value) (hp : xHp) (x : Int32) (a0 a2 : Value) : (xV k_So_within C 1 [a0, .int x, a2] r hp) = (xV k_So_within C 2 [a0, .int x, a2] (.int x :: r) hp) := xVe _ _ _ _ _ _
theorem s_So_within_2 (x y : Int32) (C : xCx) (L r : List Value) (hp : xHp) : (xV k_So_within C 2 L (.int y :: .int x :: r) hp) = (((y ≤ x → xV k_So_within C 9 L r hp) ∧ (¬ y ≤ x → xV k_So_within C 5 L r hp))) := xVe _ _ _ _ _ _
theorem s_So_within_5 (C : xCx) (r : List Value) (hp : xHp) (x : Int32) (a0 a2 : Value) : (xV k_So_within C 5 [a0, .int x, a2] r hp) = (xV k_So_within C 6 [a0, .int x, a2] (.int x :: r) hp) := xVe _ _ _ _ _ _
theorem s_So_within_6 (C : xCx) (L r : List Value) (hp : xHp) : (xV k_So_within C 6 L r hp) = (xV k_So_within C 19 L r hp) := xVe _ _ _ _ _ _
theorem s_So_within_9 (C : xCx) (r : List Value) (hp : xHp) (x : Int32) (a1 a2 : Value) : (xV k_So_within C 9 [.int x, a1, a2] r hp) = (xV k_So_within C 10 [.int x, a1, a2] (.int x :: r) hp) := xVe _ _ _ _ _ _
theorem s_So_within_10 (C : xCx) (r : List Value) (hp : xHp) (x : Int32) (a0 a1 : Value) : (xV k_So_within C 10 [a0, a1, .int x] r hp) = (xV k_So_within C 11 [a0, a1, .int x] (.int x :: r) hp) := xVe _ _ _ _ _ _
theorem s_So_within_11 (x y : Int32) (C : xCx) (L r : List Value) (hp : xHp) : (xV k_So_within C 11 L (.int y :: .int x :: r) hp) = (((x ≤ y → xV k_So_within C 18 L r hp) ∧ (¬ x ≤ y → xV k_So_within C 14 L r hp))) := xVe _ _ _ _ _ _
theorem s_So_within_14 (C : xCx) (r : List Value) (hp : xHp) (x : Int32) (a0 a1 : Value) : (xV k_So_within C 14 [a0, a1, .int x] r hp) = (xV k_So_within C 15 [a0, a1, .int x] (.int x :: r) hp) := xVe _ _ _ _ _ _
theorem s_So_within_15 (C : xCx) (L r : List Value) (hp : xHp) : (xV k_So_within C 15 L r hp) = (xV k_So_within C 19 L r hp) := xVe _ _ _ _ _ _
theorem s_So_within_18 (C : xCx) (r : List Value) (hp : xHp) (x : Int32) (a1 a2 : Value) : (xV k_So_within C 18 [.int x, a1, a2] r hp) = (xV k_So_within C 19 [.int x, a1, a2] (.int x :: r) hp) := xVe _ _ _ _ _ _
theorem s_So_within_19 (v : Int32) (l : Launch) (d b lo gz n0 s0 : Nat) (Po : Option Value → xHp → Prop) (L : List Value) (hp : xHp) : (xV k_So_within (l, d, b, lo, gz, n0, s0, m_So_within, Po) 19 L [.int v] hp) = (Po (some (.int v)) hp) := xVe _ _ _ _ _ _
theorem ml_So_215 : xLk "SunnyOnes" 215 m_Folk_copyFrom := Or.inl (wg3 34 (by decide +kernel) rfl)
theorem ml_So_218 : xLk "SunnyOnes" 218 m_Sun_dayBy := Or.inl (wg3 39 (by decide +kernel) rfl)
theorem ml_So_222 : xLk "SunnyOnes" 222 m_Past_push := Or.inl (wg3 87 (by decide +kernel) rfl)
theorem ml_So_225 : xLk "SunnyOnes" 225 m_Row_tell2 := Or.inl (wg3 96 (by decide +kernel) rfl)
theorem ml_So_229 : xLk "SunnyOnes" 229 m_Folk_ages := Or.inl (wg3 108 (by decide +kernel) rfl)
def k_So_days : List xEC := [
  (0, .iload_n 1, 1, 0, 0, 0, m_x),
  (1, .ifCond .lt 9, 4, 0, 10, 0, m_x),
  (4, .iload_n 1, 5, 0, 0, 0, m_x),
  (5, .bipush 60, 7, 0, 0, 0, m_x),
  (7, .if_icmp .le 5, 10, 0, 12, 0, m_x),
  (10, .iconst (-1), 11, 0, 0, 0, m_x),
  (11, .ireturn, 12, 0, 0, 0, m_x),
  (12, .aload_n 0, 13, 0, 0, 0, m_x),
  (13, .getfield 61, 16, 0, 8, 0, m_x),
  (16, .aload_n 0, 17, 0, 0, 0, m_x),
  (17, .getfield 54, 20, 0, 6, 0, m_x),
  (20, .invokevirtual 215, 23, 3, 0, 0, m_Folk_copyFrom),
  (23, .iconst 0, 24, 0, 0, 0, m_x),
  (24, .istore_n 2, 25, 0, 0, 0, m_x),
  (25, .iconst 0, 26, 0, 0, 0, m_x),
  (26, .istore_n 3, 27, 0, 0, 0, m_x),
  (27, .iconst 0, 28, 0, 0, 0, m_x),
  (28, .istore 4, 30, 0, 0, 0, m_x),
  (30, .iload 4, 32, 0, 0, 0, m_x),
  (32, .iload_n 1, 33, 0, 0, 0, m_x),
  (33, .if_icmp .ge 44, 36, 0, 77, 0, m_x),
  (36, .aload_n 0, 37, 0, 0, 0, m_x),
  (37, .getfield 47, 40, 0, 5, 0, m_x),
  (40, .aload_n 0, 41, 0, 0, 0, m_x),
  (41, .getfield 35, 44, 0, 3, 0, m_x),
  (44, .aload_n 0, 45, 0, 0, 0, m_x),
  (45, .getfield 54, 48, 0, 6, 0, m_x),
  (48, .invokevirtual 218, 51, 9, 0, 0, m_Sun_dayBy),
  (51, .istore 5, 53, 0, 0, 0, m_x),
  (53, .iload_n 2, 54, 0, 0, 0, m_x),
  (54, .iload 5, 56, 0, 0, 0, m_x),
  (56, .iadd, 57, 0, 0, 0, m_x),
  (57, .istore_n 2, 58, 0, 0, 0, m_x),
  (58, .iload_n 3, 59, 0, 0, 0, m_x),
  (59, .iload 5, 61, 0, 0, 0, m_x),
  (61, .ifCond .ne 7, 64, 0, 68, 0, m_x),
  (64, .iconst 1, 65, 0, 0, 0, m_x),
  (65, .goto 4, 68, 0, 69, 0, m_x),
  (68, .iconst 0, 69, 0, 0, 0, m_x),
  (69, .iadd, 70, 0, 0, 0, m_x),
  (70, .istore_n 3, 71, 0, 0, 0, m_x),
  (71, .iinc 4 1, 74, 0, 0, 0, m_x),
  (74, .goto (-44), 77, 0, 30, 0, m_x),
  (77, .iload_n 1, 78, 0, 0, 0, m_x),
  (78, .ifCond .le 14, 81, 0, 92, 0, m_x),
  (81, .aload_n 0, 82, 0, 0, 0, m_x),
  (82, .getfield 67, 85, 0, 9, 0, m_x),
  (85, .aload_n 0, 86, 0, 0, 0, m_x),
  (86, .getfield 61, 89, 0, 8, 0, m_x),
  (89, .invokevirtual 222, 92, 5, 0, 0, m_Past_push),
  (92, .aload_n 0, 93, 0, 0, 0, m_x),
  (93, .getfield 19, 96, 0, 1, 0, m_x),
  (96, .iload_n 2, 97, 0, 0, 0, m_x),
  (97, .i2l, 98, 0, 0, 0, m_x),
  (98, .iload_n 3, 99, 0, 0, 0, m_x),
  (99, .i2l, 100, 0, 0, 0, m_x),
  (100, .invokevirtual 225, 103, 7, 0, 0, m_Row_tell2),
  (103, .aload_n 0, 104, 0, 0, 0, m_x),
  (104, .getfield 54, 107, 0, 6, 0, m_x),
  (107, .invokevirtual 229, 110, 3, 0, 0, m_Folk_ages),
  (110, .ireturn, 111, 0, 0, 0, m_x)]
theorem dc_So_days : ∀ E ∈ k_So_days, xDc m_So_days E := by decide +kernel
set_option maxRecDepth 20000 in
theorem ok_So_days : ∀ E ∈ k_So_days, xOk m_So_days E := xok_of dc_So_days (xfc trivial (xfc (show ((1 : Nat) : Int) + (9) = ((10 : Nat) : Int) from by decide) (xfc trivial (xfc trivial (xfc (show ((7 : Nat) : Int) + (5) = ((12 : Nat) : Int) from by decide) (xfc trivial (xfc trivial (xfc trivial (xfc fl_So_61 (xfc trivial (xfc fl_So_54 (xfc ⟨ml_So_215, kd_Folk_copyFrom⟩ (xfc trivial (xfc trivial (xfc trivial (xfc trivial (xfc trivial (xfc trivial (xfc trivial (xfc trivial (xfc (show ((33 : Nat) : Int) + (44) = ((77 : Nat) : Int) from by decide) (xfc trivial (xfc fl_So_47 (xfc trivial (xfc fl_So_35 (xfc trivial (xfc fl_So_54 (xfc ⟨ml_So_218, kd_Sun_dayBy⟩ (xfc trivial (xfc trivial (xfc trivial (xfc trivial (xfc trivial (xfc trivial (xfc trivial (xfc (show ((61 : Nat) : Int) + (7) = ((68 : Nat) : Int) from by decide) (xfc trivial (xfc (show ((65 : Nat) : Int) + (4) = ((69 : Nat) : Int) from by decide) (xfc trivial (xfc trivial (xfc trivial (xfc trivial (xfc (show ((74 : Nat) : Int) + (-44) = ((30 : Nat) : Int) from by decide) (xfc trivial (xfc (show ((78 : Nat) : Int) + (14) = ((92 : Nat) : Int) from by decide) (xfc trivial (xfc fl_So_67 (xfc trivial (xfc fl_So_61 (xfc ⟨ml_So_222, kd_Past_push⟩ (xfc trivial (xfc fl_So_19 (xfc trivial (xfc trivial (xfc trivial (xfc trivial (xfc ⟨ml_So_225, kd_Row_tell2⟩ (xfc trivial (xfc fl_So_54 (xfc ⟨ml_So_229, kd_Folk_ages⟩ (xfc trivial (xfn))))))))))))))))))))))))))))))))))))))))))))))))))))))))))))))
theorem s_So_days_0 (C : xCx) (r : List Value) (hp : xHp) (x : Int32) (a0 a2 a3 a4 a5 : Value) : (xV k_So_days C 0 [a0, .int x, a2, a3, a4, a5] r hp) = (xV k_So_days C 1 [a0, .int x, a2, a3, a4, a5] (.int x :: r) hp) := xVe _ _ _ _ _ _
theorem s_So_days_1 (x : Int32) (C : xCx) (L r : List Value) (hp : xHp) : (xV k_So_days C 1 L (.int x :: r) hp) = (((x < 0 → xV k_So_days C 10 L r hp) ∧ (¬ x < 0 → xV k_So_days C 4 L r hp))) := xVe _ _ _ _ _ _
theorem s_So_days_4 (C : xCx) (r : List Value) (hp : xHp) (x : Int32) (a0 a2 a3 a4 a5 : Value) : (xV k_So_days C 4 [a0, .int x, a2, a3, a4, a5] r hp) = (xV k_So_days C 5 [a0, .int x, a2, a3, a4, a5] (.int x :: r) hp) := xVe _ _ _ _ _ _
theorem s_So_days_5  (C : xCx) (L r : List Value) (hp : xHp) : (xV k_So_days C 5 L (r) hp) = (xV k_So_days C 7 L (.int (60) :: r) hp) := xVe _ _ _ _ _ _
theorem s_So_days_7 (x y : Int32) (C : xCx) (L r : List Value) (hp : xHp) : (xV k_So_days C 7 L (.int y :: .int x :: r) hp) = (((x ≤ y → xV k_So_days C 12 L r hp) ∧ (¬ x ≤ y → xV k_So_days C 10 L r hp))) := xVe _ _ _ _ _ _
theorem s_So_days_10  (C : xCx) (L r : List Value) (hp : xHp) : (xV k_So_days C 10 L (r) hp) = (xV k_So_days C 11 L (.int (-1) :: r) hp) := xVe _ _ _ _ _ _
theorem s_So_days_11 (v : Int32) (l : Launch) (d b lo gz n0 s0 : Nat) (Po : Option Value → xHp → Prop) (L : List Value) (hp : xHp) : (xV k_So_days (l, d, b, lo, gz, n0, s0, m_So_days, Po) 11 L [.int v] hp) = (Po (some (.int v)) hp) := xVe _ _ _ _ _ _
theorem s_So_days_12 (C : xCx) (r : List Value) (hp : xHp) (x : Nat) (a1 a2 a3 a4 a5 : Value) : (xV k_So_days C 12 [.ref x, a1, a2, a3, a4, a5] r hp) = (True ∧ xV k_So_days C 13 [.ref x, a1, a2, a3, a4, a5] (.ref x :: r) hp) := xVe _ _ _ _ _ _
theorem s_So_days_13 (a : Nat) (C : xCx) (L r : List Value) (hp : xHp) : (xV k_So_days C 13 L (.ref a :: r) hp) = (xF hp a 0 8 (fun v => xV k_So_days C 16 L (v :: r) hp)) := xVe _ _ _ _ _ _
theorem s_So_days_16 (C : xCx) (r : List Value) (hp : xHp) (x : Nat) (a1 a2 a3 a4 a5 : Value) : (xV k_So_days C 16 [.ref x, a1, a2, a3, a4, a5] r hp) = (True ∧ xV k_So_days C 17 [.ref x, a1, a2, a3, a4, a5] (.ref x :: r) hp) := xVe _ _ _ _ _ _
theorem s_So_days_17 (a : Nat) (C : xCx) (L r : List Value) (hp : xHp) : (xV k_So_days C 17 L (.ref a :: r) hp) = (xF hp a 0 6 (fun v => xV k_So_days C 20 L (v :: r) hp)) := xVe _ _ _ _ _ _
theorem s_So_days_20 (x0 : Nat) (a : Nat) (l : Launch) (d b lo gz n0 s0 : Nat) (Po : Option Value → xHp → Prop) (L r : List Value) (hp : xHp) : (xV k_So_days (l, d + 1, b, lo, gz, n0, s0, m_So_days, Po) 20 L (.ref x0 :: .ref a :: r) hp) = (xO hp a 3 ∧ xcs r 8 ∧ xMv l d b lo gz m_Folk_copyFrom [.ref a, .ref x0] hp (fun hp' => xV k_So_days (l, d + 1, b, lo, gz, n0, s0, m_So_days, Po) 23 L r hp')) := xVe _ _ _ _ _ _
theorem s_So_days_23  (C : xCx) (L r : List Value) (hp : xHp) : (xV k_So_days C 23 L (r) hp) = (xV k_So_days C 24 L (.int (0) :: r) hp) := xVe _ _ _ _ _ _
theorem s_So_days_24 (C : xCx) (r : List Value) (hp : xHp) (x : Int32) (a0 a1 a2 a3 a4 a5 : Value) : (xV k_So_days C 24 [a0, a1, a2, a3, a4, a5] (.int x :: r) hp) = (2 < 6 ∧ xNl [a0, a1, a2, a3, a4, a5] 2 ∧ xV k_So_days C 25 [a0, a1, .int x, a3, a4, a5] r hp) := xVe _ _ _ _ _ _
theorem s_So_days_25  (C : xCx) (L r : List Value) (hp : xHp) : (xV k_So_days C 25 L (r) hp) = (xV k_So_days C 26 L (.int (0) :: r) hp) := xVe _ _ _ _ _ _
theorem s_So_days_26 (C : xCx) (r : List Value) (hp : xHp) (x : Int32) (a0 a1 a2 a3 a4 a5 : Value) : (xV k_So_days C 26 [a0, a1, a2, a3, a4, a5] (.int x :: r) hp) = (3 < 6 ∧ xNl [a0, a1, a2, a3, a4, a5] 3 ∧ xV k_So_days C 27 [a0, a1, a2, .int x, a4, a5] r hp) := xVe _ _ _ _ _ _
theorem s_So_days_27  (C : xCx) (L r : List Value) (hp : xHp) : (xV k_So_days C 27 L (r) hp) = (xV k_So_days C 28 L (.int (0) :: r) hp) := xVe _ _ _ _ _ _
theorem s_So_days_28 (C : xCx) (r : List Value) (hp : xHp) (x : Int32) (a0 a1 a2 a3 a4 a5 : Value) : (xV k_So_days C 28 [a0, a1, a2, a3, a4, a5] (.int x :: r) hp) = (4 < 6 ∧ xNl [a0, a1, a2, a3, a4, a5] 4 ∧ xV k_So_days C 30 [a0, a1, a2, a3, .int x, a5] r hp) := xVe _ _ _ _ _ _
theorem s_So_days_30 (C : xCx) (r : List Value) (hp : xHp) (x : Int32) (a0 a1 a2 a3 a5 : Value) : (xV k_So_days C 30 [a0, a1, a2, a3, .int x, a5] r hp) = (xV k_So_days C 32 [a0, a1, a2, a3, .int x, a5] (.int x :: r) hp) := xVe _ _ _ _ _ _
theorem s_So_days_32 (C : xCx) (r : List Value) (hp : xHp) (x : Int32) (a0 a2 a3 a4 a5 : Value) : (xV k_So_days C 32 [a0, .int x, a2, a3, a4, a5] r hp) = (xV k_So_days C 33 [a0, .int x, a2, a3, a4, a5] (.int x :: r) hp) := xVe _ _ _ _ _ _
theorem s_So_days_33 (x y : Int32) (C : xCx) (L r : List Value) (hp : xHp) : (xV k_So_days C 33 L (.int y :: .int x :: r) hp) = (((y ≤ x → xV k_So_days C 77 L r hp) ∧ (¬ y ≤ x → xV k_So_days C 36 L r hp))) := xVe _ _ _ _ _ _
theorem s_So_days_36 (C : xCx) (r : List Value) (hp : xHp) (x : Nat) (a1 a2 a3 a4 a5 : Value) : (xV k_So_days C 36 [.ref x, a1, a2, a3, a4, a5] r hp) = (True ∧ xV k_So_days C 37 [.ref x, a1, a2, a3, a4, a5] (.ref x :: r) hp) := xVe _ _ _ _ _ _
theorem s_So_days_37 (a : Nat) (C : xCx) (L r : List Value) (hp : xHp) : (xV k_So_days C 37 L (.ref a :: r) hp) = (xF hp a 0 5 (fun v => xV k_So_days C 40 L (v :: r) hp)) := xVe _ _ _ _ _ _
theorem s_So_days_40 (C : xCx) (r : List Value) (hp : xHp) (x : Nat) (a1 a2 a3 a4 a5 : Value) : (xV k_So_days C 40 [.ref x, a1, a2, a3, a4, a5] r hp) = (True ∧ xV k_So_days C 41 [.ref x, a1, a2, a3, a4, a5] (.ref x :: r) hp) := xVe _ _ _ _ _ _
theorem s_So_days_41 (a : Nat) (C : xCx) (L r : List Value) (hp : xHp) : (xV k_So_days C 41 L (.ref a :: r) hp) = (xF hp a 0 3 (fun v => xV k_So_days C 44 L (v :: r) hp)) := xVe _ _ _ _ _ _
theorem s_So_days_44 (C : xCx) (r : List Value) (hp : xHp) (x : Nat) (a1 a2 a3 a4 a5 : Value) : (xV k_So_days C 44 [.ref x, a1, a2, a3, a4, a5] r hp) = (True ∧ xV k_So_days C 45 [.ref x, a1, a2, a3, a4, a5] (.ref x :: r) hp) := xVe _ _ _ _ _ _
theorem s_So_days_45 (a : Nat) (C : xCx) (L r : List Value) (hp : xHp) : (xV k_So_days C 45 L (.ref a :: r) hp) = (xF hp a 0 6 (fun v => xV k_So_days C 48 L (v :: r) hp)) := xVe _ _ _ _ _ _
theorem s_So_days_48 (x0 : Nat) (x1 : Nat) (a : Nat) (l : Launch) (d b lo gz n0 s0 : Nat) (Po : Option Value → xHp → Prop) (L r : List Value) (hp : xHp) : (xV k_So_days (l, d + 1, b, lo, gz, n0, s0, m_So_days, Po) 48 L (.ref x1 :: .ref x0 :: .ref a :: r) hp) = (xO hp a 9 ∧ xcs r 8 ∧ xMi l d b lo gz m_Sun_dayBy [.ref a, .ref x0, .ref x1] hp (fun x hp' => xV k_So_days (l, d + 1, b, lo, gz, n0, s0, m_So_days, Po) 51 L (.int x :: r) hp')) := xVe _ _ _ _ _ _
theorem s_So_days_51 (C : xCx) (r : List Value) (hp : xHp) (x : Int32) (a0 a1 a2 a3 a4 a5 : Value) : (xV k_So_days C 51 [a0, a1, a2, a3, a4, a5] (.int x :: r) hp) = (5 < 6 ∧ xNl [a0, a1, a2, a3, a4, a5] 5 ∧ xV k_So_days C 53 [a0, a1, a2, a3, a4, .int x] r hp) := xVe _ _ _ _ _ _
theorem s_So_days_53 (C : xCx) (r : List Value) (hp : xHp) (x : Int32) (a0 a1 a3 a4 a5 : Value) : (xV k_So_days C 53 [a0, a1, .int x, a3, a4, a5] r hp) = (xV k_So_days C 54 [a0, a1, .int x, a3, a4, a5] (.int x :: r) hp) := xVe _ _ _ _ _ _
theorem s_So_days_54 (C : xCx) (r : List Value) (hp : xHp) (x : Int32) (a0 a1 a2 a3 a4 : Value) : (xV k_So_days C 54 [a0, a1, a2, a3, a4, .int x] r hp) = (xV k_So_days C 56 [a0, a1, a2, a3, a4, .int x] (.int x :: r) hp) := xVe _ _ _ _ _ _
theorem s_So_days_56 (x y : Int32) (C : xCx) (L r : List Value) (hp : xHp) : (xV k_So_days C 56 L (.int y :: .int x :: r) hp) = (xV k_So_days C 57 L (.int (x + y) :: r) hp) := xVe _ _ _ _ _ _
theorem s_So_days_57 (C : xCx) (r : List Value) (hp : xHp) (x : Int32) (a0 a1 a2 a3 a4 a5 : Value) : (xV k_So_days C 57 [a0, a1, a2, a3, a4, a5] (.int x :: r) hp) = (2 < 6 ∧ xNl [a0, a1, a2, a3, a4, a5] 2 ∧ xV k_So_days C 58 [a0, a1, .int x, a3, a4, a5] r hp) := xVe _ _ _ _ _ _
theorem s_So_days_58 (C : xCx) (r : List Value) (hp : xHp) (x : Int32) (a0 a1 a2 a4 a5 : Value) : (xV k_So_days C 58 [a0, a1, a2, .int x, a4, a5] r hp) = (xV k_So_days C 59 [a0, a1, a2, .int x, a4, a5] (.int x :: r) hp) := xVe _ _ _ _ _ _
theorem s_So_days_59 (C : xCx) (r : List Value) (hp : xHp) (x : Int32) (a0 a1 a2 a3 a4 : Value) : (xV k_So_days C 59 [a0, a1, a2, a3, a4, .int x] r hp) = (xV k_So_days C 61 [a0, a1, a2, a3, a4, .int x] (.int x :: r) hp) := xVe _ _ _ _ _ _
theorem s_So_days_61 (x : Int32) (C : xCx) (L r : List Value) (hp : xHp) : (xV k_So_days C 61 L (.int x :: r) hp) = (((¬ x = 0 → xV k_So_days C 68 L r hp) ∧ (x = 0 → xV k_So_days C 64 L r hp))) := xVe _ _ _ _ _ _
theorem s_So_days_64  (C : xCx) (L r : List Value) (hp : xHp) : (xV k_So_days C 64 L (r) hp) = (xV k_So_days C 65 L (.int (1) :: r) hp) := xVe _ _ _ _ _ _
theorem s_So_days_65 (C : xCx) (L r : List Value) (hp : xHp) : (xV k_So_days C 65 L r hp) = (xV k_So_days C 69 L r hp) := xVe _ _ _ _ _ _
theorem s_So_days_68  (C : xCx) (L r : List Value) (hp : xHp) : (xV k_So_days C 68 L (r) hp) = (xV k_So_days C 69 L (.int (0) :: r) hp) := xVe _ _ _ _ _ _
theorem s_So_days_69 (x y : Int32) (C : xCx) (L r : List Value) (hp : xHp) : (xV k_So_days C 69 L (.int y :: .int x :: r) hp) = (xV k_So_days C 70 L (.int (x + y) :: r) hp) := xVe _ _ _ _ _ _
theorem s_So_days_70 (C : xCx) (r : List Value) (hp : xHp) (x : Int32) (a0 a1 a2 a3 a4 a5 : Value) : (xV k_So_days C 70 [a0, a1, a2, a3, a4, a5] (.int x :: r) hp) = (3 < 6 ∧ xNl [a0, a1, a2, a3, a4, a5] 3 ∧ xV k_So_days C 71 [a0, a1, a2, .int x, a4, a5] r hp) := xVe _ _ _ _ _ _
theorem s_So_days_71 (C : xCx) (r : List Value) (hp : xHp) (x : Int32) (a0 a1 a2 a3 a5 : Value) : (xV k_So_days C 71 [a0, a1, a2, a3, .int x, a5] r hp) = (xNl [a0, a1, a2, a3, .int x, a5] 4 ∧ xV k_So_days C 74 [a0, a1, a2, a3, .int (x + (1)), a5] r hp) := xVe _ _ _ _ _ _
theorem s_So_days_74 (C : xCx) (L r : List Value) (hp : xHp) : (xV k_So_days C 74 L r hp) = (xV k_So_days C 30 L r hp) := xVe _ _ _ _ _ _
theorem s_So_days_77 (C : xCx) (r : List Value) (hp : xHp) (x : Int32) (a0 a2 a3 a4 a5 : Value) : (xV k_So_days C 77 [a0, .int x, a2, a3, a4, a5] r hp) = (xV k_So_days C 78 [a0, .int x, a2, a3, a4, a5] (.int x :: r) hp) := xVe _ _ _ _ _ _
theorem s_So_days_78 (x : Int32) (C : xCx) (L r : List Value) (hp : xHp) : (xV k_So_days C 78 L (.int x :: r) hp) = (((x ≤ 0 → xV k_So_days C 92 L r hp) ∧ (¬ x ≤ 0 → xV k_So_days C 81 L r hp))) := xVe _ _ _ _ _ _
theorem s_So_days_81 (C : xCx) (r : List Value) (hp : xHp) (x : Nat) (a1 a2 a3 a4 a5 : Value) : (xV k_So_days C 81 [.ref x, a1, a2, a3, a4, a5] r hp) = (True ∧ xV k_So_days C 82 [.ref x, a1, a2, a3, a4, a5] (.ref x :: r) hp) := xVe _ _ _ _ _ _
theorem s_So_days_82 (a : Nat) (C : xCx) (L r : List Value) (hp : xHp) : (xV k_So_days C 82 L (.ref a :: r) hp) = (xF hp a 0 9 (fun v => xV k_So_days C 85 L (v :: r) hp)) := xVe _ _ _ _ _ _
theorem s_So_days_85 (C : xCx) (r : List Value) (hp : xHp) (x : Nat) (a1 a2 a3 a4 a5 : Value) : (xV k_So_days C 85 [.ref x, a1, a2, a3, a4, a5] r hp) = (True ∧ xV k_So_days C 86 [.ref x, a1, a2, a3, a4, a5] (.ref x :: r) hp) := xVe _ _ _ _ _ _
theorem s_So_days_86 (a : Nat) (C : xCx) (L r : List Value) (hp : xHp) : (xV k_So_days C 86 L (.ref a :: r) hp) = (xF hp a 0 8 (fun v => xV k_So_days C 89 L (v :: r) hp)) := xVe _ _ _ _ _ _
theorem s_So_days_89 (x0 : Nat) (a : Nat) (l : Launch) (d b lo gz n0 s0 : Nat) (Po : Option Value → xHp → Prop) (L r : List Value) (hp : xHp) : (xV k_So_days (l, d + 1, b, lo, gz, n0, s0, m_So_days, Po) 89 L (.ref x0 :: .ref a :: r) hp) = (xO hp a 5 ∧ xcs r 8 ∧ xMv l d b lo gz m_Past_push [.ref a, .ref x0] hp (fun hp' => xV k_So_days (l, d + 1, b, lo, gz, n0, s0, m_So_days, Po) 92 L r hp')) := xVe _ _ _ _ _ _
theorem s_So_days_92 (C : xCx) (r : List Value) (hp : xHp) (x : Nat) (a1 a2 a3 a4 a5 : Value) : (xV k_So_days C 92 [.ref x, a1, a2, a3, a4, a5] r hp) = (True ∧ xV k_So_days C 93 [.ref x, a1, a2, a3, a4, a5] (.ref x :: r) hp) := xVe _ _ _ _ _ _
theorem s_So_days_93 (a : Nat) (C : xCx) (L r : List Value) (hp : xHp) : (xV k_So_days C 93 L (.ref a :: r) hp) = (xF hp a 0 1 (fun v => xV k_So_days C 96 L (v :: r) hp)) := xVe _ _ _ _ _ _
theorem s_So_days_96 (C : xCx) (r : List Value) (hp : xHp) (x : Int32) (a0 a1 a3 a4 a5 : Value) : (xV k_So_days C 96 [a0, a1, .int x, a3, a4, a5] r hp) = (xV k_So_days C 97 [a0, a1, .int x, a3, a4, a5] (.int x :: r) hp) := xVe _ _ _ _ _ _
theorem s_So_days_97 (x : Int32) (C : xCx) (L r : List Value) (hp : xHp) : (xV k_So_days C 97 L (.int x :: r) hp) = (xV k_So_days C 98 L (.long x.toInt64 :: r) hp) := xVe _ _ _ _ _ _
theorem s_So_days_98 (C : xCx) (r : List Value) (hp : xHp) (x : Int32) (a0 a1 a2 a4 a5 : Value) : (xV k_So_days C 98 [a0, a1, a2, .int x, a4, a5] r hp) = (xV k_So_days C 99 [a0, a1, a2, .int x, a4, a5] (.int x :: r) hp) := xVe _ _ _ _ _ _
theorem s_So_days_99 (x : Int32) (C : xCx) (L r : List Value) (hp : xHp) : (xV k_So_days C 99 L (.int x :: r) hp) = (xV k_So_days C 100 L (.long x.toInt64 :: r) hp) := xVe _ _ _ _ _ _
theorem s_So_days_100 (x0 : Int64) (x1 : Int64) (a : Nat) (l : Launch) (d b lo gz n0 s0 : Nat) (Po : Option Value → xHp → Prop) (L r : List Value) (hp : xHp) : (xV k_So_days (l, d + 1, b, lo, gz, n0, s0, m_So_days, Po) 100 L (.long x1 :: .long x0 :: .ref a :: r) hp) = (xO hp a 7 ∧ xcs r 8 ∧ xMv l d b lo gz m_Row_tell2 [.ref a, .long x0, .long x1] hp (fun hp' => xV k_So_days (l, d + 1, b, lo, gz, n0, s0, m_So_days, Po) 103 L r hp')) := xVe _ _ _ _ _ _
theorem s_So_days_103 (C : xCx) (r : List Value) (hp : xHp) (x : Nat) (a1 a2 a3 a4 a5 : Value) : (xV k_So_days C 103 [.ref x, a1, a2, a3, a4, a5] r hp) = (True ∧ xV k_So_days C 104 [.ref x, a1, a2, a3, a4, a5] (.ref x :: r) hp) := xVe _ _ _ _ _ _
theorem s_So_days_104 (a : Nat) (C : xCx) (L r : List Value) (hp : xHp) : (xV k_So_days C 104 L (.ref a :: r) hp) = (xF hp a 0 6 (fun v => xV k_So_days C 107 L (v :: r) hp)) := xVe _ _ _ _ _ _
theorem s_So_days_107 (a : Nat) (l : Launch) (d b lo gz n0 s0 : Nat) (Po : Option Value → xHp → Prop) (L r : List Value) (hp : xHp) : (xV k_So_days (l, d + 1, b, lo, gz, n0, s0, m_So_days, Po) 107 L (.ref a :: r) hp) = (xO hp a 3 ∧ xcs r 8 ∧ xMi l d b lo gz m_Folk_ages [.ref a] hp (fun x hp' => xV k_So_days (l, d + 1, b, lo, gz, n0, s0, m_So_days, Po) 110 L (.int x :: r) hp')) := xVe _ _ _ _ _ _
theorem s_So_days_110 (v : Int32) (l : Launch) (d b lo gz n0 s0 : Nat) (Po : Option Value → xHp → Prop) (L : List Value) (hp : xHp) : (xV k_So_days (l, d, b, lo, gz, n0, s0, m_So_days, Po) 110 L [.int v] hp) = (Po (some (.int v)) hp) := xVe _ _ _ _ _ _
theorem ml_So_232 : xLk "SunnyOnes" 232 m_So_goTo := Or.inl (wg3 116 (by decide +kernel) rfl)
theorem ml_So_236 : xLk "SunnyOnes" 236 m_So_done := Or.inl (wg3 133 (by decide +kernel) rfl)
def k_So_moves : List xEC := [
  (0, .aload_n 0, 1, 0, 0, 0, m_x),
  (1, .getfield 61, 4, 0, 8, 0, m_x),
  (4, .aload_n 0, 5, 0, 0, 0, m_x),
  (5, .getfield 54, 8, 0, 6, 0, m_x),
  (8, .invokevirtual 215, 11, 3, 0, 0, m_Folk_copyFrom),
  (11, .aload_n 0, 12, 0, 0, 0, m_x),
  (12, .aload_n 0, 13, 0, 0, 0, m_x),
  (13, .aload_n 0, 14, 0, 0, 0, m_x),
  (14, .getfield 54, 17, 0, 6, 0, m_x),
  (17, .iload_n 1, 18, 0, 0, 0, m_x),
  (18, .iload_n 2, 19, 0, 0, 0, m_x),
  (19, .invokevirtual 232, 22, 0, 0, 0, m_So_goTo),
  (22, .invokevirtual 236, 25, 0, 0, 0, m_So_done),
  (25, .ireturn, 26, 0, 0, 0, m_x)]
theorem dc_So_moves : ∀ E ∈ k_So_moves, xDc m_So_moves E := by decide +kernel
set_option maxRecDepth 20000 in
theorem ok_So_moves : ∀ E ∈ k_So_moves, xOk m_So_moves E := xok_of dc_So_moves (xfc trivial (xfc fl_So_61 (xfc trivial (xfc fl_So_54 (xfc ⟨ml_So_215, kd_Folk_copyFrom⟩ (xfc trivial (xfc trivial (xfc trivial (xfc fl_So_54 (xfc trivial (xfc trivial (xfc ⟨ml_So_232, kd_So_goTo⟩ (xfc ⟨ml_So_236, kd_So_done⟩ (xfc trivial (xfn)))))))))))))))
theorem s_So_moves_0 (C : xCx) (r : List Value) (hp : xHp) (x : Nat) (a1 a2 : Value) : (xV k_So_moves C 0 [.ref x, a1, a2] r hp) = (True ∧ xV k_So_moves C 1 [.ref x, a1, a2] (.ref x :: r) hp) := xVe _ _ _ _ _ _
theorem s_So_moves_1 (a : Nat) (C : xCx) (L r : List Value) (hp : xHp) : (xV k_So_moves C 1 L (.ref a :: r) hp) = (xF hp a 0 8 (fun v => xV k_So_moves C 4 L (v :: r) hp)) := xVe _ _ _ _ _ _
theorem s_So_moves_4 (C : xCx) (r : List Value) (hp : xHp) (x : Nat) (a1 a2 : Value) : (xV k_So_moves C 4 [.ref x, a1, a2] r hp) = (True ∧ xV k_So_moves C 5 [.ref x, a1, a2] (.ref x :: r) hp) := xVe _ _ _ _ _ _
theorem s_So_moves_5 (a : Nat) (C : xCx) (L r : List Value) (hp : xHp) : (xV k_So_moves C 5 L (.ref a :: r) hp) = (xF hp a 0 6 (fun v => xV k_So_moves C 8 L (v :: r) hp)) := xVe _ _ _ _ _ _
theorem s_So_moves_8 (x0 : Nat) (a : Nat) (l : Launch) (d b lo gz n0 s0 : Nat) (Po : Option Value → xHp → Prop) (L r : List Value) (hp : xHp) : (xV k_So_moves (l, d + 1, b, lo, gz, n0, s0, m_So_moves, Po) 8 L (.ref x0 :: .ref a :: r) hp) = (xO hp a 3 ∧ xcs r 8 ∧ xMv l d b lo gz m_Folk_copyFrom [.ref a, .ref x0] hp (fun hp' => xV k_So_moves (l, d + 1, b, lo, gz, n0, s0, m_So_moves, Po) 11 L r hp')) := xVe _ _ _ _ _ _
theorem s_So_moves_11 (C : xCx) (r : List Value) (hp : xHp) (x : Nat) (a1 a2 : Value) : (xV k_So_moves C 11 [.ref x, a1, a2] r hp) = (True ∧ xV k_So_moves C 12 [.ref x, a1, a2] (.ref x :: r) hp) := xVe _ _ _ _ _ _
theorem s_So_moves_12 (C : xCx) (r : List Value) (hp : xHp) (x : Nat) (a1 a2 : Value) : (xV k_So_moves C 12 [.ref x, a1, a2] r hp) = (True ∧ xV k_So_moves C 13 [.ref x, a1, a2] (.ref x :: r) hp) := xVe _ _ _ _ _ _
theorem s_So_moves_13 (C : xCx) (r : List Value) (hp : xHp) (x : Nat) (a1 a2 : Value) : (xV k_So_moves C 13 [.ref x, a1, a2] r hp) = (True ∧ xV k_So_moves C 14 [.ref x, a1, a2] (.ref x :: r) hp) := xVe _ _ _ _ _ _
theorem s_So_moves_14 (a : Nat) (C : xCx) (L r : List Value) (hp : xHp) : (xV k_So_moves C 14 L (.ref a :: r) hp) = (xF hp a 0 6 (fun v => xV k_So_moves C 17 L (v :: r) hp)) := xVe _ _ _ _ _ _
theorem s_So_moves_17 (C : xCx) (r : List Value) (hp : xHp) (x : Int32) (a0 a2 : Value) : (xV k_So_moves C 17 [a0, .int x, a2] r hp) = (xV k_So_moves C 18 [a0, .int x, a2] (.int x :: r) hp) := xVe _ _ _ _ _ _
theorem s_So_moves_18 (C : xCx) (r : List Value) (hp : xHp) (x : Int32) (a0 a1 : Value) : (xV k_So_moves C 18 [a0, a1, .int x] r hp) = (xV k_So_moves C 19 [a0, a1, .int x] (.int x :: r) hp) := xVe _ _ _ _ _ _
theorem s_So_moves_19 (x0 : Nat) (x1 : Int32) (x2 : Int32) (a : Nat) (l : Launch) (d b lo gz n0 s0 : Nat) (Po : Option Value → xHp → Prop) (L r : List Value) (hp : xHp) : (xV k_So_moves (l, d + 1, b, lo, gz, n0, s0, m_So_moves, Po) 19 L (.int x2 :: .int x1 :: .ref x0 :: .ref a :: r) hp) = (xO hp a 0 ∧ xcs r 8 ∧ xMi l d b lo gz m_So_goTo [.ref a, .ref x0, .int x1, .int x2] hp (fun x hp' => xV k_So_moves (l, d + 1, b, lo, gz, n0, s0, m_So_moves, Po) 22 L (.int x :: r) hp')) := xVe _ _ _ _ _ _
theorem s_So_moves_22 (x0 : Int32) (a : Nat) (l : Launch) (d b lo gz n0 s0 : Nat) (Po : Option Value → xHp → Prop) (L r : List Value) (hp : xHp) : (xV k_So_moves (l, d + 1, b, lo, gz, n0, s0, m_So_moves, Po) 22 L (.int x0 :: .ref a :: r) hp) = (xO hp a 0 ∧ xcs r 8 ∧ xMi l d b lo gz m_So_done [.ref a, .int x0] hp (fun x hp' => xV k_So_moves (l, d + 1, b, lo, gz, n0, s0, m_So_moves, Po) 25 L (.int x :: r) hp')) := xVe _ _ _ _ _ _
theorem s_So_moves_25 (v : Int32) (l : Launch) (d b lo gz n0 s0 : Nat) (Po : Option Value → xHp → Prop) (L : List Value) (hp : xHp) : (xV k_So_moves (l, d, b, lo, gz, n0, s0, m_So_moves, Po) 25 L [.int v] hp) = (Po (some (.int v)) hp) := xVe _ _ _ _ _ _
theorem ml_So_179 : xLk "SunnyOnes" 179 m_So_has := Or.inl (wg3 120 (by decide +kernel) rfl)
theorem ml_So_198 : xLk "SunnyOnes" 198 m_Land_has := Or.inl (wg3 124 (by decide +kernel) rfl)
theorem ml_So_188 : xLk "SunnyOnes" 188 m_Folk_spot := Or.inl (wg3 128 (by decide +kernel) rfl)
theorem ml_So_267 : xLk "SunnyOnes" 267 m_Folk_setSpot := Or.inl (wg3 129 (by decide +kernel) rfl)
def k_So_goTo : List xEC := [
  (0, .aload_n 0, 1, 0, 0, 0, m_x),
  (1, .iload_n 2, 2, 0, 0, 0, m_x),
  (2, .invokevirtual 179, 5, 0, 0, 0, m_So_has),
  (5, .ifCond .eq 14, 8, 0, 19, 0, m_x),
  (8, .aload_n 0, 9, 0, 0, 0, m_x),
  (9, .getfield 26, 12, 0, 2, 0, m_x),
  (12, .iload_n 3, 13, 0, 0, 0, m_x),
  (13, .invokevirtual 198, 16, 4, 0, 0, m_Land_has),
  (16, .ifCond .ne 5, 19, 0, 21, 0, m_x),
  (19, .iconst (-1), 20, 0, 0, 0, m_x),
  (20, .ireturn, 21, 0, 0, 0, m_x),
  (21, .aload_n 1, 22, 0, 0, 0, m_x),
  (22, .iload_n 2, 23, 0, 0, 0, m_x),
  (23, .invokevirtual 188, 26, 3, 0, 0, m_Folk_spot),
  (26, .istore 4, 28, 0, 0, 0, m_x),
  (28, .iload 4, 30, 0, 0, 0, m_x),
  (30, .iload_n 3, 31, 0, 0, 0, m_x),
  (31, .if_icmp .ne 6, 34, 0, 37, 0, m_x),
  (34, .bipush (-2), 36, 0, 0, 0, m_x),
  (36, .ireturn, 37, 0, 0, 0, m_x),
  (37, .aload_n 1, 38, 0, 0, 0, m_x),
  (38, .iload_n 2, 39, 0, 0, 0, m_x),
  (39, .iload_n 3, 40, 0, 0, 0, m_x),
  (40, .invokevirtual 267, 43, 3, 0, 0, m_Folk_setSpot),
  (43, .bipush 10, 45, 0, 0, 0, m_x),
  (45, .iload 4, 47, 0, 0, 0, m_x),
  (47, .iadd, 48, 0, 0, 0, m_x),
  (48, .ireturn, 49, 0, 0, 0, m_x)]
theorem dc_So_goTo : ∀ E ∈ k_So_goTo, xDc m_So_goTo E := by decide +kernel
set_option maxRecDepth 20000 in
theorem ok_So_goTo : ∀ E ∈ k_So_goTo, xOk m_So_goTo E := xok_of dc_So_goTo (xfc trivial (xfc trivial (xfc ⟨ml_So_179, kd_So_has⟩ (xfc (show ((5 : Nat) : Int) + (14) = ((19 : Nat) : Int) from by decide) (xfc trivial (xfc fl_So_26 (xfc trivial (xfc ⟨ml_So_198, kd_Land_has⟩ (xfc (show ((16 : Nat) : Int) + (5) = ((21 : Nat) : Int) from by decide) (xfc trivial (xfc trivial (xfc trivial (xfc trivial (xfc ⟨ml_So_188, kd_Folk_spot⟩ (xfc trivial (xfc trivial (xfc trivial (xfc (show ((31 : Nat) : Int) + (6) = ((37 : Nat) : Int) from by decide) (xfc trivial (xfc trivial (xfc trivial (xfc trivial (xfc trivial (xfc ⟨ml_So_267, kd_Folk_setSpot⟩ (xfc trivial (xfc trivial (xfc trivial (xfc trivial (xfn)))))))))))))))))))))))))))))
theorem s_So_goTo_0 (C : xCx) (r : List Value) (hp : xHp) (x : Nat) (a1 a2 a3 a4 : Value) : (xV k_So_goTo C 0 [.ref x, a1, a2, a3, a4] r hp) = (True ∧ xV k_So_goTo C 1 [.ref x, a1, a2, a3, a4] (.ref x :: r) hp) := xVe _ _ _ _ _ _
theorem s_So_goTo_1 (C : xCx) (r : List Value) (hp : xHp) (x : Int32) (a0 a1 a3 a4 : Value) : (xV k_So_goTo C 1 [a0, a1, .int x, a3, a4] r hp) = (xV k_So_goTo C 2 [a0, a1, .int x, a3, a4] (.int x :: r) hp) := xVe _ _ _ _ _ _
theorem s_So_goTo_2 (x0 : Int32) (a : Nat) (l : Launch) (d b lo gz n0 s0 : Nat) (Po : Option Value → xHp → Prop) (L r : List Value) (hp : xHp) : (xV k_So_goTo (l, d + 1, b, lo, gz, n0, s0, m_So_goTo, Po) 2 L (.int x0 :: .ref a :: r) hp) = (xO hp a 0 ∧ xcs r 8 ∧ xMi l d b lo gz m_So_has [.ref a, .int x0] hp (fun x hp' => xV k_So_goTo (l, d + 1, b, lo, gz, n0, s0, m_So_goTo, Po) 5 L (.int x :: r) hp')) := xVe _ _ _ _ _ _
theorem s_So_goTo_5 (x : Int32) (C : xCx) (L r : List Value) (hp : xHp) : (xV k_So_goTo C 5 L (.int x :: r) hp) = (((x = 0 → xV k_So_goTo C 19 L r hp) ∧ (¬ x = 0 → xV k_So_goTo C 8 L r hp))) := xVe _ _ _ _ _ _
theorem s_So_goTo_8 (C : xCx) (r : List Value) (hp : xHp) (x : Nat) (a1 a2 a3 a4 : Value) : (xV k_So_goTo C 8 [.ref x, a1, a2, a3, a4] r hp) = (True ∧ xV k_So_goTo C 9 [.ref x, a1, a2, a3, a4] (.ref x :: r) hp) := xVe _ _ _ _ _ _
theorem s_So_goTo_9 (a : Nat) (C : xCx) (L r : List Value) (hp : xHp) : (xV k_So_goTo C 9 L (.ref a :: r) hp) = (xF hp a 0 2 (fun v => xV k_So_goTo C 12 L (v :: r) hp)) := xVe _ _ _ _ _ _
theorem s_So_goTo_12 (C : xCx) (r : List Value) (hp : xHp) (x : Int32) (a0 a1 a2 a4 : Value) : (xV k_So_goTo C 12 [a0, a1, a2, .int x, a4] r hp) = (xV k_So_goTo C 13 [a0, a1, a2, .int x, a4] (.int x :: r) hp) := xVe _ _ _ _ _ _
theorem s_So_goTo_13 (x0 : Int32) (a : Nat) (l : Launch) (d b lo gz n0 s0 : Nat) (Po : Option Value → xHp → Prop) (L r : List Value) (hp : xHp) : (xV k_So_goTo (l, d + 1, b, lo, gz, n0, s0, m_So_goTo, Po) 13 L (.int x0 :: .ref a :: r) hp) = (xO hp a 4 ∧ xcs r 8 ∧ xMi l d b lo gz m_Land_has [.ref a, .int x0] hp (fun x hp' => xV k_So_goTo (l, d + 1, b, lo, gz, n0, s0, m_So_goTo, Po) 16 L (.int x :: r) hp')) := xVe _ _ _ _ _ _
theorem s_So_goTo_16 (x : Int32) (C : xCx) (L r : List Value) (hp : xHp) : (xV k_So_goTo C 16 L (.int x :: r) hp) = (((¬ x = 0 → xV k_So_goTo C 21 L r hp) ∧ (x = 0 → xV k_So_goTo C 19 L r hp))) := xVe _ _ _ _ _ _
theorem s_So_goTo_19  (C : xCx) (L r : List Value) (hp : xHp) : (xV k_So_goTo C 19 L (r) hp) = (xV k_So_goTo C 20 L (.int (-1) :: r) hp) := xVe _ _ _ _ _ _
theorem s_So_goTo_20 (v : Int32) (l : Launch) (d b lo gz n0 s0 : Nat) (Po : Option Value → xHp → Prop) (L : List Value) (hp : xHp) : (xV k_So_goTo (l, d, b, lo, gz, n0, s0, m_So_goTo, Po) 20 L [.int v] hp) = (Po (some (.int v)) hp) := xVe _ _ _ _ _ _
theorem s_So_goTo_21 (C : xCx) (r : List Value) (hp : xHp) (x : Nat) (a0 a2 a3 a4 : Value) : (xV k_So_goTo C 21 [a0, .ref x, a2, a3, a4] r hp) = (True ∧ xV k_So_goTo C 22 [a0, .ref x, a2, a3, a4] (.ref x :: r) hp) := xVe _ _ _ _ _ _
theorem s_So_goTo_22 (C : xCx) (r : List Value) (hp : xHp) (x : Int32) (a0 a1 a3 a4 : Value) : (xV k_So_goTo C 22 [a0, a1, .int x, a3, a4] r hp) = (xV k_So_goTo C 23 [a0, a1, .int x, a3, a4] (.int x :: r) hp) := xVe _ _ _ _ _ _
theorem s_So_goTo_23 (x0 : Int32) (a : Nat) (l : Launch) (d b lo gz n0 s0 : Nat) (Po : Option Value → xHp → Prop) (L r : List Value) (hp : xHp) : (xV k_So_goTo (l, d + 1, b, lo, gz, n0, s0, m_So_goTo, Po) 23 L (.int x0 :: .ref a :: r) hp) = (xO hp a 3 ∧ xcs r 8 ∧ xMi l d b lo gz m_Folk_spot [.ref a, .int x0] hp (fun x hp' => xV k_So_goTo (l, d + 1, b, lo, gz, n0, s0, m_So_goTo, Po) 26 L (.int x :: r) hp')) := xVe _ _ _ _ _ _
theorem s_So_goTo_26 (C : xCx) (r : List Value) (hp : xHp) (x : Int32) (a0 a1 a2 a3 a4 : Value) : (xV k_So_goTo C 26 [a0, a1, a2, a3, a4] (.int x :: r) hp) = (4 < 5 ∧ xNl [a0, a1, a2, a3, a4] 4 ∧ xV k_So_goTo C 28 [a0, a1, a2, a3, .int x] r hp) := xVe _ _ _ _ _ _
theorem s_So_goTo_28 (C : xCx) (r : List Value) (hp : xHp) (x : Int32) (a0 a1 a2 a3 : Value) : (xV k_So_goTo C 28 [a0, a1, a2, a3, .int x] r hp) = (xV k_So_goTo C 30 [a0, a1, a2, a3, .int x] (.int x :: r) hp) := xVe _ _ _ _ _ _
theorem s_So_goTo_30 (C : xCx) (r : List Value) (hp : xHp) (x : Int32) (a0 a1 a2 a4 : Value) : (xV k_So_goTo C 30 [a0, a1, a2, .int x, a4] r hp) = (xV k_So_goTo C 31 [a0, a1, a2, .int x, a4] (.int x :: r) hp) := xVe _ _ _ _ _ _
theorem s_So_goTo_31 (x y : Int32) (C : xCx) (L r : List Value) (hp : xHp) : (xV k_So_goTo C 31 L (.int y :: .int x :: r) hp) = (((¬ x = y → xV k_So_goTo C 37 L r hp) ∧ (x = y → xV k_So_goTo C 34 L r hp))) := xVe _ _ _ _ _ _
theorem s_So_goTo_34  (C : xCx) (L r : List Value) (hp : xHp) : (xV k_So_goTo C 34 L (r) hp) = (xV k_So_goTo C 36 L (.int (-2) :: r) hp) := xVe _ _ _ _ _ _
theorem s_So_goTo_36 (v : Int32) (l : Launch) (d b lo gz n0 s0 : Nat) (Po : Option Value → xHp → Prop) (L : List Value) (hp : xHp) : (xV k_So_goTo (l, d, b, lo, gz, n0, s0, m_So_goTo, Po) 36 L [.int v] hp) = (Po (some (.int v)) hp) := xVe _ _ _ _ _ _
theorem s_So_goTo_37 (C : xCx) (r : List Value) (hp : xHp) (x : Nat) (a0 a2 a3 a4 : Value) : (xV k_So_goTo C 37 [a0, .ref x, a2, a3, a4] r hp) = (True ∧ xV k_So_goTo C 38 [a0, .ref x, a2, a3, a4] (.ref x :: r) hp) := xVe _ _ _ _ _ _
theorem s_So_goTo_38 (C : xCx) (r : List Value) (hp : xHp) (x : Int32) (a0 a1 a3 a4 : Value) : (xV k_So_goTo C 38 [a0, a1, .int x, a3, a4] r hp) = (xV k_So_goTo C 39 [a0, a1, .int x, a3, a4] (.int x :: r) hp) := xVe _ _ _ _ _ _
theorem s_So_goTo_39 (C : xCx) (r : List Value) (hp : xHp) (x : Int32) (a0 a1 a2 a4 : Value) : (xV k_So_goTo C 39 [a0, a1, a2, .int x, a4] r hp) = (xV k_So_goTo C 40 [a0, a1, a2, .int x, a4] (.int x :: r) hp) := xVe _ _ _ _ _ _
theorem s_So_goTo_40 (x0 : Int32) (x1 : Int32) (a : Nat) (l : Launch) (d b lo gz n0 s0 : Nat) (Po : Option Value → xHp → Prop) (L r : List Value) (hp : xHp) : (xV k_So_goTo (l, d + 1, b, lo, gz, n0, s0, m_So_goTo, Po) 40 L (.int x1 :: .int x0 :: .ref a :: r) hp) = (xO hp a 3 ∧ xcs r 8 ∧ xMv l d b lo gz m_Folk_setSpot [.ref a, .int x0, .int x1] hp (fun hp' => xV k_So_goTo (l, d + 1, b, lo, gz, n0, s0, m_So_goTo, Po) 43 L r hp')) := xVe _ _ _ _ _ _
theorem s_So_goTo_43  (C : xCx) (L r : List Value) (hp : xHp) : (xV k_So_goTo C 43 L (r) hp) = (xV k_So_goTo C 45 L (.int (10) :: r) hp) := xVe _ _ _ _ _ _
theorem s_So_goTo_45 (C : xCx) (r : List Value) (hp : xHp) (x : Int32) (a0 a1 a2 a3 : Value) : (xV k_So_goTo C 45 [a0, a1, a2, a3, .int x] r hp) = (xV k_So_goTo C 47 [a0, a1, a2, a3, .int x] (.int x :: r) hp) := xVe _ _ _ _ _ _
theorem s_So_goTo_47 (x y : Int32) (C : xCx) (L r : List Value) (hp : xHp) : (xV k_So_goTo C 47 L (.int y :: .int x :: r) hp) = (xV k_So_goTo C 48 L (.int (x + y) :: r) hp) := xVe _ _ _ _ _ _
theorem s_So_goTo_48 (v : Int32) (l : Launch) (d b lo gz n0 s0 : Nat) (Po : Option Value → xHp → Prop) (L : List Value) (hp : xHp) : (xV k_So_goTo (l, d, b, lo, gz, n0, s0, m_So_goTo, Po) 48 L [.int v] hp) = (Po (some (.int v)) hp) := xVe _ _ _ _ _ _
def k_So_has : List xEC := [
  (0, .iload_n 1, 1, 0, 0, 0, m_x),
  (1, .ifCond .lt 18, 4, 0, 19, 0, m_x),
  (4, .iload_n 1, 5, 0, 0, 0, m_x),
  (5, .aload_n 0, 6, 0, 0, 0, m_x),
  (6, .getfield 54, 9, 0, 6, 0, m_x),
  (9, .invokevirtual 150, 12, 3, 0, 0, m_Folk_size),
  (12, .if_icmp .ge 7, 15, 0, 19, 0, m_x),
  (15, .iconst 1, 16, 0, 0, 0, m_x),
  (16, .goto 4, 19, 0, 20, 0, m_x),
  (19, .iconst 0, 20, 0, 0, 0, m_x),
  (20, .ireturn, 21, 0, 0, 0, m_x)]
theorem dc_So_has : ∀ E ∈ k_So_has, xDc m_So_has E := by decide +kernel
set_option maxRecDepth 20000 in
theorem ok_So_has : ∀ E ∈ k_So_has, xOk m_So_has E := xok_of dc_So_has (xfc trivial (xfc (show ((1 : Nat) : Int) + (18) = ((19 : Nat) : Int) from by decide) (xfc trivial (xfc trivial (xfc fl_So_54 (xfc ⟨ml_So_150, kd_Folk_size⟩ (xfc (show ((12 : Nat) : Int) + (7) = ((19 : Nat) : Int) from by decide) (xfc trivial (xfc (show ((16 : Nat) : Int) + (4) = ((20 : Nat) : Int) from by decide) (xfc trivial (xfc trivial (xfn))))))))))))
theorem s_So_has_0 (C : xCx) (r : List Value) (hp : xHp) (x : Int32) (a0 : Value) : (xV k_So_has C 0 [a0, .int x] r hp) = (xV k_So_has C 1 [a0, .int x] (.int x :: r) hp) := xVe _ _ _ _ _ _
theorem s_So_has_1 (x : Int32) (C : xCx) (L r : List Value) (hp : xHp) : (xV k_So_has C 1 L (.int x :: r) hp) = (((x < 0 → xV k_So_has C 19 L r hp) ∧ (¬ x < 0 → xV k_So_has C 4 L r hp))) := xVe _ _ _ _ _ _
theorem s_So_has_4 (C : xCx) (r : List Value) (hp : xHp) (x : Int32) (a0 : Value) : (xV k_So_has C 4 [a0, .int x] r hp) = (xV k_So_has C 5 [a0, .int x] (.int x :: r) hp) := xVe _ _ _ _ _ _
theorem s_So_has_5 (C : xCx) (r : List Value) (hp : xHp) (x : Nat) (a1 : Value) : (xV k_So_has C 5 [.ref x, a1] r hp) = (True ∧ xV k_So_has C 6 [.ref x, a1] (.ref x :: r) hp) := xVe _ _ _ _ _ _
theorem s_So_has_6 (a : Nat) (C : xCx) (L r : List Value) (hp : xHp) : (xV k_So_has C 6 L (.ref a :: r) hp) = (xF hp a 0 6 (fun v => xV k_So_has C 9 L (v :: r) hp)) := xVe _ _ _ _ _ _
theorem s_So_has_9 (a : Nat) (l : Launch) (d b lo gz n0 s0 : Nat) (Po : Option Value → xHp → Prop) (L r : List Value) (hp : xHp) : (xV k_So_has (l, d + 1, b, lo, gz, n0, s0, m_So_has, Po) 9 L (.ref a :: r) hp) = (xO hp a 3 ∧ xcs r 8 ∧ xMi l d b lo gz m_Folk_size [.ref a] hp (fun x hp' => xV k_So_has (l, d + 1, b, lo, gz, n0, s0, m_So_has, Po) 12 L (.int x :: r) hp')) := xVe _ _ _ _ _ _
theorem s_So_has_12 (x y : Int32) (C : xCx) (L r : List Value) (hp : xHp) : (xV k_So_has C 12 L (.int y :: .int x :: r) hp) = (((y ≤ x → xV k_So_has C 19 L r hp) ∧ (¬ y ≤ x → xV k_So_has C 15 L r hp))) := xVe _ _ _ _ _ _
theorem s_So_has_15  (C : xCx) (L r : List Value) (hp : xHp) : (xV k_So_has C 15 L (r) hp) = (xV k_So_has C 16 L (.int (1) :: r) hp) := xVe _ _ _ _ _ _
theorem s_So_has_16 (C : xCx) (L r : List Value) (hp : xHp) : (xV k_So_has C 16 L r hp) = (xV k_So_has C 20 L r hp) := xVe _ _ _ _ _ _
theorem s_So_has_19  (C : xCx) (L r : List Value) (hp : xHp) : (xV k_So_has C 19 L (r) hp) = (xV k_So_has C 20 L (.int (0) :: r) hp) := xVe _ _ _ _ _ _
theorem s_So_has_20 (v : Int32) (l : Launch) (d b lo gz n0 s0 : Nat) (Po : Option Value → xHp → Prop) (L : List Value) (hp : xHp) : (xV k_So_has (l, d, b, lo, gz, n0, s0, m_So_has, Po) 20 L [.int v] hp) = ((v = 0 ∨ v = 1) ∧ Po (some (.int v)) hp) := xVe _ _ _ _ _ _
def k_So_done : List xEC := [
  (0, .iload_n 1, 1, 0, 0, 0, m_x),
  (1, .ifCond .lt 14, 4, 0, 15, 0, m_x),
  (4, .aload_n 0, 5, 0, 0, 0, m_x),
  (5, .getfield 67, 8, 0, 9, 0, m_x),
  (8, .aload_n 0, 9, 0, 0, 0, m_x),
  (9, .getfield 61, 12, 0, 8, 0, m_x),
  (12, .invokevirtual 222, 15, 5, 0, 0, m_Past_push),
  (15, .iload_n 1, 16, 0, 0, 0, m_x),
  (16, .ireturn, 17, 0, 0, 0, m_x)]
theorem dc_So_done : ∀ E ∈ k_So_done, xDc m_So_done E := by decide +kernel
set_option maxRecDepth 20000 in
theorem ok_So_done : ∀ E ∈ k_So_done, xOk m_So_done E := xok_of dc_So_done (xfc trivial (xfc (show ((1 : Nat) : Int) + (14) = ((15 : Nat) : Int) from by decide) (xfc trivial (xfc fl_So_67 (xfc trivial (xfc fl_So_61 (xfc ⟨ml_So_222, kd_Past_push⟩ (xfc trivial (xfc trivial (xfn))))))))))
theorem s_So_done_0 (C : xCx) (r : List Value) (hp : xHp) (x : Int32) (a0 : Value) : (xV k_So_done C 0 [a0, .int x] r hp) = (xV k_So_done C 1 [a0, .int x] (.int x :: r) hp) := xVe _ _ _ _ _ _
theorem s_So_done_1 (x : Int32) (C : xCx) (L r : List Value) (hp : xHp) : (xV k_So_done C 1 L (.int x :: r) hp) = (((x < 0 → xV k_So_done C 15 L r hp) ∧ (¬ x < 0 → xV k_So_done C 4 L r hp))) := xVe _ _ _ _ _ _
theorem s_So_done_4 (C : xCx) (r : List Value) (hp : xHp) (x : Nat) (a1 : Value) : (xV k_So_done C 4 [.ref x, a1] r hp) = (True ∧ xV k_So_done C 5 [.ref x, a1] (.ref x :: r) hp) := xVe _ _ _ _ _ _
theorem s_So_done_5 (a : Nat) (C : xCx) (L r : List Value) (hp : xHp) : (xV k_So_done C 5 L (.ref a :: r) hp) = (xF hp a 0 9 (fun v => xV k_So_done C 8 L (v :: r) hp)) := xVe _ _ _ _ _ _
theorem s_So_done_8 (C : xCx) (r : List Value) (hp : xHp) (x : Nat) (a1 : Value) : (xV k_So_done C 8 [.ref x, a1] r hp) = (True ∧ xV k_So_done C 9 [.ref x, a1] (.ref x :: r) hp) := xVe _ _ _ _ _ _
theorem s_So_done_9 (a : Nat) (C : xCx) (L r : List Value) (hp : xHp) : (xV k_So_done C 9 L (.ref a :: r) hp) = (xF hp a 0 8 (fun v => xV k_So_done C 12 L (v :: r) hp)) := xVe _ _ _ _ _ _
theorem s_So_done_12 (x0 : Nat) (a : Nat) (l : Launch) (d b lo gz n0 s0 : Nat) (Po : Option Value → xHp → Prop) (L r : List Value) (hp : xHp) : (xV k_So_done (l, d + 1, b, lo, gz, n0, s0, m_So_done, Po) 12 L (.ref x0 :: .ref a :: r) hp) = (xO hp a 5 ∧ xcs r 8 ∧ xMv l d b lo gz m_Past_push [.ref a, .ref x0] hp (fun hp' => xV k_So_done (l, d + 1, b, lo, gz, n0, s0, m_So_done, Po) 15 L r hp')) := xVe _ _ _ _ _ _
theorem s_So_done_15 (C : xCx) (r : List Value) (hp : xHp) (x : Int32) (a0 : Value) : (xV k_So_done C 15 [a0, .int x] r hp) = (xV k_So_done C 16 [a0, .int x] (.int x :: r) hp) := xVe _ _ _ _ _ _
theorem s_So_done_16 (v : Int32) (l : Launch) (d b lo gz n0 s0 : Nat) (Po : Option Value → xHp → Prop) (L : List Value) (hp : xHp) : (xV k_So_done (l, d, b, lo, gz, n0, s0, m_So_done, Po) 16 L [.int v] hp) = (Po (some (.int v)) hp) := xVe _ _ _ _ _ _
theorem ml_So_239 : xLk "SunnyOnes" 239 m_So_trade := Or.inl (wg3 141 (by decide +kernel) rfl)
def k_So_swaps : List xEC := [
  (0, .aload_n 0, 1, 0, 0, 0, m_x),
  (1, .getfield 61, 4, 0, 8, 0, m_x),
  (4, .aload_n 0, 5, 0, 0, 0, m_x),
  (5, .getfield 54, 8, 0, 6, 0, m_x),
  (8, .invokevirtual 215, 11, 3, 0, 0, m_Folk_copyFrom),
  (11, .aload_n 0, 12, 0, 0, 0, m_x),
  (12, .aload_n 0, 13, 0, 0, 0, m_x),
  (13, .iload_n 1, 14, 0, 0, 0, m_x),
  (14, .iload_n 2, 15, 0, 0, 0, m_x),
  (15, .invokevirtual 239, 18, 0, 0, 0, m_So_trade),
  (18, .invokevirtual 236, 21, 0, 0, 0, m_So_done),
  (21, .ireturn, 22, 0, 0, 0, m_x)]
theorem dc_So_swaps : ∀ E ∈ k_So_swaps, xDc m_So_swaps E := by decide +kernel
set_option maxRecDepth 20000 in
theorem ok_So_swaps : ∀ E ∈ k_So_swaps, xOk m_So_swaps E := xok_of dc_So_swaps (xfc trivial (xfc fl_So_61 (xfc trivial (xfc fl_So_54 (xfc ⟨ml_So_215, kd_Folk_copyFrom⟩ (xfc trivial (xfc trivial (xfc trivial (xfc trivial (xfc ⟨ml_So_239, kd_So_trade⟩ (xfc ⟨ml_So_236, kd_So_done⟩ (xfc trivial (xfn)))))))))))))
theorem s_So_swaps_0 (C : xCx) (r : List Value) (hp : xHp) (x : Nat) (a1 a2 : Value) : (xV k_So_swaps C 0 [.ref x, a1, a2] r hp) = (True ∧ xV k_So_swaps C 1 [.ref x, a1, a2] (.ref x :: r) hp) := xVe _ _ _ _ _ _
theorem s_So_swaps_1 (a : Nat) (C : xCx) (L r : List Value) (hp : xHp) : (xV k_So_swaps C 1 L (.ref a :: r) hp) = (xF hp a 0 8 (fun v => xV k_So_swaps C 4 L (v :: r) hp)) := xVe _ _ _ _ _ _
theorem s_So_swaps_4 (C : xCx) (r : List Value) (hp : xHp) (x : Nat) (a1 a2 : Value) : (xV k_So_swaps C 4 [.ref x, a1, a2] r hp) = (True ∧ xV k_So_swaps C 5 [.ref x, a1, a2] (.ref x :: r) hp) := xVe _ _ _ _ _ _
theorem s_So_swaps_5 (a : Nat) (C : xCx) (L r : List Value) (hp : xHp) : (xV k_So_swaps C 5 L (.ref a :: r) hp) = (xF hp a 0 6 (fun v => xV k_So_swaps C 8 L (v :: r) hp)) := xVe _ _ _ _ _ _
theorem s_So_swaps_8 (x0 : Nat) (a : Nat) (l : Launch) (d b lo gz n0 s0 : Nat) (Po : Option Value → xHp → Prop) (L r : List Value) (hp : xHp) : (xV k_So_swaps (l, d + 1, b, lo, gz, n0, s0, m_So_swaps, Po) 8 L (.ref x0 :: .ref a :: r) hp) = (xO hp a 3 ∧ xcs r 8 ∧ xMv l d b lo gz m_Folk_copyFrom [.ref a, .ref x0] hp (fun hp' => xV k_So_swaps (l, d + 1, b, lo, gz, n0, s0, m_So_swaps, Po) 11 L r hp')) := xVe _ _ _ _ _ _
theorem s_So_swaps_11 (C : xCx) (r : List Value) (hp : xHp) (x : Nat) (a1 a2 : Value) : (xV k_So_swaps C 11 [.ref x, a1, a2] r hp) = (True ∧ xV k_So_swaps C 12 [.ref x, a1, a2] (.ref x :: r) hp) := xVe _ _ _ _ _ _
theorem s_So_swaps_12 (C : xCx) (r : List Value) (hp : xHp) (x : Nat) (a1 a2 : Value) : (xV k_So_swaps C 12 [.ref x, a1, a2] r hp) = (True ∧ xV k_So_swaps C 13 [.ref x, a1, a2] (.ref x :: r) hp) := xVe _ _ _ _ _ _
theorem s_So_swaps_13 (C : xCx) (r : List Value) (hp : xHp) (x : Int32) (a0 a2 : Value) : (xV k_So_swaps C 13 [a0, .int x, a2] r hp) = (xV k_So_swaps C 14 [a0, .int x, a2] (.int x :: r) hp) := xVe _ _ _ _ _ _
theorem s_So_swaps_14 (C : xCx) (r : List Value) (hp : xHp) (x : Int32) (a0 a1 : Value) : (xV k_So_swaps C 14 [a0, a1, .int x] r hp) = (xV k_So_swaps C 15 [a0, a1, .int x] (.int x :: r) hp) := xVe _ _ _ _ _ _
theorem s_So_swaps_15 (x0 : Int32) (x1 : Int32) (a : Nat) (l : Launch) (d b lo gz n0 s0 : Nat) (Po : Option Value → xHp → Prop) (L r : List Value) (hp : xHp) : (xV k_So_swaps (l, d + 1, b, lo, gz, n0, s0, m_So_swaps, Po) 15 L (.int x1 :: .int x0 :: .ref a :: r) hp) = (xO hp a 0 ∧ xcs r 8 ∧ xMi l d b lo gz m_So_trade [.ref a, .int x0, .int x1] hp (fun x hp' => xV k_So_swaps (l, d + 1, b, lo, gz, n0, s0, m_So_swaps, Po) 18 L (.int x :: r) hp')) := xVe _ _ _ _ _ _
theorem s_So_swaps_18 (x0 : Int32) (a : Nat) (l : Launch) (d b lo gz n0 s0 : Nat) (Po : Option Value → xHp → Prop) (L r : List Value) (hp : xHp) : (xV k_So_swaps (l, d + 1, b, lo, gz, n0, s0, m_So_swaps, Po) 18 L (.int x0 :: .ref a :: r) hp) = (xO hp a 0 ∧ xcs r 8 ∧ xMi l d b lo gz m_So_done [.ref a, .int x0] hp (fun x hp' => xV k_So_swaps (l, d + 1, b, lo, gz, n0, s0, m_So_swaps, Po) 21 L (.int x :: r) hp')) := xVe _ _ _ _ _ _
theorem s_So_swaps_21 (v : Int32) (l : Launch) (d b lo gz n0 s0 : Nat) (Po : Option Value → xHp → Prop) (L : List Value) (hp : xHp) : (xV k_So_swaps (l, d, b, lo, gz, n0, s0, m_So_swaps, Po) 21 L [.int v] hp) = (Po (some (.int v)) hp) := xVe _ _ _ _ _ _
theorem ml_So_270 : xLk "SunnyOnes" 270 m_Math_abs := Or.inl (wg3 145 (by decide +kernel) rfl)
def k_So_trade : List xEC := [
  (0, .aload_n 0, 1, 0, 0, 0, m_x),
  (1, .iload_n 1, 2, 0, 0, 0, m_x),
  (2, .invokevirtual 179, 5, 0, 0, 0, m_So_has),
  (5, .ifCond .eq 16, 8, 0, 21, 0, m_x),
  (8, .aload_n 0, 9, 0, 0, 0, m_x),
  (9, .iload_n 2, 10, 0, 0, 0, m_x),
  (10, .invokevirtual 179, 13, 0, 0, 0, m_So_has),
  (13, .ifCond .eq 8, 16, 0, 21, 0, m_x),
  (16, .iload_n 1, 17, 0, 0, 0, m_x),
  (17, .iload_n 2, 18, 0, 0, 0, m_x),
  (18, .if_icmp .ne 5, 21, 0, 23, 0, m_x),
  (21, .iconst (-1), 22, 0, 0, 0, m_x),
  (22, .ireturn, 23, 0, 0, 0, m_x),
  (23, .aload_n 0, 24, 0, 0, 0, m_x),
  (24, .getfield 54, 27, 0, 6, 0, m_x),
  (27, .iload_n 1, 28, 0, 0, 0, m_x),
  (28, .invokevirtual 188, 31, 3, 0, 0, m_Folk_spot),
  (31, .istore_n 3, 32, 0, 0, 0, m_x),
  (32, .aload_n 0, 33, 0, 0, 0, m_x),
  (33, .getfield 54, 36, 0, 6, 0, m_x),
  (36, .iload_n 2, 37, 0, 0, 0, m_x),
  (37, .invokevirtual 188, 40, 3, 0, 0, m_Folk_spot),
  (40, .istore 4, 42, 0, 0, 0, m_x),
  (42, .iload_n 3, 43, 0, 0, 0, m_x),
  (43, .iload 4, 45, 0, 0, 0, m_x),
  (45, .if_icmp .ne 6, 48, 0, 51, 0, m_x),
  (48, .bipush (-2), 50, 0, 0, 0, m_x),
  (50, .ireturn, 51, 0, 0, 0, m_x),
  (51, .aload_n 0, 52, 0, 0, 0, m_x),
  (52, .getfield 54, 55, 0, 6, 0, m_x),
  (55, .iload_n 1, 56, 0, 0, 0, m_x),
  (56, .iload 4, 58, 0, 0, 0, m_x),
  (58, .invokevirtual 267, 61, 3, 0, 0, m_Folk_setSpot),
  (61, .aload_n 0, 62, 0, 0, 0, m_x),
  (62, .getfield 54, 65, 0, 6, 0, m_x),
  (65, .iload_n 2, 66, 0, 0, 0, m_x),
  (66, .iload_n 3, 67, 0, 0, 0, m_x),
  (67, .invokevirtual 267, 70, 3, 0, 0, m_Folk_setSpot),
  (70, .iload_n 3, 71, 0, 0, 0, m_x),
  (71, .iload 4, 73, 0, 0, 0, m_x),
  (73, .isub, 74, 0, 0, 0, m_x),
  (74, .invokestatic 270, 77, 0, 0, 0, m_Math_abs),
  (77, .ireturn, 78, 0, 0, 0, m_x)]
theorem dc_So_trade : ∀ E ∈ k_So_trade, xDc m_So_trade E := by decide +kernel
set_option maxRecDepth 20000 in
theorem ok_So_trade : ∀ E ∈ k_So_trade, xOk m_So_trade E := xok_of dc_So_trade (xfc trivial (xfc trivial (xfc ⟨ml_So_179, kd_So_has⟩ (xfc (show ((5 : Nat) : Int) + (16) = ((21 : Nat) : Int) from by decide) (xfc trivial (xfc trivial (xfc ⟨ml_So_179, kd_So_has⟩ (xfc (show ((13 : Nat) : Int) + (8) = ((21 : Nat) : Int) from by decide) (xfc trivial (xfc trivial (xfc (show ((18 : Nat) : Int) + (5) = ((23 : Nat) : Int) from by decide) (xfc trivial (xfc trivial (xfc trivial (xfc fl_So_54 (xfc trivial (xfc ⟨ml_So_188, kd_Folk_spot⟩ (xfc trivial (xfc trivial (xfc fl_So_54 (xfc trivial (xfc ⟨ml_So_188, kd_Folk_spot⟩ (xfc trivial (xfc trivial (xfc trivial (xfc (show ((45 : Nat) : Int) + (6) = ((51 : Nat) : Int) from by decide) (xfc trivial (xfc trivial (xfc trivial (xfc fl_So_54 (xfc trivial (xfc trivial (xfc ⟨ml_So_267, kd_Folk_setSpot⟩ (xfc trivial (xfc fl_So_54 (xfc trivial (xfc trivial (xfc ⟨ml_So_267, kd_Folk_setSpot⟩ (xfc trivial (xfc trivial (xfc trivial (xfc ⟨ml_So_270, kd_Math_abs⟩ (xfc trivial (xfn))))))))))))))))))))))))))))))))))))))))))))
theorem s_So_trade_0 (C : xCx) (r : List Value) (hp : xHp) (x : Nat) (a1 a2 a3 a4 : Value) : (xV k_So_trade C 0 [.ref x, a1, a2, a3, a4] r hp) = (True ∧ xV k_So_trade C 1 [.ref x, a1, a2, a3, a4] (.ref x :: r) hp) := xVe _ _ _ _ _ _
theorem s_So_trade_1 (C : xCx) (r : List Value) (hp : xHp) (x : Int32) (a0 a2 a3 a4 : Value) : (xV k_So_trade C 1 [a0, .int x, a2, a3, a4] r hp) = (xV k_So_trade C 2 [a0, .int x, a2, a3, a4] (.int x :: r) hp) := xVe _ _ _ _ _ _
theorem s_So_trade_2 (x0 : Int32) (a : Nat) (l : Launch) (d b lo gz n0 s0 : Nat) (Po : Option Value → xHp → Prop) (L r : List Value) (hp : xHp) : (xV k_So_trade (l, d + 1, b, lo, gz, n0, s0, m_So_trade, Po) 2 L (.int x0 :: .ref a :: r) hp) = (xO hp a 0 ∧ xcs r 8 ∧ xMi l d b lo gz m_So_has [.ref a, .int x0] hp (fun x hp' => xV k_So_trade (l, d + 1, b, lo, gz, n0, s0, m_So_trade, Po) 5 L (.int x :: r) hp')) := xVe _ _ _ _ _ _
theorem s_So_trade_5 (x : Int32) (C : xCx) (L r : List Value) (hp : xHp) : (xV k_So_trade C 5 L (.int x :: r) hp) = (((x = 0 → xV k_So_trade C 21 L r hp) ∧ (¬ x = 0 → xV k_So_trade C 8 L r hp))) := xVe _ _ _ _ _ _
theorem s_So_trade_8 (C : xCx) (r : List Value) (hp : xHp) (x : Nat) (a1 a2 a3 a4 : Value) : (xV k_So_trade C 8 [.ref x, a1, a2, a3, a4] r hp) = (True ∧ xV k_So_trade C 9 [.ref x, a1, a2, a3, a4] (.ref x :: r) hp) := xVe _ _ _ _ _ _
theorem s_So_trade_9 (C : xCx) (r : List Value) (hp : xHp) (x : Int32) (a0 a1 a3 a4 : Value) : (xV k_So_trade C 9 [a0, a1, .int x, a3, a4] r hp) = (xV k_So_trade C 10 [a0, a1, .int x, a3, a4] (.int x :: r) hp) := xVe _ _ _ _ _ _
theorem s_So_trade_10 (x0 : Int32) (a : Nat) (l : Launch) (d b lo gz n0 s0 : Nat) (Po : Option Value → xHp → Prop) (L r : List Value) (hp : xHp) : (xV k_So_trade (l, d + 1, b, lo, gz, n0, s0, m_So_trade, Po) 10 L (.int x0 :: .ref a :: r) hp) = (xO hp a 0 ∧ xcs r 8 ∧ xMi l d b lo gz m_So_has [.ref a, .int x0] hp (fun x hp' => xV k_So_trade (l, d + 1, b, lo, gz, n0, s0, m_So_trade, Po) 13 L (.int x :: r) hp')) := xVe _ _ _ _ _ _
theorem s_So_trade_13 (x : Int32) (C : xCx) (L r : List Value) (hp : xHp) : (xV k_So_trade C 13 L (.int x :: r) hp) = (((x = 0 → xV k_So_trade C 21 L r hp) ∧ (¬ x = 0 → xV k_So_trade C 16 L r hp))) := xVe _ _ _ _ _ _
theorem s_So_trade_16 (C : xCx) (r : List Value) (hp : xHp) (x : Int32) (a0 a2 a3 a4 : Value) : (xV k_So_trade C 16 [a0, .int x, a2, a3, a4] r hp) = (xV k_So_trade C 17 [a0, .int x, a2, a3, a4] (.int x :: r) hp) := xVe _ _ _ _ _ _
theorem s_So_trade_17 (C : xCx) (r : List Value) (hp : xHp) (x : Int32) (a0 a1 a3 a4 : Value) : (xV k_So_trade C 17 [a0, a1, .int x, a3, a4] r hp) = (xV k_So_trade C 18 [a0, a1, .int x, a3, a4] (.int x :: r) hp) := xVe _ _ _ _ _ _
theorem s_So_trade_18 (x y : Int32) (C : xCx) (L r : List Value) (hp : xHp) : (xV k_So_trade C 18 L (.int y :: .int x :: r) hp) = (((¬ x = y → xV k_So_trade C 23 L r hp) ∧ (x = y → xV k_So_trade C 21 L r hp))) := xVe _ _ _ _ _ _
theorem s_So_trade_21  (C : xCx) (L r : List Value) (hp : xHp) : (xV k_So_trade C 21 L (r) hp) = (xV k_So_trade C 22 L (.int (-1) :: r) hp) := xVe _ _ _ _ _ _
theorem s_So_trade_22 (v : Int32) (l : Launch) (d b lo gz n0 s0 : Nat) (Po : Option Value → xHp → Prop) (L : List Value) (hp : xHp) : (xV k_So_trade (l, d, b, lo, gz, n0, s0, m_So_trade, Po) 22 L [.int v] hp) = (Po (some (.int v)) hp) := xVe _ _ _ _ _ _
theorem s_So_trade_23 (C : xCx) (r : List Value) (hp : xHp) (x : Nat) (a1 a2 a3 a4 : Value) : (xV k_So_trade C 23 [.ref x, a1, a2, a3, a4] r hp) = (True ∧ xV k_So_trade C 24 [.ref x, a1, a2, a3, a4] (.ref x :: r) hp) := xVe _ _ _ _ _ _
theorem s_So_trade_24 (a : Nat) (C : xCx) (L r : List Value) (hp : xHp) : (xV k_So_trade C 24 L (.ref a :: r) hp) = (xF hp a 0 6 (fun v => xV k_So_trade C 27 L (v :: r) hp)) := xVe _ _ _ _ _ _
theorem s_So_trade_27 (C : xCx) (r : List Value) (hp : xHp) (x : Int32) (a0 a2 a3 a4 : Value) : (xV k_So_trade C 27 [a0, .int x, a2, a3, a4] r hp) = (xV k_So_trade C 28 [a0, .int x, a2, a3, a4] (.int x :: r) hp) := xVe _ _ _ _ _ _
theorem s_So_trade_28 (x0 : Int32) (a : Nat) (l : Launch) (d b lo gz n0 s0 : Nat) (Po : Option Value → xHp → Prop) (L r : List Value) (hp : xHp) : (xV k_So_trade (l, d + 1, b, lo, gz, n0, s0, m_So_trade, Po) 28 L (.int x0 :: .ref a :: r) hp) = (xO hp a 3 ∧ xcs r 8 ∧ xMi l d b lo gz m_Folk_spot [.ref a, .int x0] hp (fun x hp' => xV k_So_trade (l, d + 1, b, lo, gz, n0, s0, m_So_trade, Po) 31 L (.int x :: r) hp')) := xVe _ _ _ _ _ _
theorem s_So_trade_31 (C : xCx) (r : List Value) (hp : xHp) (x : Int32) (a0 a1 a2 a3 a4 : Value) : (xV k_So_trade C 31 [a0, a1, a2, a3, a4] (.int x :: r) hp) = (3 < 5 ∧ xNl [a0, a1, a2, a3, a4] 3 ∧ xV k_So_trade C 32 [a0, a1, a2, .int x, a4] r hp) := xVe _ _ _ _ _ _
theorem s_So_trade_32 (C : xCx) (r : List Value) (hp : xHp) (x : Nat) (a1 a2 a3 a4 : Value) : (xV k_So_trade C 32 [.ref x, a1, a2, a3, a4] r hp) = (True ∧ xV k_So_trade C 33 [.ref x, a1, a2, a3, a4] (.ref x :: r) hp) := xVe _ _ _ _ _ _
theorem s_So_trade_33 (a : Nat) (C : xCx) (L r : List Value) (hp : xHp) : (xV k_So_trade C 33 L (.ref a :: r) hp) = (xF hp a 0 6 (fun v => xV k_So_trade C 36 L (v :: r) hp)) := xVe _ _ _ _ _ _
theorem s_So_trade_36 (C : xCx) (r : List Value) (hp : xHp) (x : Int32) (a0 a1 a3 a4 : Value) : (xV k_So_trade C 36 [a0, a1, .int x, a3, a4] r hp) = (xV k_So_trade C 37 [a0, a1, .int x, a3, a4] (.int x :: r) hp) := xVe _ _ _ _ _ _
theorem s_So_trade_37 (x0 : Int32) (a : Nat) (l : Launch) (d b lo gz n0 s0 : Nat) (Po : Option Value → xHp → Prop) (L r : List Value) (hp : xHp) : (xV k_So_trade (l, d + 1, b, lo, gz, n0, s0, m_So_trade, Po) 37 L (.int x0 :: .ref a :: r) hp) = (xO hp a 3 ∧ xcs r 8 ∧ xMi l d b lo gz m_Folk_spot [.ref a, .int x0] hp (fun x hp' => xV k_So_trade (l, d + 1, b, lo, gz, n0, s0, m_So_trade, Po) 40 L (.int x :: r) hp')) := xVe _ _ _ _ _ _
theorem s_So_trade_40 (C : xCx) (r : List Value) (hp : xHp) (x : Int32) (a0 a1 a2 a3 a4 : Value) : (xV k_So_trade C 40 [a0, a1, a2, a3, a4] (.int x :: r) hp) = (4 < 5 ∧ xNl [a0, a1, a2, a3, a4] 4 ∧ xV k_So_trade C 42 [a0, a1, a2, a3, .int x] r hp) := xVe _ _ _ _ _ _
theorem s_So_trade_42 (C : xCx) (r : List Value) (hp : xHp) (x : Int32) (a0 a1 a2 a4 : Value) : (xV k_So_trade C 42 [a0, a1, a2, .int x, a4] r hp) = (xV k_So_trade C 43 [a0, a1, a2, .int x, a4] (.int x :: r) hp) := xVe _ _ _ _ _ _
theorem s_So_trade_43 (C : xCx) (r : List Value) (hp : xHp) (x : Int32) (a0 a1 a2 a3 : Value) : (xV k_So_trade C 43 [a0, a1, a2, a3, .int x] r hp) = (xV k_So_trade C 45 [a0, a1, a2, a3, .int x] (.int x :: r) hp) := xVe _ _ _ _ _ _
theorem s_So_trade_45 (x y : Int32) (C : xCx) (L r : List Value) (hp : xHp) : (xV k_So_trade C 45 L (.int y :: .int x :: r) hp) = (((¬ x = y → xV k_So_trade C 51 L r hp) ∧ (x = y → xV k_So_trade C 48 L r hp))) := xVe _ _ _ _ _ _
theorem s_So_trade_48  (C : xCx) (L r : List Value) (hp : xHp) : (xV k_So_trade C 48 L (r) hp) = (xV k_So_trade C 50 L (.int (-2) :: r) hp) := xVe _ _ _ _ _ _
theorem s_So_trade_50 (v : Int32) (l : Launch) (d b lo gz n0 s0 : Nat) (Po : Option Value → xHp → Prop) (L : List Value) (hp : xHp) : (xV k_So_trade (l, d, b, lo, gz, n0, s0, m_So_trade, Po) 50 L [.int v] hp) = (Po (some (.int v)) hp) := xVe _ _ _ _ _ _
theorem s_So_trade_51 (C : xCx) (r : List Value) (hp : xHp) (x : Nat) (a1 a2 a3 a4 : Value) : (xV k_So_trade C 51 [.ref x, a1, a2, a3, a4] r hp) = (True ∧ xV k_So_trade C 52 [.ref x, a1, a2, a3, a4] (.ref x :: r) hp) := xVe _ _ _ _ _ _
theorem s_So_trade_52 (a : Nat) (C : xCx) (L r : List Value) (hp : xHp) : (xV k_So_trade C 52 L (.ref a :: r) hp) = (xF hp a 0 6 (fun v => xV k_So_trade C 55 L (v :: r) hp)) := xVe _ _ _ _ _ _
theorem s_So_trade_55 (C : xCx) (r : List Value) (hp : xHp) (x : Int32) (a0 a2 a3 a4 : Value) : (xV k_So_trade C 55 [a0, .int x, a2, a3, a4] r hp) = (xV k_So_trade C 56 [a0, .int x, a2, a3, a4] (.int x :: r) hp) := xVe _ _ _ _ _ _
theorem s_So_trade_56 (C : xCx) (r : List Value) (hp : xHp) (x : Int32) (a0 a1 a2 a3 : Value) : (xV k_So_trade C 56 [a0, a1, a2, a3, .int x] r hp) = (xV k_So_trade C 58 [a0, a1, a2, a3, .int x] (.int x :: r) hp) := xVe _ _ _ _ _ _
theorem s_So_trade_58 (x0 : Int32) (x1 : Int32) (a : Nat) (l : Launch) (d b lo gz n0 s0 : Nat) (Po : Option Value → xHp → Prop) (L r : List Value) (hp : xHp) : (xV k_So_trade (l, d + 1, b, lo, gz, n0, s0, m_So_trade, Po) 58 L (.int x1 :: .int x0 :: .ref a :: r) hp) = (xO hp a 3 ∧ xcs r 8 ∧ xMv l d b lo gz m_Folk_setSpot [.ref a, .int x0, .int x1] hp (fun hp' => xV k_So_trade (l, d + 1, b, lo, gz, n0, s0, m_So_trade, Po) 61 L r hp')) := xVe _ _ _ _ _ _
theorem s_So_trade_61 (C : xCx) (r : List Value) (hp : xHp) (x : Nat) (a1 a2 a3 a4 : Value) : (xV k_So_trade C 61 [.ref x, a1, a2, a3, a4] r hp) = (True ∧ xV k_So_trade C 62 [.ref x, a1, a2, a3, a4] (.ref x :: r) hp) := xVe _ _ _ _ _ _
theorem s_So_trade_62 (a : Nat) (C : xCx) (L r : List Value) (hp : xHp) : (xV k_So_trade C 62 L (.ref a :: r) hp) = (xF hp a 0 6 (fun v => xV k_So_trade C 65 L (v :: r) hp)) := xVe _ _ _ _ _ _
theorem s_So_trade_65 (C : xCx) (r : List Value) (hp : xHp) (x : Int32) (a0 a1 a3 a4 : Value) : (xV k_So_trade C 65 [a0, a1, .int x, a3, a4] r hp) = (xV k_So_trade C 66 [a0, a1, .int x, a3, a4] (.int x :: r) hp) := xVe _ _ _ _ _ _
theorem s_So_trade_66 (C : xCx) (r : List Value) (hp : xHp) (x : Int32) (a0 a1 a2 a4 : Value) : (xV k_So_trade C 66 [a0, a1, a2, .int x, a4] r hp) = (xV k_So_trade C 67 [a0, a1, a2, .int x, a4] (.int x :: r) hp) := xVe _ _ _ _ _ _
theorem s_So_trade_67 (x0 : Int32) (x1 : Int32) (a : Nat) (l : Launch) (d b lo gz n0 s0 : Nat) (Po : Option Value → xHp → Prop) (L r : List Value) (hp : xHp) : (xV k_So_trade (l, d + 1, b, lo, gz, n0, s0, m_So_trade, Po) 67 L (.int x1 :: .int x0 :: .ref a :: r) hp) = (xO hp a 3 ∧ xcs r 8 ∧ xMv l d b lo gz m_Folk_setSpot [.ref a, .int x0, .int x1] hp (fun hp' => xV k_So_trade (l, d + 1, b, lo, gz, n0, s0, m_So_trade, Po) 70 L r hp')) := xVe _ _ _ _ _ _
theorem s_So_trade_70 (C : xCx) (r : List Value) (hp : xHp) (x : Int32) (a0 a1 a2 a4 : Value) : (xV k_So_trade C 70 [a0, a1, a2, .int x, a4] r hp) = (xV k_So_trade C 71 [a0, a1, a2, .int x, a4] (.int x :: r) hp) := xVe _ _ _ _ _ _
theorem s_So_trade_71 (C : xCx) (r : List Value) (hp : xHp) (x : Int32) (a0 a1 a2 a3 : Value) : (xV k_So_trade C 71 [a0, a1, a2, a3, .int x] r hp) = (xV k_So_trade C 73 [a0, a1, a2, a3, .int x] (.int x :: r) hp) := xVe _ _ _ _ _ _
theorem s_So_trade_73 (x y : Int32) (C : xCx) (L r : List Value) (hp : xHp) : (xV k_So_trade C 73 L (.int y :: .int x :: r) hp) = (xV k_So_trade C 74 L (.int (x - y) :: r) hp) := xVe _ _ _ _ _ _
theorem s_So_trade_74 (x0 : Int32) (l : Launch) (d b lo gz n0 s0 : Nat) (Po : Option Value → xHp → Prop) (L r : List Value) (hp : xHp) : (xV k_So_trade (l, d + 1, b, lo, gz, n0, s0, m_So_trade, Po) 74 L (.int x0 :: r) hp) = (1 ≤ List.length (.int x0 :: r) ∧ xcs r 8 ∧ xMi l d b lo gz m_Math_abs [.int x0] hp (fun x hp' => xV k_So_trade (l, d + 1, b, lo, gz, n0, s0, m_So_trade, Po) 77 L (.int x :: r) hp')) := xVe _ _ _ _ _ _
theorem s_So_trade_77 (v : Int32) (l : Launch) (d b lo gz n0 s0 : Nat) (Po : Option Value → xHp → Prop) (L : List Value) (hp : xHp) : (xV k_So_trade (l, d, b, lo, gz, n0, s0, m_So_trade, Po) 77 L [.int v] hp) = (Po (some (.int v)) hp) := xVe _ _ _ _ _ _
theorem ml_So_242 : xLk "SunnyOnes" 242 m_So_sin := Or.inl (wg3 152 (by decide +kernel) rfl)
def k_So_deeds : List xEC := [
  (0, .aload_n 0, 1, 0, 0, 0, m_x),
  (1, .getfield 61, 4, 0, 8, 0, m_x),
  (4, .aload_n 0, 5, 0, 0, 0, m_x),
  (5, .getfield 54, 8, 0, 6, 0, m_x),
  (8, .invokevirtual 215, 11, 3, 0, 0, m_Folk_copyFrom),
  (11, .aload_n 0, 12, 0, 0, 0, m_x),
  (12, .aload_n 0, 13, 0, 0, 0, m_x),
  (13, .iload_n 1, 14, 0, 0, 0, m_x),
  (14, .invokevirtual 242, 17, 0, 0, 0, m_So_sin),
  (17, .invokevirtual 236, 20, 0, 0, 0, m_So_done),
  (20, .ireturn, 21, 0, 0, 0, m_x)]
theorem dc_So_deeds : ∀ E ∈ k_So_deeds, xDc m_So_deeds E := by decide +kernel
set_option maxRecDepth 20000 in
theorem ok_So_deeds : ∀ E ∈ k_So_deeds, xOk m_So_deeds E := xok_of dc_So_deeds (xfc trivial (xfc fl_So_61 (xfc trivial (xfc fl_So_54 (xfc ⟨ml_So_215, kd_Folk_copyFrom⟩ (xfc trivial (xfc trivial (xfc trivial (xfc ⟨ml_So_242, kd_So_sin⟩ (xfc ⟨ml_So_236, kd_So_done⟩ (xfc trivial (xfn))))))))))))
theorem s_So_deeds_0 (C : xCx) (r : List Value) (hp : xHp) (x : Nat) (a1 : Value) : (xV k_So_deeds C 0 [.ref x, a1] r hp) = (True ∧ xV k_So_deeds C 1 [.ref x, a1] (.ref x :: r) hp) := xVe _ _ _ _ _ _
theorem s_So_deeds_1 (a : Nat) (C : xCx) (L r : List Value) (hp : xHp) : (xV k_So_deeds C 1 L (.ref a :: r) hp) = (xF hp a 0 8 (fun v => xV k_So_deeds C 4 L (v :: r) hp)) := xVe _ _ _ _ _ _
theorem s_So_deeds_4 (C : xCx) (r : List Value) (hp : xHp) (x : Nat) (a1 : Value) : (xV k_So_deeds C 4 [.ref x, a1] r hp) = (True ∧ xV k_So_deeds C 5 [.ref x, a1] (.ref x :: r) hp) := xVe _ _ _ _ _ _
theorem s_So_deeds_5 (a : Nat) (C : xCx) (L r : List Value) (hp : xHp) : (xV k_So_deeds C 5 L (.ref a :: r) hp) = (xF hp a 0 6 (fun v => xV k_So_deeds C 8 L (v :: r) hp)) := xVe _ _ _ _ _ _
theorem s_So_deeds_8 (x0 : Nat) (a : Nat) (l : Launch) (d b lo gz n0 s0 : Nat) (Po : Option Value → xHp → Prop) (L r : List Value) (hp : xHp) : (xV k_So_deeds (l, d + 1, b, lo, gz, n0, s0, m_So_deeds, Po) 8 L (.ref x0 :: .ref a :: r) hp) = (xO hp a 3 ∧ xcs r 8 ∧ xMv l d b lo gz m_Folk_copyFrom [.ref a, .ref x0] hp (fun hp' => xV k_So_deeds (l, d + 1, b, lo, gz, n0, s0, m_So_deeds, Po) 11 L r hp')) := xVe _ _ _ _ _ _
theorem s_So_deeds_11 (C : xCx) (r : List Value) (hp : xHp) (x : Nat) (a1 : Value) : (xV k_So_deeds C 11 [.ref x, a1] r hp) = (True ∧ xV k_So_deeds C 12 [.ref x, a1] (.ref x :: r) hp) := xVe _ _ _ _ _ _
theorem s_So_deeds_12 (C : xCx) (r : List Value) (hp : xHp) (x : Nat) (a1 : Value) : (xV k_So_deeds C 12 [.ref x, a1] r hp) = (True ∧ xV k_So_deeds C 13 [.ref x, a1] (.ref x :: r) hp) := xVe _ _ _ _ _ _
theorem s_So_deeds_13 (C : xCx) (r : List Value) (hp : xHp) (x : Int32) (a0 : Value) : (xV k_So_deeds C 13 [a0, .int x] r hp) = (xV k_So_deeds C 14 [a0, .int x] (.int x :: r) hp) := xVe _ _ _ _ _ _
theorem s_So_deeds_14 (x0 : Int32) (a : Nat) (l : Launch) (d b lo gz n0 s0 : Nat) (Po : Option Value → xHp → Prop) (L r : List Value) (hp : xHp) : (xV k_So_deeds (l, d + 1, b, lo, gz, n0, s0, m_So_deeds, Po) 14 L (.int x0 :: .ref a :: r) hp) = (xO hp a 0 ∧ xcs r 8 ∧ xMi l d b lo gz m_So_sin [.ref a, .int x0] hp (fun x hp' => xV k_So_deeds (l, d + 1, b, lo, gz, n0, s0, m_So_deeds, Po) 17 L (.int x :: r) hp')) := xVe _ _ _ _ _ _
theorem s_So_deeds_17 (x0 : Int32) (a : Nat) (l : Launch) (d b lo gz n0 s0 : Nat) (Po : Option Value → xHp → Prop) (L r : List Value) (hp : xHp) : (xV k_So_deeds (l, d + 1, b, lo, gz, n0, s0, m_So_deeds, Po) 17 L (.int x0 :: .ref a :: r) hp) = (xO hp a 0 ∧ xcs r 8 ∧ xMi l d b lo gz m_So_done [.ref a, .int x0] hp (fun x hp' => xV k_So_deeds (l, d + 1, b, lo, gz, n0, s0, m_So_deeds, Po) 20 L (.int x :: r) hp')) := xVe _ _ _ _ _ _
theorem s_So_deeds_20 (v : Int32) (l : Launch) (d b lo gz n0 s0 : Nat) (Po : Option Value → xHp → Prop) (L : List Value) (hp : xHp) : (xV k_So_deeds (l, d, b, lo, gz, n0, s0, m_So_deeds, Po) 20 L [.int v] hp) = (Po (some (.int v)) hp) := xVe _ _ _ _ _ _
theorem ml_So_194 : xLk "SunnyOnes" 194 m_Sun_hoursOf := Or.inl (wg3 156 (by decide +kernel) rfl)
theorem ml_So_275 : xLk "SunnyOnes" 275 m_Folk_addSin := Or.inl (wg3 160 (by decide +kernel) rfl)
theorem ml_So_191 : xLk "SunnyOnes" 191 m_Folk_sins := Or.inl (wg3 164 (by decide +kernel) rfl)
def k_So_sin : List xEC := [
  (0, .aload_n 0, 1, 0, 0, 0, m_x),
  (1, .iload_n 1, 2, 0, 0, 0, m_x),
  (2, .invokevirtual 179, 5, 0, 0, 0, m_So_has),
  (5, .ifCond .ne 5, 8, 0, 10, 0, m_x),
  (8, .iconst (-1), 9, 0, 0, 0, m_x),
  (9, .ireturn, 10, 0, 0, 0, m_x),
  (10, .aload_n 0, 11, 0, 0, 0, m_x),
  (11, .getfield 47, 14, 0, 5, 0, m_x),
  (14, .aload_n 0, 15, 0, 0, 0, m_x),
  (15, .getfield 54, 18, 0, 6, 0, m_x),
  (18, .iload_n 1, 19, 0, 0, 0, m_x),
  (19, .invokevirtual 194, 22, 9, 0, 0, m_Sun_hoursOf),
  (22, .ifCond .le 6, 25, 0, 28, 0, m_x),
  (25, .bipush (-2), 27, 0, 0, 0, m_x),
  (27, .ireturn, 28, 0, 0, 0, m_x),
  (28, .aload_n 0, 29, 0, 0, 0, m_x),
  (29, .getfield 54, 32, 0, 6, 0, m_x),
  (32, .iload_n 1, 33, 0, 0, 0, m_x),
  (33, .invokevirtual 275, 36, 3, 0, 0, m_Folk_addSin),
  (36, .aload_n 0, 37, 0, 0, 0, m_x),
  (37, .getfield 54, 40, 0, 6, 0, m_x),
  (40, .iload_n 1, 41, 0, 0, 0, m_x),
  (41, .invokevirtual 191, 44, 3, 0, 0, m_Folk_sins),
  (44, .ireturn, 45, 0, 0, 0, m_x)]
theorem dc_So_sin : ∀ E ∈ k_So_sin, xDc m_So_sin E := by decide +kernel
set_option maxRecDepth 20000 in
theorem ok_So_sin : ∀ E ∈ k_So_sin, xOk m_So_sin E := xok_of dc_So_sin (xfc trivial (xfc trivial (xfc ⟨ml_So_179, kd_So_has⟩ (xfc (show ((5 : Nat) : Int) + (5) = ((10 : Nat) : Int) from by decide) (xfc trivial (xfc trivial (xfc trivial (xfc fl_So_47 (xfc trivial (xfc fl_So_54 (xfc trivial (xfc ⟨ml_So_194, kd_Sun_hoursOf⟩ (xfc (show ((22 : Nat) : Int) + (6) = ((28 : Nat) : Int) from by decide) (xfc trivial (xfc trivial (xfc trivial (xfc fl_So_54 (xfc trivial (xfc ⟨ml_So_275, kd_Folk_addSin⟩ (xfc trivial (xfc fl_So_54 (xfc trivial (xfc ⟨ml_So_191, kd_Folk_sins⟩ (xfc trivial (xfn)))))))))))))))))))))))))
theorem s_So_sin_0 (C : xCx) (r : List Value) (hp : xHp) (x : Nat) (a1 : Value) : (xV k_So_sin C 0 [.ref x, a1] r hp) = (True ∧ xV k_So_sin C 1 [.ref x, a1] (.ref x :: r) hp) := xVe _ _ _ _ _ _
theorem s_So_sin_1 (C : xCx) (r : List Value) (hp : xHp) (x : Int32) (a0 : Value) : (xV k_So_sin C 1 [a0, .int x] r hp) = (xV k_So_sin C 2 [a0, .int x] (.int x :: r) hp) := xVe _ _ _ _ _ _
theorem s_So_sin_2 (x0 : Int32) (a : Nat) (l : Launch) (d b lo gz n0 s0 : Nat) (Po : Option Value → xHp → Prop) (L r : List Value) (hp : xHp) : (xV k_So_sin (l, d + 1, b, lo, gz, n0, s0, m_So_sin, Po) 2 L (.int x0 :: .ref a :: r) hp) = (xO hp a 0 ∧ xcs r 8 ∧ xMi l d b lo gz m_So_has [.ref a, .int x0] hp (fun x hp' => xV k_So_sin (l, d + 1, b, lo, gz, n0, s0, m_So_sin, Po) 5 L (.int x :: r) hp')) := xVe _ _ _ _ _ _
theorem s_So_sin_5 (x : Int32) (C : xCx) (L r : List Value) (hp : xHp) : (xV k_So_sin C 5 L (.int x :: r) hp) = (((¬ x = 0 → xV k_So_sin C 10 L r hp) ∧ (x = 0 → xV k_So_sin C 8 L r hp))) := xVe _ _ _ _ _ _
theorem s_So_sin_8  (C : xCx) (L r : List Value) (hp : xHp) : (xV k_So_sin C 8 L (r) hp) = (xV k_So_sin C 9 L (.int (-1) :: r) hp) := xVe _ _ _ _ _ _
theorem s_So_sin_9 (v : Int32) (l : Launch) (d b lo gz n0 s0 : Nat) (Po : Option Value → xHp → Prop) (L : List Value) (hp : xHp) : (xV k_So_sin (l, d, b, lo, gz, n0, s0, m_So_sin, Po) 9 L [.int v] hp) = (Po (some (.int v)) hp) := xVe _ _ _ _ _ _
theorem s_So_sin_10 (C : xCx) (r : List Value) (hp : xHp) (x : Nat) (a1 : Value) : (xV k_So_sin C 10 [.ref x, a1] r hp) = (True ∧ xV k_So_sin C 11 [.ref x, a1] (.ref x :: r) hp) := xVe _ _ _ _ _ _
theorem s_So_sin_11 (a : Nat) (C : xCx) (L r : List Value) (hp : xHp) : (xV k_So_sin C 11 L (.ref a :: r) hp) = (xF hp a 0 5 (fun v => xV k_So_sin C 14 L (v :: r) hp)) := xVe _ _ _ _ _ _
theorem s_So_sin_14 (C : xCx) (r : List Value) (hp : xHp) (x : Nat) (a1 : Value) : (xV k_So_sin C 14 [.ref x, a1] r hp) = (True ∧ xV k_So_sin C 15 [.ref x, a1] (.ref x :: r) hp) := xVe _ _ _ _ _ _
theorem s_So_sin_15 (a : Nat) (C : xCx) (L r : List Value) (hp : xHp) : (xV k_So_sin C 15 L (.ref a :: r) hp) = (xF hp a 0 6 (fun v => xV k_So_sin C 18 L (v :: r) hp)) := xVe _ _ _ _ _ _
theorem s_So_sin_18 (C : xCx) (r : List Value) (hp : xHp) (x : Int32) (a0 : Value) : (xV k_So_sin C 18 [a0, .int x] r hp) = (xV k_So_sin C 19 [a0, .int x] (.int x :: r) hp) := xVe _ _ _ _ _ _
theorem s_So_sin_19 (x0 : Nat) (x1 : Int32) (a : Nat) (l : Launch) (d b lo gz n0 s0 : Nat) (Po : Option Value → xHp → Prop) (L r : List Value) (hp : xHp) : (xV k_So_sin (l, d + 1, b, lo, gz, n0, s0, m_So_sin, Po) 19 L (.int x1 :: .ref x0 :: .ref a :: r) hp) = (xO hp a 9 ∧ xcs r 8 ∧ xMi l d b lo gz m_Sun_hoursOf [.ref a, .ref x0, .int x1] hp (fun x hp' => xV k_So_sin (l, d + 1, b, lo, gz, n0, s0, m_So_sin, Po) 22 L (.int x :: r) hp')) := xVe _ _ _ _ _ _
theorem s_So_sin_22 (x : Int32) (C : xCx) (L r : List Value) (hp : xHp) : (xV k_So_sin C 22 L (.int x :: r) hp) = (((x ≤ 0 → xV k_So_sin C 28 L r hp) ∧ (¬ x ≤ 0 → xV k_So_sin C 25 L r hp))) := xVe _ _ _ _ _ _
theorem s_So_sin_25  (C : xCx) (L r : List Value) (hp : xHp) : (xV k_So_sin C 25 L (r) hp) = (xV k_So_sin C 27 L (.int (-2) :: r) hp) := xVe _ _ _ _ _ _
theorem s_So_sin_27 (v : Int32) (l : Launch) (d b lo gz n0 s0 : Nat) (Po : Option Value → xHp → Prop) (L : List Value) (hp : xHp) : (xV k_So_sin (l, d, b, lo, gz, n0, s0, m_So_sin, Po) 27 L [.int v] hp) = (Po (some (.int v)) hp) := xVe _ _ _ _ _ _
theorem s_So_sin_28 (C : xCx) (r : List Value) (hp : xHp) (x : Nat) (a1 : Value) : (xV k_So_sin C 28 [.ref x, a1] r hp) = (True ∧ xV k_So_sin C 29 [.ref x, a1] (.ref x :: r) hp) := xVe _ _ _ _ _ _
theorem s_So_sin_29 (a : Nat) (C : xCx) (L r : List Value) (hp : xHp) : (xV k_So_sin C 29 L (.ref a :: r) hp) = (xF hp a 0 6 (fun v => xV k_So_sin C 32 L (v :: r) hp)) := xVe _ _ _ _ _ _
theorem s_So_sin_32 (C : xCx) (r : List Value) (hp : xHp) (x : Int32) (a0 : Value) : (xV k_So_sin C 32 [a0, .int x] r hp) = (xV k_So_sin C 33 [a0, .int x] (.int x :: r) hp) := xVe _ _ _ _ _ _
theorem s_So_sin_33 (x0 : Int32) (a : Nat) (l : Launch) (d b lo gz n0 s0 : Nat) (Po : Option Value → xHp → Prop) (L r : List Value) (hp : xHp) : (xV k_So_sin (l, d + 1, b, lo, gz, n0, s0, m_So_sin, Po) 33 L (.int x0 :: .ref a :: r) hp) = (xO hp a 3 ∧ xcs r 8 ∧ xMv l d b lo gz m_Folk_addSin [.ref a, .int x0] hp (fun hp' => xV k_So_sin (l, d + 1, b, lo, gz, n0, s0, m_So_sin, Po) 36 L r hp')) := xVe _ _ _ _ _ _
theorem s_So_sin_36 (C : xCx) (r : List Value) (hp : xHp) (x : Nat) (a1 : Value) : (xV k_So_sin C 36 [.ref x, a1] r hp) = (True ∧ xV k_So_sin C 37 [.ref x, a1] (.ref x :: r) hp) := xVe _ _ _ _ _ _
theorem s_So_sin_37 (a : Nat) (C : xCx) (L r : List Value) (hp : xHp) : (xV k_So_sin C 37 L (.ref a :: r) hp) = (xF hp a 0 6 (fun v => xV k_So_sin C 40 L (v :: r) hp)) := xVe _ _ _ _ _ _
theorem s_So_sin_40 (C : xCx) (r : List Value) (hp : xHp) (x : Int32) (a0 : Value) : (xV k_So_sin C 40 [a0, .int x] r hp) = (xV k_So_sin C 41 [a0, .int x] (.int x :: r) hp) := xVe _ _ _ _ _ _
theorem s_So_sin_41 (x0 : Int32) (a : Nat) (l : Launch) (d b lo gz n0 s0 : Nat) (Po : Option Value → xHp → Prop) (L r : List Value) (hp : xHp) : (xV k_So_sin (l, d + 1, b, lo, gz, n0, s0, m_So_sin, Po) 41 L (.int x0 :: .ref a :: r) hp) = (xO hp a 3 ∧ xcs r 8 ∧ xMi l d b lo gz m_Folk_sins [.ref a, .int x0] hp (fun x hp' => xV k_So_sin (l, d + 1, b, lo, gz, n0, s0, m_So_sin, Po) 44 L (.int x :: r) hp')) := xVe _ _ _ _ _ _
theorem s_So_sin_44 (v : Int32) (l : Launch) (d b lo gz n0 s0 : Nat) (Po : Option Value → xHp → Prop) (L : List Value) (hp : xHp) : (xV k_So_sin (l, d, b, lo, gz, n0, s0, m_So_sin, Po) 44 L [.int v] hp) = (Po (some (.int v)) hp) := xVe _ _ _ _ _ _
theorem ml_So_245 : xLk "SunnyOnes" 245 m_So_doubt := Or.inl (wg3 172 (by decide +kernel) rfl)
def k_So_doubts : List xEC := [
  (0, .aload_n 0, 1, 0, 0, 0, m_x),
  (1, .getfield 61, 4, 0, 8, 0, m_x),
  (4, .aload_n 0, 5, 0, 0, 0, m_x),
  (5, .getfield 54, 8, 0, 6, 0, m_x),
  (8, .invokevirtual 215, 11, 3, 0, 0, m_Folk_copyFrom),
  (11, .aload_n 0, 12, 0, 0, 0, m_x),
  (12, .aload_n 0, 13, 0, 0, 0, m_x),
  (13, .aload_n 0, 14, 0, 0, 0, m_x),
  (14, .getfield 54, 17, 0, 6, 0, m_x),
  (17, .iload_n 1, 18, 0, 0, 0, m_x),
  (18, .iload_n 2, 19, 0, 0, 0, m_x),
  (19, .invokevirtual 245, 22, 0, 0, 0, m_So_doubt),
  (22, .invokevirtual 236, 25, 0, 0, 0, m_So_done),
  (25, .ireturn, 26, 0, 0, 0, m_x)]
theorem dc_So_doubts : ∀ E ∈ k_So_doubts, xDc m_So_doubts E := by decide +kernel
set_option maxRecDepth 20000 in
theorem ok_So_doubts : ∀ E ∈ k_So_doubts, xOk m_So_doubts E := xok_of dc_So_doubts (xfc trivial (xfc fl_So_61 (xfc trivial (xfc fl_So_54 (xfc ⟨ml_So_215, kd_Folk_copyFrom⟩ (xfc trivial (xfc trivial (xfc trivial (xfc fl_So_54 (xfc trivial (xfc trivial (xfc ⟨ml_So_245, kd_So_doubt⟩ (xfc ⟨ml_So_236, kd_So_done⟩ (xfc trivial (xfn)))))))))))))))
theorem s_So_doubts_0 (C : xCx) (r : List Value) (hp : xHp) (x : Nat) (a1 a2 : Value) : (xV k_So_doubts C 0 [.ref x, a1, a2] r hp) = (True ∧ xV k_So_doubts C 1 [.ref x, a1, a2] (.ref x :: r) hp) := xVe _ _ _ _ _ _
theorem s_So_doubts_1 (a : Nat) (C : xCx) (L r : List Value) (hp : xHp) : (xV k_So_doubts C 1 L (.ref a :: r) hp) = (xF hp a 0 8 (fun v => xV k_So_doubts C 4 L (v :: r) hp)) := xVe _ _ _ _ _ _
theorem s_So_doubts_4 (C : xCx) (r : List Value) (hp : xHp) (x : Nat) (a1 a2 : Value) : (xV k_So_doubts C 4 [.ref x, a1, a2] r hp) = (True ∧ xV k_So_doubts C 5 [.ref x, a1, a2] (.ref x :: r) hp) := xVe _ _ _ _ _ _
theorem s_So_doubts_5 (a : Nat) (C : xCx) (L r : List Value) (hp : xHp) : (xV k_So_doubts C 5 L (.ref a :: r) hp) = (xF hp a 0 6 (fun v => xV k_So_doubts C 8 L (v :: r) hp)) := xVe _ _ _ _ _ _
theorem s_So_doubts_8 (x0 : Nat) (a : Nat) (l : Launch) (d b lo gz n0 s0 : Nat) (Po : Option Value → xHp → Prop) (L r : List Value) (hp : xHp) : (xV k_So_doubts (l, d + 1, b, lo, gz, n0, s0, m_So_doubts, Po) 8 L (.ref x0 :: .ref a :: r) hp) = (xO hp a 3 ∧ xcs r 8 ∧ xMv l d b lo gz m_Folk_copyFrom [.ref a, .ref x0] hp (fun hp' => xV k_So_doubts (l, d + 1, b, lo, gz, n0, s0, m_So_doubts, Po) 11 L r hp')) := xVe _ _ _ _ _ _
theorem s_So_doubts_11 (C : xCx) (r : List Value) (hp : xHp) (x : Nat) (a1 a2 : Value) : (xV k_So_doubts C 11 [.ref x, a1, a2] r hp) = (True ∧ xV k_So_doubts C 12 [.ref x, a1, a2] (.ref x :: r) hp) := xVe _ _ _ _ _ _
theorem s_So_doubts_12 (C : xCx) (r : List Value) (hp : xHp) (x : Nat) (a1 a2 : Value) : (xV k_So_doubts C 12 [.ref x, a1, a2] r hp) = (True ∧ xV k_So_doubts C 13 [.ref x, a1, a2] (.ref x :: r) hp) := xVe _ _ _ _ _ _
theorem s_So_doubts_13 (C : xCx) (r : List Value) (hp : xHp) (x : Nat) (a1 a2 : Value) : (xV k_So_doubts C 13 [.ref x, a1, a2] r hp) = (True ∧ xV k_So_doubts C 14 [.ref x, a1, a2] (.ref x :: r) hp) := xVe _ _ _ _ _ _
theorem s_So_doubts_14 (a : Nat) (C : xCx) (L r : List Value) (hp : xHp) : (xV k_So_doubts C 14 L (.ref a :: r) hp) = (xF hp a 0 6 (fun v => xV k_So_doubts C 17 L (v :: r) hp)) := xVe _ _ _ _ _ _
theorem s_So_doubts_17 (C : xCx) (r : List Value) (hp : xHp) (x : Int32) (a0 a2 : Value) : (xV k_So_doubts C 17 [a0, .int x, a2] r hp) = (xV k_So_doubts C 18 [a0, .int x, a2] (.int x :: r) hp) := xVe _ _ _ _ _ _
theorem s_So_doubts_18 (C : xCx) (r : List Value) (hp : xHp) (x : Int32) (a0 a1 : Value) : (xV k_So_doubts C 18 [a0, a1, .int x] r hp) = (xV k_So_doubts C 19 [a0, a1, .int x] (.int x :: r) hp) := xVe _ _ _ _ _ _
theorem s_So_doubts_19 (x0 : Nat) (x1 : Int32) (x2 : Int32) (a : Nat) (l : Launch) (d b lo gz n0 s0 : Nat) (Po : Option Value → xHp → Prop) (L r : List Value) (hp : xHp) : (xV k_So_doubts (l, d + 1, b, lo, gz, n0, s0, m_So_doubts, Po) 19 L (.int x2 :: .int x1 :: .ref x0 :: .ref a :: r) hp) = (xO hp a 0 ∧ xcs r 8 ∧ xMi l d b lo gz m_So_doubt [.ref a, .ref x0, .int x1, .int x2] hp (fun x hp' => xV k_So_doubts (l, d + 1, b, lo, gz, n0, s0, m_So_doubts, Po) 22 L (.int x :: r) hp')) := xVe _ _ _ _ _ _
theorem s_So_doubts_22 (x0 : Int32) (a : Nat) (l : Launch) (d b lo gz n0 s0 : Nat) (Po : Option Value → xHp → Prop) (L r : List Value) (hp : xHp) : (xV k_So_doubts (l, d + 1, b, lo, gz, n0, s0, m_So_doubts, Po) 22 L (.int x0 :: .ref a :: r) hp) = (xO hp a 0 ∧ xcs r 8 ∧ xMi l d b lo gz m_So_done [.ref a, .int x0] hp (fun x hp' => xV k_So_doubts (l, d + 1, b, lo, gz, n0, s0, m_So_doubts, Po) 25 L (.int x :: r) hp')) := xVe _ _ _ _ _ _
theorem s_So_doubts_25 (v : Int32) (l : Launch) (d b lo gz n0 s0 : Nat) (Po : Option Value → xHp → Prop) (L : List Value) (hp : xHp) : (xV k_So_doubts (l, d, b, lo, gz, n0, s0, m_So_doubts, Po) 25 L [.int v] hp) = (Po (some (.int v)) hp) := xVe _ _ _ _ _ _
theorem ml_So_185 : xLk "SunnyOnes" 185 m_Folk_age := Or.inl (wg3 176 (by decide +kernel) rfl)
theorem ml_So_278 : xLk "SunnyOnes" 278 m_Math_max := Or.inl (wg3 177 (by decide +kernel) rfl)
theorem ml_So_281 : xLk "SunnyOnes" 281 m_Folk_setAge := Or.inl (wg3 180 (by decide +kernel) rfl)
def k_So_doubt : List xEC := [
  (0, .aload_n 0, 1, 0, 0, 0, m_x),
  (1, .iload_n 2, 2, 0, 0, 0, m_x),
  (2, .invokevirtual 179, 5, 0, 0, 0, m_So_has),
  (5, .ifCond .eq 14, 8, 0, 19, 0, m_x),
  (8, .iload_n 3, 9, 0, 0, 0, m_x),
  (9, .iconst 1, 10, 0, 0, 0, m_x),
  (10, .if_icmp .lt 9, 13, 0, 19, 0, m_x),
  (13, .iload_n 3, 14, 0, 0, 0, m_x),
  (14, .bipush 99, 16, 0, 0, 0, m_x),
  (16, .if_icmp .le 5, 19, 0, 21, 0, m_x),
  (19, .iconst (-1), 20, 0, 0, 0, m_x),
  (20, .ireturn, 21, 0, 0, 0, m_x),
  (21, .aload_n 1, 22, 0, 0, 0, m_x),
  (22, .iload_n 2, 23, 0, 0, 0, m_x),
  (23, .invokevirtual 185, 26, 3, 0, 0, m_Folk_age),
  (26, .istore 4, 28, 0, 0, 0, m_x),
  (28, .iload 4, 30, 0, 0, 0, m_x),
  (30, .ifCond .ne 6, 33, 0, 36, 0, m_x),
  (33, .bipush (-2), 35, 0, 0, 0, m_x),
  (35, .ireturn, 36, 0, 0, 0, m_x),
  (36, .aload_n 1, 37, 0, 0, 0, m_x),
  (37, .iload_n 2, 38, 0, 0, 0, m_x),
  (38, .iconst 0, 39, 0, 0, 0, m_x),
  (39, .iload 4, 41, 0, 0, 0, m_x),
  (41, .iload_n 3, 42, 0, 0, 0, m_x),
  (42, .isub, 43, 0, 0, 0, m_x),
  (43, .invokestatic 278, 46, 0, 0, 0, m_Math_max),
  (46, .invokevirtual 281, 49, 3, 0, 0, m_Folk_setAge),
  (49, .aload_n 1, 50, 0, 0, 0, m_x),
  (50, .iload_n 2, 51, 0, 0, 0, m_x),
  (51, .invokevirtual 185, 54, 3, 0, 0, m_Folk_age),
  (54, .ireturn, 55, 0, 0, 0, m_x)]
theorem dc_So_doubt : ∀ E ∈ k_So_doubt, xDc m_So_doubt E := by decide +kernel
set_option maxRecDepth 20000 in
theorem ok_So_doubt : ∀ E ∈ k_So_doubt, xOk m_So_doubt E := xok_of dc_So_doubt (xfc trivial (xfc trivial (xfc ⟨ml_So_179, kd_So_has⟩ (xfc (show ((5 : Nat) : Int) + (14) = ((19 : Nat) : Int) from by decide) (xfc trivial (xfc trivial (xfc (show ((10 : Nat) : Int) + (9) = ((19 : Nat) : Int) from by decide) (xfc trivial (xfc trivial (xfc (show ((16 : Nat) : Int) + (5) = ((21 : Nat) : Int) from by decide) (xfc trivial (xfc trivial (xfc trivial (xfc trivial (xfc ⟨ml_So_185, kd_Folk_age⟩ (xfc trivial (xfc trivial (xfc (show ((30 : Nat) : Int) + (6) = ((36 : Nat) : Int) from by decide) (xfc trivial (xfc trivial (xfc trivial (xfc trivial (xfc trivial (xfc trivial (xfc trivial (xfc trivial (xfc ⟨ml_So_278, kd_Math_max⟩ (xfc ⟨ml_So_281, kd_Folk_setAge⟩ (xfc trivial (xfc trivial (xfc ⟨ml_So_185, kd_Folk_age⟩ (xfc trivial (xfn)))))))))))))))))))))))))))))))))
theorem s_So_doubt_0 (C : xCx) (r : List Value) (hp : xHp) (x : Nat) (a1 a2 a3 a4 : Value) : (xV k_So_doubt C 0 [.ref x, a1, a2, a3, a4] r hp) = (True ∧ xV k_So_doubt C 1 [.ref x, a1, a2, a3, a4] (.ref x :: r) hp) := xVe _ _ _ _ _ _
theorem s_So_doubt_1 (C : xCx) (r : List Value) (hp : xHp) (x : Int32) (a0 a1 a3 a4 : Value) : (xV k_So_doubt C 1 [a0, a1, .int x, a3, a4] r hp) = (xV k_So_doubt C 2 [a0, a1, .int x, a3, a4] (.int x :: r) hp) := xVe _ _ _ _ _ _
theorem s_So_doubt_2 (x0 : Int32) (a : Nat) (l : Launch) (d b lo gz n0 s0 : Nat) (Po : Option Value → xHp → Prop) (L r : List Value) (hp : xHp) : (xV k_So_doubt (l, d + 1, b, lo, gz, n0, s0, m_So_doubt, Po) 2 L (.int x0 :: .ref a :: r) hp) = (xO hp a 0 ∧ xcs r 8 ∧ xMi l d b lo gz m_So_has [.ref a, .int x0] hp (fun x hp' => xV k_So_doubt (l, d + 1, b, lo, gz, n0, s0, m_So_doubt, Po) 5 L (.int x :: r) hp')) := xVe _ _ _ _ _ _
theorem s_So_doubt_5 (x : Int32) (C : xCx) (L r : List Value) (hp : xHp) : (xV k_So_doubt C 5 L (.int x :: r) hp) = (((x = 0 → xV k_So_doubt C 19 L r hp) ∧ (¬ x = 0 → xV k_So_doubt C 8 L r hp))) := xVe _ _ _ _ _ _
theorem s_So_doubt_8 (C : xCx) (r : List Value) (hp : xHp) (x : Int32) (a0 a1 a2 a4 : Value) : (xV k_So_doubt C 8 [a0, a1, a2, .int x, a4] r hp) = (xV k_So_doubt C 9 [a0, a1, a2, .int x, a4] (.int x :: r) hp) := xVe _ _ _ _ _ _
theorem s_So_doubt_9  (C : xCx) (L r : List Value) (hp : xHp) : (xV k_So_doubt C 9 L (r) hp) = (xV k_So_doubt C 10 L (.int (1) :: r) hp) := xVe _ _ _ _ _ _
theorem s_So_doubt_10 (x y : Int32) (C : xCx) (L r : List Value) (hp : xHp) : (xV k_So_doubt C 10 L (.int y :: .int x :: r) hp) = (((x < y → xV k_So_doubt C 19 L r hp) ∧ (¬ x < y → xV k_So_doubt C 13 L r hp))) := xVe _ _ _ _ _ _
theorem s_So_doubt_13 (C : xCx) (r : List Value) (hp : xHp) (x : Int32) (a0 a1 a2 a4 : Value) : (xV k_So_doubt C 13 [a0, a1, a2, .int x, a4] r hp) = (xV k_So_doubt C 14 [a0, a1, a2, .int x, a4] (.int x :: r) hp) := xVe _ _ _ _ _ _
theorem s_So_doubt_14  (C : xCx) (L r : List Value) (hp : xHp) : (xV k_So_doubt C 14 L (r) hp) = (xV k_So_doubt C 16 L (.int (99) :: r) hp) := xVe _ _ _ _ _ _
theorem s_So_doubt_16 (x y : Int32) (C : xCx) (L r : List Value) (hp : xHp) : (xV k_So_doubt C 16 L (.int y :: .int x :: r) hp) = (((x ≤ y → xV k_So_doubt C 21 L r hp) ∧ (¬ x ≤ y → xV k_So_doubt C 19 L r hp))) := xVe _ _ _ _ _ _
theorem s_So_doubt_19  (C : xCx) (L r : List Value) (hp : xHp) : (xV k_So_doubt C 19 L (r) hp) = (xV k_So_doubt C 20 L (.int (-1) :: r) hp) := xVe _ _ _ _ _ _
theorem s_So_doubt_20 (v : Int32) (l : Launch) (d b lo gz n0 s0 : Nat) (Po : Option Value → xHp → Prop) (L : List Value) (hp : xHp) : (xV k_So_doubt (l, d, b, lo, gz, n0, s0, m_So_doubt, Po) 20 L [.int v] hp) = (Po (some (.int v)) hp) := xVe _ _ _ _ _ _
theorem s_So_doubt_21 (C : xCx) (r : List Value) (hp : xHp) (x : Nat) (a0 a2 a3 a4 : Value) : (xV k_So_doubt C 21 [a0, .ref x, a2, a3, a4] r hp) = (True ∧ xV k_So_doubt C 22 [a0, .ref x, a2, a3, a4] (.ref x :: r) hp) := xVe _ _ _ _ _ _
theorem s_So_doubt_22 (C : xCx) (r : List Value) (hp : xHp) (x : Int32) (a0 a1 a3 a4 : Value) : (xV k_So_doubt C 22 [a0, a1, .int x, a3, a4] r hp) = (xV k_So_doubt C 23 [a0, a1, .int x, a3, a4] (.int x :: r) hp) := xVe _ _ _ _ _ _
theorem s_So_doubt_23 (x0 : Int32) (a : Nat) (l : Launch) (d b lo gz n0 s0 : Nat) (Po : Option Value → xHp → Prop) (L r : List Value) (hp : xHp) : (xV k_So_doubt (l, d + 1, b, lo, gz, n0, s0, m_So_doubt, Po) 23 L (.int x0 :: .ref a :: r) hp) = (xO hp a 3 ∧ xcs r 8 ∧ xMi l d b lo gz m_Folk_age [.ref a, .int x0] hp (fun x hp' => xV k_So_doubt (l, d + 1, b, lo, gz, n0, s0, m_So_doubt, Po) 26 L (.int x :: r) hp')) := xVe _ _ _ _ _ _
theorem s_So_doubt_26 (C : xCx) (r : List Value) (hp : xHp) (x : Int32) (a0 a1 a2 a3 a4 : Value) : (xV k_So_doubt C 26 [a0, a1, a2, a3, a4] (.int x :: r) hp) = (4 < 5 ∧ xNl [a0, a1, a2, a3, a4] 4 ∧ xV k_So_doubt C 28 [a0, a1, a2, a3, .int x] r hp) := xVe _ _ _ _ _ _
theorem s_So_doubt_28 (C : xCx) (r : List Value) (hp : xHp) (x : Int32) (a0 a1 a2 a3 : Value) : (xV k_So_doubt C 28 [a0, a1, a2, a3, .int x] r hp) = (xV k_So_doubt C 30 [a0, a1, a2, a3, .int x] (.int x :: r) hp) := xVe _ _ _ _ _ _
theorem s_So_doubt_30 (x : Int32) (C : xCx) (L r : List Value) (hp : xHp) : (xV k_So_doubt C 30 L (.int x :: r) hp) = (((¬ x = 0 → xV k_So_doubt C 36 L r hp) ∧ (x = 0 → xV k_So_doubt C 33 L r hp))) := xVe _ _ _ _ _ _
theorem s_So_doubt_33  (C : xCx) (L r : List Value) (hp : xHp) : (xV k_So_doubt C 33 L (r) hp) = (xV k_So_doubt C 35 L (.int (-2) :: r) hp) := xVe _ _ _ _ _ _
theorem s_So_doubt_35 (v : Int32) (l : Launch) (d b lo gz n0 s0 : Nat) (Po : Option Value → xHp → Prop) (L : List Value) (hp : xHp) : (xV k_So_doubt (l, d, b, lo, gz, n0, s0, m_So_doubt, Po) 35 L [.int v] hp) = (Po (some (.int v)) hp) := xVe _ _ _ _ _ _
theorem s_So_doubt_36 (C : xCx) (r : List Value) (hp : xHp) (x : Nat) (a0 a2 a3 a4 : Value) : (xV k_So_doubt C 36 [a0, .ref x, a2, a3, a4] r hp) = (True ∧ xV k_So_doubt C 37 [a0, .ref x, a2, a3, a4] (.ref x :: r) hp) := xVe _ _ _ _ _ _
theorem s_So_doubt_37 (C : xCx) (r : List Value) (hp : xHp) (x : Int32) (a0 a1 a3 a4 : Value) : (xV k_So_doubt C 37 [a0, a1, .int x, a3, a4] r hp) = (xV k_So_doubt C 38 [a0, a1, .int x, a3, a4] (.int x :: r) hp) := xVe _ _ _ _ _ _
theorem s_So_doubt_38  (C : xCx) (L r : List Value) (hp : xHp) : (xV k_So_doubt C 38 L (r) hp) = (xV k_So_doubt C 39 L (.int (0) :: r) hp) := xVe _ _ _ _ _ _
theorem s_So_doubt_39 (C : xCx) (r : List Value) (hp : xHp) (x : Int32) (a0 a1 a2 a3 : Value) : (xV k_So_doubt C 39 [a0, a1, a2, a3, .int x] r hp) = (xV k_So_doubt C 41 [a0, a1, a2, a3, .int x] (.int x :: r) hp) := xVe _ _ _ _ _ _
theorem s_So_doubt_41 (C : xCx) (r : List Value) (hp : xHp) (x : Int32) (a0 a1 a2 a4 : Value) : (xV k_So_doubt C 41 [a0, a1, a2, .int x, a4] r hp) = (xV k_So_doubt C 42 [a0, a1, a2, .int x, a4] (.int x :: r) hp) := xVe _ _ _ _ _ _
theorem s_So_doubt_42 (x y : Int32) (C : xCx) (L r : List Value) (hp : xHp) : (xV k_So_doubt C 42 L (.int y :: .int x :: r) hp) = (xV k_So_doubt C 43 L (.int (x - y) :: r) hp) := xVe _ _ _ _ _ _
theorem s_So_doubt_43 (x0 : Int32) (x1 : Int32) (l : Launch) (d b lo gz n0 s0 : Nat) (Po : Option Value → xHp → Prop) (L r : List Value) (hp : xHp) : (xV k_So_doubt (l, d + 1, b, lo, gz, n0, s0, m_So_doubt, Po) 43 L (.int x1 :: .int x0 :: r) hp) = (2 ≤ List.length (.int x1 :: .int x0 :: r) ∧ xcs r 8 ∧ xMi l d b lo gz m_Math_max [.int x0, .int x1] hp (fun x hp' => xV k_So_doubt (l, d + 1, b, lo, gz, n0, s0, m_So_doubt, Po) 46 L (.int x :: r) hp')) := xVe _ _ _ _ _ _
theorem s_So_doubt_46 (x0 : Int32) (x1 : Int32) (a : Nat) (l : Launch) (d b lo gz n0 s0 : Nat) (Po : Option Value → xHp → Prop) (L r : List Value) (hp : xHp) : (xV k_So_doubt (l, d + 1, b, lo, gz, n0, s0, m_So_doubt, Po) 46 L (.int x1 :: .int x0 :: .ref a :: r) hp) = (xO hp a 3 ∧ xcs r 8 ∧ xMv l d b lo gz m_Folk_setAge [.ref a, .int x0, .int x1] hp (fun hp' => xV k_So_doubt (l, d + 1, b, lo, gz, n0, s0, m_So_doubt, Po) 49 L r hp')) := xVe _ _ _ _ _ _
theorem s_So_doubt_49 (C : xCx) (r : List Value) (hp : xHp) (x : Nat) (a0 a2 a3 a4 : Value) : (xV k_So_doubt C 49 [a0, .ref x, a2, a3, a4] r hp) = (True ∧ xV k_So_doubt C 50 [a0, .ref x, a2, a3, a4] (.ref x :: r) hp) := xVe _ _ _ _ _ _
theorem s_So_doubt_50 (C : xCx) (r : List Value) (hp : xHp) (x : Int32) (a0 a1 a3 a4 : Value) : (xV k_So_doubt C 50 [a0, a1, .int x, a3, a4] r hp) = (xV k_So_doubt C 51 [a0, a1, .int x, a3, a4] (.int x :: r) hp) := xVe _ _ _ _ _ _
theorem s_So_doubt_51 (x0 : Int32) (a : Nat) (l : Launch) (d b lo gz n0 s0 : Nat) (Po : Option Value → xHp → Prop) (L r : List Value) (hp : xHp) : (xV k_So_doubt (l, d + 1, b, lo, gz, n0, s0, m_So_doubt, Po) 51 L (.int x0 :: .ref a :: r) hp) = (xO hp a 3 ∧ xcs r 8 ∧ xMi l d b lo gz m_Folk_age [.ref a, .int x0] hp (fun x hp' => xV k_So_doubt (l, d + 1, b, lo, gz, n0, s0, m_So_doubt, Po) 54 L (.int x :: r) hp')) := xVe _ _ _ _ _ _
theorem s_So_doubt_54 (v : Int32) (l : Launch) (d b lo gz n0 s0 : Nat) (Po : Option Value → xHp → Prop) (L : List Value) (hp : xHp) : (xV k_So_doubt (l, d, b, lo, gz, n0, s0, m_So_doubt, Po) 54 L [.int v] hp) = (Po (some (.int v)) hp) := xVe _ _ _ _ _ _
theorem ml_So_248 : xLk "SunnyOnes" 248 m_Text_badAct := Or.inl (wg3 188 (by decide +kernel) rfl)
theorem ml_So_251 : xLk "SunnyOnes" 251 m_So_act := Or.inl (wg3 195 (by decide +kernel) rfl)
theorem ml_So_254 : xLk "SunnyOnes" 254 m_Text_at := Or.inl (wg3 199 (by decide +kernel) rfl)
theorem ml_So_257 : xLk "SunnyOnes" 257 m_Text_digitsBehind := Or.inl (wg3 204 (by decide +kernel) rfl)
def k_So_life : List xEC := [
  (0, .aload_n 0, 1, 0, 0, 0, m_x),
  (1, .getfield 10, 4, 0, 0, 0, m_x),
  (4, .invokevirtual 248, 7, 10, 0, 0, m_Text_badAct),
  (7, .istore_n 1, 8, 0, 0, 0, m_x),
  (8, .iload_n 1, 9, 0, 0, 0, m_x),
  (9, .iconst (-1), 10, 0, 0, 0, m_x),
  (10, .if_icmp .eq 14, 13, 0, 24, 0, m_x),
  (13, .aload_n 0, 14, 0, 0, 0, m_x),
  (14, .getfield 10, 17, 0, 0, 0, m_x),
  (17, .invokevirtual 157, 20, 10, 0, 0, m_Text_clear),
  (20, .iconst (-1), 21, 0, 0, 0, m_x),
  (21, .iload_n 1, 22, 0, 0, 0, m_x),
  (22, .isub, 23, 0, 0, 0, m_x),
  (23, .ireturn, 24, 0, 0, 0, m_x),
  (24, .aload_n 0, 25, 0, 0, 0, m_x),
  (25, .getfield 61, 28, 0, 8, 0, m_x),
  (28, .aload_n 0, 29, 0, 0, 0, m_x),
  (29, .getfield 54, 32, 0, 6, 0, m_x),
  (32, .invokevirtual 215, 35, 3, 0, 0, m_Folk_copyFrom),
  (35, .iconst 0, 36, 0, 0, 0, m_x),
  (36, .istore_n 2, 37, 0, 0, 0, m_x),
  (37, .iconst 0, 38, 0, 0, 0, m_x),
  (38, .istore_n 3, 39, 0, 0, 0, m_x),
  (39, .iconst 0, 40, 0, 0, 0, m_x),
  (40, .istore 4, 42, 0, 0, 0, m_x),
  (42, .iconst 0, 43, 0, 0, 0, m_x),
  (43, .istore 5, 45, 0, 0, 0, m_x),
  (45, .iload 5, 47, 0, 0, 0, m_x),
  (47, .bipush 80, 49, 0, 0, 0, m_x),
  (49, .if_icmp .ge 61, 52, 0, 110, 0, m_x),
  (52, .iload 4, 54, 0, 0, 0, m_x),
  (54, .aload_n 0, 55, 0, 0, 0, m_x),
  (55, .getfield 10, 58, 0, 0, 0, m_x),
  (58, .invokevirtual 122, 61, 10, 0, 0, m_Text_length),
  (61, .if_icmp .ge 49, 64, 0, 110, 0, m_x),
  (64, .iload_n 3, 65, 0, 0, 0, m_x),
  (65, .ifCond .ne 45, 68, 0, 110, 0, m_x),
  (68, .aload_n 0, 69, 0, 0, 0, m_x),
  (69, .iload 4, 71, 0, 0, 0, m_x),
  (71, .invokevirtual 251, 74, 0, 0, 0, m_So_act),
  (74, .ifCond .ge 8, 77, 0, 82, 0, m_x),
  (77, .iconst 1, 78, 0, 0, 0, m_x),
  (78, .istore_n 3, 79, 0, 0, 0, m_x),
  (79, .goto 25, 82, 0, 104, 0, m_x),
  (82, .iinc 2 1, 85, 0, 0, 0, m_x),
  (85, .iload 4, 87, 0, 0, 0, m_x),
  (87, .iconst 1, 88, 0, 0, 0, m_x),
  (88, .aload_n 0, 89, 0, 0, 0, m_x),
  (89, .getfield 10, 92, 0, 0, 0, m_x),
  (92, .iload 4, 94, 0, 0, 0, m_x),
  (94, .invokevirtual 254, 97, 10, 0, 0, m_Text_at),
  (97, .invokestatic 257, 100, 0, 0, 0, m_Text_digitsBehind),
  (100, .iadd, 101, 0, 0, 0, m_x),
  (101, .iadd, 102, 0, 0, 0, m_x),
  (102, .istore 4, 104, 0, 0, 0, m_x),
  (104, .iinc 5 1, 107, 0, 0, 0, m_x),
  (107, .goto (-62), 110, 0, 45, 0, m_x),
  (110, .aload_n 0, 111, 0, 0, 0, m_x),
  (111, .getfield 10, 114, 0, 0, 0, m_x),
  (114, .invokevirtual 157, 117, 10, 0, 0, m_Text_clear),
  (117, .iload_n 2, 118, 0, 0, 0, m_x),
  (118, .ifCond .le 14, 121, 0, 132, 0, m_x),
  (121, .aload_n 0, 122, 0, 0, 0, m_x),
  (122, .getfield 67, 125, 0, 9, 0, m_x),
  (125, .aload_n 0, 126, 0, 0, 0, m_x),
  (126, .getfield 61, 129, 0, 8, 0, m_x),
  (129, .invokevirtual 222, 132, 5, 0, 0, m_Past_push),
  (132, .aload_n 0, 133, 0, 0, 0, m_x),
  (133, .getfield 19, 136, 0, 1, 0, m_x),
  (136, .iload_n 3, 137, 0, 0, 0, m_x),
  (137, .i2l, 138, 0, 0, 0, m_x),
  (138, .aload_n 0, 139, 0, 0, 0, m_x),
  (139, .getfield 54, 142, 0, 6, 0, m_x),
  (142, .invokevirtual 229, 145, 3, 0, 0, m_Folk_ages),
  (145, .i2l, 146, 0, 0, 0, m_x),
  (146, .invokevirtual 225, 149, 7, 0, 0, m_Row_tell2),
  (149, .iload_n 2, 150, 0, 0, 0, m_x),
  (150, .ireturn, 151, 0, 0, 0, m_x)]
theorem dc_So_life : ∀ E ∈ k_So_life, xDc m_So_life E := by decide +kernel
set_option maxRecDepth 20000 in
theorem ok_So_life : ∀ E ∈ k_So_life, xOk m_So_life E := xok_of dc_So_life (xfc trivial (xfc fl_So_10 (xfc ⟨ml_So_248, kd_Text_badAct⟩ (xfc trivial (xfc trivial (xfc trivial (xfc (show ((10 : Nat) : Int) + (14) = ((24 : Nat) : Int) from by decide) (xfc trivial (xfc fl_So_10 (xfc ⟨ml_So_157, kd_Text_clear⟩ (xfc trivial (xfc trivial (xfc trivial (xfc trivial (xfc trivial (xfc fl_So_61 (xfc trivial (xfc fl_So_54 (xfc ⟨ml_So_215, kd_Folk_copyFrom⟩ (xfc trivial (xfc trivial (xfc trivial (xfc trivial (xfc trivial (xfc trivial (xfc trivial (xfc trivial (xfc trivial (xfc trivial (xfc (show ((49 : Nat) : Int) + (61) = ((110 : Nat) : Int) from by decide) (xfc trivial (xfc trivial (xfc fl_So_10 (xfc ⟨ml_So_122, kd_Text_length⟩ (xfc (show ((61 : Nat) : Int) + (49) = ((110 : Nat) : Int) from by decide) (xfc trivial (xfc (show ((65 : Nat) : Int) + (45) = ((110 : Nat) : Int) from by decide) (xfc trivial (xfc trivial (xfc ⟨ml_So_251, kd_So_act⟩ (xfc (show ((74 : Nat) : Int) + (8) = ((82 : Nat) : Int) from by decide) (xfc trivial (xfc trivial (xfc (show ((79 : Nat) : Int) + (25) = ((104 : Nat) : Int) from by decide) (xfc trivial (xfc trivial (xfc trivial (xfc trivial (xfc fl_So_10 (xfc trivial (xfc ⟨ml_So_254, kd_Text_at⟩ (xfc ⟨ml_So_257, kd_Text_digitsBehind⟩ (xfc trivial (xfc trivial (xfc trivial (xfc trivial (xfc (show ((107 : Nat) : Int) + (-62) = ((45 : Nat) : Int) from by decide) (xfc trivial (xfc fl_So_10 (xfc ⟨ml_So_157, kd_Text_clear⟩ (xfc trivial (xfc (show ((118 : Nat) : Int) + (14) = ((132 : Nat) : Int) from by decide) (xfc trivial (xfc fl_So_67 (xfc trivial (xfc fl_So_61 (xfc ⟨ml_So_222, kd_Past_push⟩ (xfc trivial (xfc fl_So_19 (xfc trivial (xfc trivial (xfc trivial (xfc fl_So_54 (xfc ⟨ml_So_229, kd_Folk_ages⟩ (xfc trivial (xfc ⟨ml_So_225, kd_Row_tell2⟩ (xfc trivial (xfc trivial (xfn)))))))))))))))))))))))))))))))))))))))))))))))))))))))))))))))))))))))))))))))
theorem s_So_life_0 (C : xCx) (r : List Value) (hp : xHp) (x : Nat) (a1 a2 a3 a4 a5 : Value) : (xV k_So_life C 0 [.ref x, a1, a2, a3, a4, a5] r hp) = (True ∧ xV k_So_life C 1 [.ref x, a1, a2, a3, a4, a5] (.ref x :: r) hp) := xVe _ _ _ _ _ _
theorem s_So_life_1 (a : Nat) (C : xCx) (L r : List Value) (hp : xHp) : (xV k_So_life C 1 L (.ref a :: r) hp) = (xF hp a 0 0 (fun v => xV k_So_life C 4 L (v :: r) hp)) := xVe _ _ _ _ _ _
theorem s_So_life_4 (a : Nat) (l : Launch) (d b lo gz n0 s0 : Nat) (Po : Option Value → xHp → Prop) (L r : List Value) (hp : xHp) : (xV k_So_life (l, d + 1, b, lo, gz, n0, s0, m_So_life, Po) 4 L (.ref a :: r) hp) = (xO hp a 10 ∧ xcs r 8 ∧ xMi l d b lo gz m_Text_badAct [.ref a] hp (fun x hp' => xV k_So_life (l, d + 1, b, lo, gz, n0, s0, m_So_life, Po) 7 L (.int x :: r) hp')) := xVe _ _ _ _ _ _
theorem s_So_life_7 (C : xCx) (r : List Value) (hp : xHp) (x : Int32) (a0 a1 a2 a3 a4 a5 : Value) : (xV k_So_life C 7 [a0, a1, a2, a3, a4, a5] (.int x :: r) hp) = (1 < 6 ∧ xNl [a0, a1, a2, a3, a4, a5] 1 ∧ xV k_So_life C 8 [a0, .int x, a2, a3, a4, a5] r hp) := xVe _ _ _ _ _ _
theorem s_So_life_8 (C : xCx) (r : List Value) (hp : xHp) (x : Int32) (a0 a2 a3 a4 a5 : Value) : (xV k_So_life C 8 [a0, .int x, a2, a3, a4, a5] r hp) = (xV k_So_life C 9 [a0, .int x, a2, a3, a4, a5] (.int x :: r) hp) := xVe _ _ _ _ _ _
theorem s_So_life_9  (C : xCx) (L r : List Value) (hp : xHp) : (xV k_So_life C 9 L (r) hp) = (xV k_So_life C 10 L (.int (-1) :: r) hp) := xVe _ _ _ _ _ _
theorem s_So_life_10 (x y : Int32) (C : xCx) (L r : List Value) (hp : xHp) : (xV k_So_life C 10 L (.int y :: .int x :: r) hp) = (((x = y → xV k_So_life C 24 L r hp) ∧ (¬ x = y → xV k_So_life C 13 L r hp))) := xVe _ _ _ _ _ _
theorem s_So_life_13 (C : xCx) (r : List Value) (hp : xHp) (x : Nat) (a1 a2 a3 a4 a5 : Value) : (xV k_So_life C 13 [.ref x, a1, a2, a3, a4, a5] r hp) = (True ∧ xV k_So_life C 14 [.ref x, a1, a2, a3, a4, a5] (.ref x :: r) hp) := xVe _ _ _ _ _ _
theorem s_So_life_14 (a : Nat) (C : xCx) (L r : List Value) (hp : xHp) : (xV k_So_life C 14 L (.ref a :: r) hp) = (xF hp a 0 0 (fun v => xV k_So_life C 17 L (v :: r) hp)) := xVe _ _ _ _ _ _
theorem s_So_life_17 (a : Nat) (l : Launch) (d b lo gz n0 s0 : Nat) (Po : Option Value → xHp → Prop) (L r : List Value) (hp : xHp) : (xV k_So_life (l, d + 1, b, lo, gz, n0, s0, m_So_life, Po) 17 L (.ref a :: r) hp) = (xO hp a 10 ∧ xcs r 8 ∧ xMv l d b lo gz m_Text_clear [.ref a] hp (fun hp' => xV k_So_life (l, d + 1, b, lo, gz, n0, s0, m_So_life, Po) 20 L r hp')) := xVe _ _ _ _ _ _
theorem s_So_life_20  (C : xCx) (L r : List Value) (hp : xHp) : (xV k_So_life C 20 L (r) hp) = (xV k_So_life C 21 L (.int (-1) :: r) hp) := xVe _ _ _ _ _ _
theorem s_So_life_21 (C : xCx) (r : List Value) (hp : xHp) (x : Int32) (a0 a2 a3 a4 a5 : Value) : (xV k_So_life C 21 [a0, .int x, a2, a3, a4, a5] r hp) = (xV k_So_life C 22 [a0, .int x, a2, a3, a4, a5] (.int x :: r) hp) := xVe _ _ _ _ _ _
theorem s_So_life_22 (x y : Int32) (C : xCx) (L r : List Value) (hp : xHp) : (xV k_So_life C 22 L (.int y :: .int x :: r) hp) = (xV k_So_life C 23 L (.int (x - y) :: r) hp) := xVe _ _ _ _ _ _
theorem s_So_life_23 (v : Int32) (l : Launch) (d b lo gz n0 s0 : Nat) (Po : Option Value → xHp → Prop) (L : List Value) (hp : xHp) : (xV k_So_life (l, d, b, lo, gz, n0, s0, m_So_life, Po) 23 L [.int v] hp) = (Po (some (.int v)) hp) := xVe _ _ _ _ _ _
theorem s_So_life_24 (C : xCx) (r : List Value) (hp : xHp) (x : Nat) (a1 a2 a3 a4 a5 : Value) : (xV k_So_life C 24 [.ref x, a1, a2, a3, a4, a5] r hp) = (True ∧ xV k_So_life C 25 [.ref x, a1, a2, a3, a4, a5] (.ref x :: r) hp) := xVe _ _ _ _ _ _
theorem s_So_life_25 (a : Nat) (C : xCx) (L r : List Value) (hp : xHp) : (xV k_So_life C 25 L (.ref a :: r) hp) = (xF hp a 0 8 (fun v => xV k_So_life C 28 L (v :: r) hp)) := xVe _ _ _ _ _ _
theorem s_So_life_28 (C : xCx) (r : List Value) (hp : xHp) (x : Nat) (a1 a2 a3 a4 a5 : Value) : (xV k_So_life C 28 [.ref x, a1, a2, a3, a4, a5] r hp) = (True ∧ xV k_So_life C 29 [.ref x, a1, a2, a3, a4, a5] (.ref x :: r) hp) := xVe _ _ _ _ _ _
theorem s_So_life_29 (a : Nat) (C : xCx) (L r : List Value) (hp : xHp) : (xV k_So_life C 29 L (.ref a :: r) hp) = (xF hp a 0 6 (fun v => xV k_So_life C 32 L (v :: r) hp)) := xVe _ _ _ _ _ _
theorem s_So_life_32 (x0 : Nat) (a : Nat) (l : Launch) (d b lo gz n0 s0 : Nat) (Po : Option Value → xHp → Prop) (L r : List Value) (hp : xHp) : (xV k_So_life (l, d + 1, b, lo, gz, n0, s0, m_So_life, Po) 32 L (.ref x0 :: .ref a :: r) hp) = (xO hp a 3 ∧ xcs r 8 ∧ xMv l d b lo gz m_Folk_copyFrom [.ref a, .ref x0] hp (fun hp' => xV k_So_life (l, d + 1, b, lo, gz, n0, s0, m_So_life, Po) 35 L r hp')) := xVe _ _ _ _ _ _
theorem s_So_life_35  (C : xCx) (L r : List Value) (hp : xHp) : (xV k_So_life C 35 L (r) hp) = (xV k_So_life C 36 L (.int (0) :: r) hp) := xVe _ _ _ _ _ _
theorem s_So_life_36 (C : xCx) (r : List Value) (hp : xHp) (x : Int32) (a0 a1 a2 a3 a4 a5 : Value) : (xV k_So_life C 36 [a0, a1, a2, a3, a4, a5] (.int x :: r) hp) = (2 < 6 ∧ xNl [a0, a1, a2, a3, a4, a5] 2 ∧ xV k_So_life C 37 [a0, a1, .int x, a3, a4, a5] r hp) := xVe _ _ _ _ _ _
theorem s_So_life_37  (C : xCx) (L r : List Value) (hp : xHp) : (xV k_So_life C 37 L (r) hp) = (xV k_So_life C 38 L (.int (0) :: r) hp) := xVe _ _ _ _ _ _
theorem s_So_life_38 (C : xCx) (r : List Value) (hp : xHp) (x : Int32) (a0 a1 a2 a3 a4 a5 : Value) : (xV k_So_life C 38 [a0, a1, a2, a3, a4, a5] (.int x :: r) hp) = (3 < 6 ∧ xNl [a0, a1, a2, a3, a4, a5] 3 ∧ xV k_So_life C 39 [a0, a1, a2, .int x, a4, a5] r hp) := xVe _ _ _ _ _ _
theorem s_So_life_39  (C : xCx) (L r : List Value) (hp : xHp) : (xV k_So_life C 39 L (r) hp) = (xV k_So_life C 40 L (.int (0) :: r) hp) := xVe _ _ _ _ _ _
theorem s_So_life_40 (C : xCx) (r : List Value) (hp : xHp) (x : Int32) (a0 a1 a2 a3 a4 a5 : Value) : (xV k_So_life C 40 [a0, a1, a2, a3, a4, a5] (.int x :: r) hp) = (4 < 6 ∧ xNl [a0, a1, a2, a3, a4, a5] 4 ∧ xV k_So_life C 42 [a0, a1, a2, a3, .int x, a5] r hp) := xVe _ _ _ _ _ _
theorem s_So_life_42  (C : xCx) (L r : List Value) (hp : xHp) : (xV k_So_life C 42 L (r) hp) = (xV k_So_life C 43 L (.int (0) :: r) hp) := xVe _ _ _ _ _ _
theorem s_So_life_43 (C : xCx) (r : List Value) (hp : xHp) (x : Int32) (a0 a1 a2 a3 a4 a5 : Value) : (xV k_So_life C 43 [a0, a1, a2, a3, a4, a5] (.int x :: r) hp) = (5 < 6 ∧ xNl [a0, a1, a2, a3, a4, a5] 5 ∧ xV k_So_life C 45 [a0, a1, a2, a3, a4, .int x] r hp) := xVe _ _ _ _ _ _
theorem s_So_life_45 (C : xCx) (r : List Value) (hp : xHp) (x : Int32) (a0 a1 a2 a3 a4 : Value) : (xV k_So_life C 45 [a0, a1, a2, a3, a4, .int x] r hp) = (xV k_So_life C 47 [a0, a1, a2, a3, a4, .int x] (.int x :: r) hp) := xVe _ _ _ _ _ _
theorem s_So_life_47  (C : xCx) (L r : List Value) (hp : xHp) : (xV k_So_life C 47 L (r) hp) = (xV k_So_life C 49 L (.int (80) :: r) hp) := xVe _ _ _ _ _ _
theorem s_So_life_49 (x y : Int32) (C : xCx) (L r : List Value) (hp : xHp) : (xV k_So_life C 49 L (.int y :: .int x :: r) hp) = (((y ≤ x → xV k_So_life C 110 L r hp) ∧ (¬ y ≤ x → xV k_So_life C 52 L r hp))) := xVe _ _ _ _ _ _
theorem s_So_life_52 (C : xCx) (r : List Value) (hp : xHp) (x : Int32) (a0 a1 a2 a3 a5 : Value) : (xV k_So_life C 52 [a0, a1, a2, a3, .int x, a5] r hp) = (xV k_So_life C 54 [a0, a1, a2, a3, .int x, a5] (.int x :: r) hp) := xVe _ _ _ _ _ _
theorem s_So_life_54 (C : xCx) (r : List Value) (hp : xHp) (x : Nat) (a1 a2 a3 a4 a5 : Value) : (xV k_So_life C 54 [.ref x, a1, a2, a3, a4, a5] r hp) = (True ∧ xV k_So_life C 55 [.ref x, a1, a2, a3, a4, a5] (.ref x :: r) hp) := xVe _ _ _ _ _ _
theorem s_So_life_55 (a : Nat) (C : xCx) (L r : List Value) (hp : xHp) : (xV k_So_life C 55 L (.ref a :: r) hp) = (xF hp a 0 0 (fun v => xV k_So_life C 58 L (v :: r) hp)) := xVe _ _ _ _ _ _
theorem s_So_life_58 (a : Nat) (l : Launch) (d b lo gz n0 s0 : Nat) (Po : Option Value → xHp → Prop) (L r : List Value) (hp : xHp) : (xV k_So_life (l, d + 1, b, lo, gz, n0, s0, m_So_life, Po) 58 L (.ref a :: r) hp) = (xO hp a 10 ∧ xcs r 8 ∧ xMi l d b lo gz m_Text_length [.ref a] hp (fun x hp' => xV k_So_life (l, d + 1, b, lo, gz, n0, s0, m_So_life, Po) 61 L (.int x :: r) hp')) := xVe _ _ _ _ _ _
theorem s_So_life_61 (x y : Int32) (C : xCx) (L r : List Value) (hp : xHp) : (xV k_So_life C 61 L (.int y :: .int x :: r) hp) = (((y ≤ x → xV k_So_life C 110 L r hp) ∧ (¬ y ≤ x → xV k_So_life C 64 L r hp))) := xVe _ _ _ _ _ _
theorem s_So_life_64 (C : xCx) (r : List Value) (hp : xHp) (x : Int32) (a0 a1 a2 a4 a5 : Value) : (xV k_So_life C 64 [a0, a1, a2, .int x, a4, a5] r hp) = (xV k_So_life C 65 [a0, a1, a2, .int x, a4, a5] (.int x :: r) hp) := xVe _ _ _ _ _ _
theorem s_So_life_65 (x : Int32) (C : xCx) (L r : List Value) (hp : xHp) : (xV k_So_life C 65 L (.int x :: r) hp) = (((¬ x = 0 → xV k_So_life C 110 L r hp) ∧ (x = 0 → xV k_So_life C 68 L r hp))) := xVe _ _ _ _ _ _
theorem s_So_life_68 (C : xCx) (r : List Value) (hp : xHp) (x : Nat) (a1 a2 a3 a4 a5 : Value) : (xV k_So_life C 68 [.ref x, a1, a2, a3, a4, a5] r hp) = (True ∧ xV k_So_life C 69 [.ref x, a1, a2, a3, a4, a5] (.ref x :: r) hp) := xVe _ _ _ _ _ _
theorem s_So_life_69 (C : xCx) (r : List Value) (hp : xHp) (x : Int32) (a0 a1 a2 a3 a5 : Value) : (xV k_So_life C 69 [a0, a1, a2, a3, .int x, a5] r hp) = (xV k_So_life C 71 [a0, a1, a2, a3, .int x, a5] (.int x :: r) hp) := xVe _ _ _ _ _ _
theorem s_So_life_71 (x0 : Int32) (a : Nat) (l : Launch) (d b lo gz n0 s0 : Nat) (Po : Option Value → xHp → Prop) (L r : List Value) (hp : xHp) : (xV k_So_life (l, d + 1, b, lo, gz, n0, s0, m_So_life, Po) 71 L (.int x0 :: .ref a :: r) hp) = (xO hp a 0 ∧ xcs r 8 ∧ xMi l d b lo gz m_So_act [.ref a, .int x0] hp (fun x hp' => xV k_So_life (l, d + 1, b, lo, gz, n0, s0, m_So_life, Po) 74 L (.int x :: r) hp')) := xVe _ _ _ _ _ _
theorem s_So_life_74 (x : Int32) (C : xCx) (L r : List Value) (hp : xHp) : (xV k_So_life C 74 L (.int x :: r) hp) = (((0 ≤ x → xV k_So_life C 82 L r hp) ∧ (¬ 0 ≤ x → xV k_So_life C 77 L r hp))) := xVe _ _ _ _ _ _
theorem s_So_life_77  (C : xCx) (L r : List Value) (hp : xHp) : (xV k_So_life C 77 L (r) hp) = (xV k_So_life C 78 L (.int (1) :: r) hp) := xVe _ _ _ _ _ _
theorem s_So_life_78 (C : xCx) (r : List Value) (hp : xHp) (x : Int32) (a0 a1 a2 a3 a4 a5 : Value) : (xV k_So_life C 78 [a0, a1, a2, a3, a4, a5] (.int x :: r) hp) = (3 < 6 ∧ xNl [a0, a1, a2, a3, a4, a5] 3 ∧ xV k_So_life C 79 [a0, a1, a2, .int x, a4, a5] r hp) := xVe _ _ _ _ _ _
theorem s_So_life_79 (C : xCx) (L r : List Value) (hp : xHp) : (xV k_So_life C 79 L r hp) = (xV k_So_life C 104 L r hp) := xVe _ _ _ _ _ _
theorem s_So_life_82 (C : xCx) (r : List Value) (hp : xHp) (x : Int32) (a0 a1 a3 a4 a5 : Value) : (xV k_So_life C 82 [a0, a1, .int x, a3, a4, a5] r hp) = (xNl [a0, a1, .int x, a3, a4, a5] 2 ∧ xV k_So_life C 85 [a0, a1, .int (x + (1)), a3, a4, a5] r hp) := xVe _ _ _ _ _ _
theorem s_So_life_85 (C : xCx) (r : List Value) (hp : xHp) (x : Int32) (a0 a1 a2 a3 a5 : Value) : (xV k_So_life C 85 [a0, a1, a2, a3, .int x, a5] r hp) = (xV k_So_life C 87 [a0, a1, a2, a3, .int x, a5] (.int x :: r) hp) := xVe _ _ _ _ _ _
theorem s_So_life_87  (C : xCx) (L r : List Value) (hp : xHp) : (xV k_So_life C 87 L (r) hp) = (xV k_So_life C 88 L (.int (1) :: r) hp) := xVe _ _ _ _ _ _
theorem s_So_life_88 (C : xCx) (r : List Value) (hp : xHp) (x : Nat) (a1 a2 a3 a4 a5 : Value) : (xV k_So_life C 88 [.ref x, a1, a2, a3, a4, a5] r hp) = (True ∧ xV k_So_life C 89 [.ref x, a1, a2, a3, a4, a5] (.ref x :: r) hp) := xVe _ _ _ _ _ _
theorem s_So_life_89 (a : Nat) (C : xCx) (L r : List Value) (hp : xHp) : (xV k_So_life C 89 L (.ref a :: r) hp) = (xF hp a 0 0 (fun v => xV k_So_life C 92 L (v :: r) hp)) := xVe _ _ _ _ _ _
theorem s_So_life_92 (C : xCx) (r : List Value) (hp : xHp) (x : Int32) (a0 a1 a2 a3 a5 : Value) : (xV k_So_life C 92 [a0, a1, a2, a3, .int x, a5] r hp) = (xV k_So_life C 94 [a0, a1, a2, a3, .int x, a5] (.int x :: r) hp) := xVe _ _ _ _ _ _
theorem s_So_life_94 (x0 : Int32) (a : Nat) (l : Launch) (d b lo gz n0 s0 : Nat) (Po : Option Value → xHp → Prop) (L r : List Value) (hp : xHp) : (xV k_So_life (l, d + 1, b, lo, gz, n0, s0, m_So_life, Po) 94 L (.int x0 :: .ref a :: r) hp) = (xO hp a 10 ∧ xcs r 8 ∧ xMi l d b lo gz m_Text_at [.ref a, .int x0] hp (fun x hp' => xV k_So_life (l, d + 1, b, lo, gz, n0, s0, m_So_life, Po) 97 L (.int x :: r) hp')) := xVe _ _ _ _ _ _
theorem s_So_life_97 (x0 : Int32) (l : Launch) (d b lo gz n0 s0 : Nat) (Po : Option Value → xHp → Prop) (L r : List Value) (hp : xHp) : (xV k_So_life (l, d + 1, b, lo, gz, n0, s0, m_So_life, Po) 97 L (.int x0 :: r) hp) = (1 ≤ List.length (.int x0 :: r) ∧ xcs r 8 ∧ xMi l d b lo gz m_Text_digitsBehind [.int x0] hp (fun x hp' => xV k_So_life (l, d + 1, b, lo, gz, n0, s0, m_So_life, Po) 100 L (.int x :: r) hp')) := xVe _ _ _ _ _ _
theorem s_So_life_100 (x y : Int32) (C : xCx) (L r : List Value) (hp : xHp) : (xV k_So_life C 100 L (.int y :: .int x :: r) hp) = (xV k_So_life C 101 L (.int (x + y) :: r) hp) := xVe _ _ _ _ _ _
theorem s_So_life_101 (x y : Int32) (C : xCx) (L r : List Value) (hp : xHp) : (xV k_So_life C 101 L (.int y :: .int x :: r) hp) = (xV k_So_life C 102 L (.int (x + y) :: r) hp) := xVe _ _ _ _ _ _
theorem s_So_life_102 (C : xCx) (r : List Value) (hp : xHp) (x : Int32) (a0 a1 a2 a3 a4 a5 : Value) : (xV k_So_life C 102 [a0, a1, a2, a3, a4, a5] (.int x :: r) hp) = (4 < 6 ∧ xNl [a0, a1, a2, a3, a4, a5] 4 ∧ xV k_So_life C 104 [a0, a1, a2, a3, .int x, a5] r hp) := xVe _ _ _ _ _ _
theorem s_So_life_104 (C : xCx) (r : List Value) (hp : xHp) (x : Int32) (a0 a1 a2 a3 a4 : Value) : (xV k_So_life C 104 [a0, a1, a2, a3, a4, .int x] r hp) = (xNl [a0, a1, a2, a3, a4, .int x] 5 ∧ xV k_So_life C 107 [a0, a1, a2, a3, a4, .int (x + (1))] r hp) := xVe _ _ _ _ _ _
theorem s_So_life_107 (C : xCx) (L r : List Value) (hp : xHp) : (xV k_So_life C 107 L r hp) = (xV k_So_life C 45 L r hp) := xVe _ _ _ _ _ _
theorem s_So_life_110 (C : xCx) (r : List Value) (hp : xHp) (x : Nat) (a1 a2 a3 a4 a5 : Value) : (xV k_So_life C 110 [.ref x, a1, a2, a3, a4, a5] r hp) = (True ∧ xV k_So_life C 111 [.ref x, a1, a2, a3, a4, a5] (.ref x :: r) hp) := xVe _ _ _ _ _ _
theorem s_So_life_111 (a : Nat) (C : xCx) (L r : List Value) (hp : xHp) : (xV k_So_life C 111 L (.ref a :: r) hp) = (xF hp a 0 0 (fun v => xV k_So_life C 114 L (v :: r) hp)) := xVe _ _ _ _ _ _
theorem s_So_life_114 (a : Nat) (l : Launch) (d b lo gz n0 s0 : Nat) (Po : Option Value → xHp → Prop) (L r : List Value) (hp : xHp) : (xV k_So_life (l, d + 1, b, lo, gz, n0, s0, m_So_life, Po) 114 L (.ref a :: r) hp) = (xO hp a 10 ∧ xcs r 8 ∧ xMv l d b lo gz m_Text_clear [.ref a] hp (fun hp' => xV k_So_life (l, d + 1, b, lo, gz, n0, s0, m_So_life, Po) 117 L r hp')) := xVe _ _ _ _ _ _
theorem s_So_life_117 (C : xCx) (r : List Value) (hp : xHp) (x : Int32) (a0 a1 a3 a4 a5 : Value) : (xV k_So_life C 117 [a0, a1, .int x, a3, a4, a5] r hp) = (xV k_So_life C 118 [a0, a1, .int x, a3, a4, a5] (.int x :: r) hp) := xVe _ _ _ _ _ _
theorem s_So_life_118 (x : Int32) (C : xCx) (L r : List Value) (hp : xHp) : (xV k_So_life C 118 L (.int x :: r) hp) = (((x ≤ 0 → xV k_So_life C 132 L r hp) ∧ (¬ x ≤ 0 → xV k_So_life C 121 L r hp))) := xVe _ _ _ _ _ _
theorem s_So_life_121 (C : xCx) (r : List Value) (hp : xHp) (x : Nat) (a1 a2 a3 a4 a5 : Value) : (xV k_So_life C 121 [.ref x, a1, a2, a3, a4, a5] r hp) = (True ∧ xV k_So_life C 122 [.ref x, a1, a2, a3, a4, a5] (.ref x :: r) hp) := xVe _ _ _ _ _ _
theorem s_So_life_122 (a : Nat) (C : xCx) (L r : List Value) (hp : xHp) : (xV k_So_life C 122 L (.ref a :: r) hp) = (xF hp a 0 9 (fun v => xV k_So_life C 125 L (v :: r) hp)) := xVe _ _ _ _ _ _
theorem s_So_life_125 (C : xCx) (r : List Value) (hp : xHp) (x : Nat) (a1 a2 a3 a4 a5 : Value) : (xV k_So_life C 125 [.ref x, a1, a2, a3, a4, a5] r hp) = (True ∧ xV k_So_life C 126 [.ref x, a1, a2, a3, a4, a5] (.ref x :: r) hp) := xVe _ _ _ _ _ _
theorem s_So_life_126 (a : Nat) (C : xCx) (L r : List Value) (hp : xHp) : (xV k_So_life C 126 L (.ref a :: r) hp) = (xF hp a 0 8 (fun v => xV k_So_life C 129 L (v :: r) hp)) := xVe _ _ _ _ _ _
theorem s_So_life_129 (x0 : Nat) (a : Nat) (l : Launch) (d b lo gz n0 s0 : Nat) (Po : Option Value → xHp → Prop) (L r : List Value) (hp : xHp) : (xV k_So_life (l, d + 1, b, lo, gz, n0, s0, m_So_life, Po) 129 L (.ref x0 :: .ref a :: r) hp) = (xO hp a 5 ∧ xcs r 8 ∧ xMv l d b lo gz m_Past_push [.ref a, .ref x0] hp (fun hp' => xV k_So_life (l, d + 1, b, lo, gz, n0, s0, m_So_life, Po) 132 L r hp')) := xVe _ _ _ _ _ _
theorem s_So_life_132 (C : xCx) (r : List Value) (hp : xHp) (x : Nat) (a1 a2 a3 a4 a5 : Value) : (xV k_So_life C 132 [.ref x, a1, a2, a3, a4, a5] r hp) = (True ∧ xV k_So_life C 133 [.ref x, a1, a2, a3, a4, a5] (.ref x :: r) hp) := xVe _ _ _ _ _ _
theorem s_So_life_133 (a : Nat) (C : xCx) (L r : List Value) (hp : xHp) : (xV k_So_life C 133 L (.ref a :: r) hp) = (xF hp a 0 1 (fun v => xV k_So_life C 136 L (v :: r) hp)) := xVe _ _ _ _ _ _
theorem s_So_life_136 (C : xCx) (r : List Value) (hp : xHp) (x : Int32) (a0 a1 a2 a4 a5 : Value) : (xV k_So_life C 136 [a0, a1, a2, .int x, a4, a5] r hp) = (xV k_So_life C 137 [a0, a1, a2, .int x, a4, a5] (.int x :: r) hp) := xVe _ _ _ _ _ _
theorem s_So_life_137 (x : Int32) (C : xCx) (L r : List Value) (hp : xHp) : (xV k_So_life C 137 L (.int x :: r) hp) = (xV k_So_life C 138 L (.long x.toInt64 :: r) hp) := xVe _ _ _ _ _ _
theorem s_So_life_138 (C : xCx) (r : List Value) (hp : xHp) (x : Nat) (a1 a2 a3 a4 a5 : Value) : (xV k_So_life C 138 [.ref x, a1, a2, a3, a4, a5] r hp) = (True ∧ xV k_So_life C 139 [.ref x, a1, a2, a3, a4, a5] (.ref x :: r) hp) := xVe _ _ _ _ _ _
theorem s_So_life_139 (a : Nat) (C : xCx) (L r : List Value) (hp : xHp) : (xV k_So_life C 139 L (.ref a :: r) hp) = (xF hp a 0 6 (fun v => xV k_So_life C 142 L (v :: r) hp)) := xVe _ _ _ _ _ _
theorem s_So_life_142 (a : Nat) (l : Launch) (d b lo gz n0 s0 : Nat) (Po : Option Value → xHp → Prop) (L r : List Value) (hp : xHp) : (xV k_So_life (l, d + 1, b, lo, gz, n0, s0, m_So_life, Po) 142 L (.ref a :: r) hp) = (xO hp a 3 ∧ xcs r 8 ∧ xMi l d b lo gz m_Folk_ages [.ref a] hp (fun x hp' => xV k_So_life (l, d + 1, b, lo, gz, n0, s0, m_So_life, Po) 145 L (.int x :: r) hp')) := xVe _ _ _ _ _ _
theorem s_So_life_145 (x : Int32) (C : xCx) (L r : List Value) (hp : xHp) : (xV k_So_life C 145 L (.int x :: r) hp) = (xV k_So_life C 146 L (.long x.toInt64 :: r) hp) := xVe _ _ _ _ _ _
theorem s_So_life_146 (x0 : Int64) (x1 : Int64) (a : Nat) (l : Launch) (d b lo gz n0 s0 : Nat) (Po : Option Value → xHp → Prop) (L r : List Value) (hp : xHp) : (xV k_So_life (l, d + 1, b, lo, gz, n0, s0, m_So_life, Po) 146 L (.long x1 :: .long x0 :: .ref a :: r) hp) = (xO hp a 7 ∧ xcs r 8 ∧ xMv l d b lo gz m_Row_tell2 [.ref a, .long x0, .long x1] hp (fun hp' => xV k_So_life (l, d + 1, b, lo, gz, n0, s0, m_So_life, Po) 149 L r hp')) := xVe _ _ _ _ _ _
theorem s_So_life_149 (C : xCx) (r : List Value) (hp : xHp) (x : Int32) (a0 a1 a3 a4 a5 : Value) : (xV k_So_life C 149 [a0, a1, .int x, a3, a4, a5] r hp) = (xV k_So_life C 150 [a0, a1, .int x, a3, a4, a5] (.int x :: r) hp) := xVe _ _ _ _ _ _
theorem s_So_life_150 (v : Int32) (l : Launch) (d b lo gz n0 s0 : Nat) (Po : Option Value → xHp → Prop) (L : List Value) (hp : xHp) : (xV k_So_life (l, d, b, lo, gz, n0, s0, m_So_life, Po) 150 L [.int v] hp) = (Po (some (.int v)) hp) := xVe _ _ _ _ _ _
theorem ml_So_266 : xLk "SunnyOnes" 266 m_So_age := Or.inl (wg3 200 (by decide +kernel) rfl)
def k_So_act : List xEC := [
  (0, .aload_n 0, 1, 0, 0, 0, m_x),
  (1, .getfield 10, 4, 0, 0, 0, m_x),
  (4, .iload_n 1, 5, 0, 0, 0, m_x),
  (5, .iconst 1, 6, 0, 0, 0, m_x),
  (6, .iadd, 7, 0, 0, 0, m_x),
  (7, .invokevirtual 139, 10, 10, 0, 0, m_Text_digit),
  (10, .istore_n 2, 11, 0, 0, 0, m_x),
  (11, .aload_n 0, 12, 0, 0, 0, m_x),
  (12, .getfield 10, 15, 0, 0, 0, m_x),
  (15, .iload_n 1, 16, 0, 0, 0, m_x),
  (16, .invokevirtual 254, 19, 10, 0, 0, m_Text_at),
  (19, .lookupswitch 118 #[(100, 91), (109, 55), (110, 49), (115, 75), (121, 97)], 68, 0, 0, 0, m_x),
  (68, .aload_n 0, 69, 0, 0, 0, m_x),
  (69, .iload_n 2, 70, 0, 0, 0, m_x),
  (70, .invokevirtual 266, 73, 0, 0, 0, m_So_age),
  (73, .ireturn, 74, 0, 0, 0, m_x),
  (74, .aload_n 0, 75, 0, 0, 0, m_x),
  (75, .aload_n 0, 76, 0, 0, 0, m_x),
  (76, .getfield 54, 79, 0, 6, 0, m_x),
  (79, .iload_n 2, 80, 0, 0, 0, m_x),
  (80, .aload_n 0, 81, 0, 0, 0, m_x),
  (81, .getfield 10, 84, 0, 0, 0, m_x),
  (84, .iload_n 1, 85, 0, 0, 0, m_x),
  (85, .iconst 2, 86, 0, 0, 0, m_x),
  (86, .iadd, 87, 0, 0, 0, m_x),
  (87, .invokevirtual 139, 90, 10, 0, 0, m_Text_digit),
  (90, .invokevirtual 232, 93, 0, 0, 0, m_So_goTo),
  (93, .ireturn, 94, 0, 0, 0, m_x),
  (94, .aload_n 0, 95, 0, 0, 0, m_x),
  (95, .iload_n 2, 96, 0, 0, 0, m_x),
  (96, .aload_n 0, 97, 0, 0, 0, m_x),
  (97, .getfield 10, 100, 0, 0, 0, m_x),
  (100, .iload_n 1, 101, 0, 0, 0, m_x),
  (101, .iconst 2, 102, 0, 0, 0, m_x),
  (102, .iadd, 103, 0, 0, 0, m_x),
  (103, .invokevirtual 139, 106, 10, 0, 0, m_Text_digit),
  (106, .invokevirtual 239, 109, 0, 0, 0, m_So_trade),
  (109, .ireturn, 110, 0, 0, 0, m_x),
  (110, .aload_n 0, 111, 0, 0, 0, m_x),
  (111, .iload_n 2, 112, 0, 0, 0, m_x),
  (112, .invokevirtual 242, 115, 0, 0, 0, m_So_sin),
  (115, .ireturn, 116, 0, 0, 0, m_x),
  (116, .aload_n 0, 117, 0, 0, 0, m_x),
  (117, .aload_n 0, 118, 0, 0, 0, m_x),
  (118, .getfield 54, 121, 0, 6, 0, m_x),
  (121, .iload_n 2, 122, 0, 0, 0, m_x),
  (122, .aload_n 0, 123, 0, 0, 0, m_x),
  (123, .getfield 10, 126, 0, 0, 0, m_x),
  (126, .iload_n 1, 127, 0, 0, 0, m_x),
  (127, .iconst 2, 128, 0, 0, 0, m_x),
  (128, .iadd, 129, 0, 0, 0, m_x),
  (129, .iconst 2, 130, 0, 0, 0, m_x),
  (130, .invokevirtual 151, 133, 10, 0, 0, m_Text_number),
  (133, .invokevirtual 245, 136, 0, 0, 0, m_So_doubt),
  (136, .ireturn, 137, 0, 0, 0, m_x),
  (137, .iconst (-1), 138, 0, 0, 0, m_x),
  (138, .ireturn, 139, 0, 0, 0, m_x)]
theorem dc_So_act : ∀ E ∈ k_So_act, xDc m_So_act E := by decide +kernel
set_option maxRecDepth 20000 in
theorem ok_So_act : ∀ E ∈ k_So_act, xOk m_So_act E := xok_of dc_So_act (xfc trivial (xfc fl_So_10 (xfc trivial (xfc trivial (xfc trivial (xfc ⟨ml_So_139, kd_Text_digit⟩ (xfc trivial (xfc trivial (xfc fl_So_10 (xfc trivial (xfc ⟨ml_So_254, kd_Text_at⟩ (xfc (show ((#[(100, 91), (109, 55), (110, 49), (115, 75), (121, 97)] : Array (Int × Int)).toList.zip ((#[(100, 91), (109, 55), (110, 49), (115, 75), (121, 97)] : Array (Int × Int)).toList.drop 1)).all (fun (a, next) => a.1 < next.1) = true ∧ (∀ q ∈ (#[(100, 91), (109, 55), (110, 49), (115, 75), (121, 97)] : Array (Int × Int)).toList, (-2147483648 : Int) ≤ q.1 ∧ q.1 < 2147483648) ∧ (0 : Int) ≤ ((19 : Nat) : Int) + (118) ∧ ∀ q ∈ (#[(100, 91), (109, 55), (110, 49), (115, 75), (121, 97)] : Array (Int × Int)).toList, (0 : Int) ≤ ((19 : Nat) : Int) + q.2 from by decide) (xfc trivial (xfc trivial (xfc ⟨ml_So_266, kd_So_age⟩ (xfc trivial (xfc trivial (xfc trivial (xfc fl_So_54 (xfc trivial (xfc trivial (xfc fl_So_10 (xfc trivial (xfc trivial (xfc trivial (xfc ⟨ml_So_139, kd_Text_digit⟩ (xfc ⟨ml_So_232, kd_So_goTo⟩ (xfc trivial (xfc trivial (xfc trivial (xfc trivial (xfc fl_So_10 (xfc trivial (xfc trivial (xfc trivial (xfc ⟨ml_So_139, kd_Text_digit⟩ (xfc ⟨ml_So_239, kd_So_trade⟩ (xfc trivial (xfc trivial (xfc trivial (xfc ⟨ml_So_242, kd_So_sin⟩ (xfc trivial (xfc trivial (xfc trivial (xfc fl_So_54 (xfc trivial (xfc trivial (xfc fl_So_10 (xfc trivial (xfc trivial (xfc trivial (xfc trivial (xfc ⟨ml_So_151, kd_Text_number⟩ (xfc ⟨ml_So_245, kd_So_doubt⟩ (xfc trivial (xfc trivial (xfc trivial (xfn))))))))))))))))))))))))))))))))))))))))))))))))))))))))))
theorem s_So_act_0 (C : xCx) (r : List Value) (hp : xHp) (x : Nat) (a1 a2 : Value) : (xV k_So_act C 0 [.ref x, a1, a2] r hp) = (True ∧ xV k_So_act C 1 [.ref x, a1, a2] (.ref x :: r) hp) := xVe _ _ _ _ _ _
theorem s_So_act_1 (a : Nat) (C : xCx) (L r : List Value) (hp : xHp) : (xV k_So_act C 1 L (.ref a :: r) hp) = (xF hp a 0 0 (fun v => xV k_So_act C 4 L (v :: r) hp)) := xVe _ _ _ _ _ _
theorem s_So_act_4 (C : xCx) (r : List Value) (hp : xHp) (x : Int32) (a0 a2 : Value) : (xV k_So_act C 4 [a0, .int x, a2] r hp) = (xV k_So_act C 5 [a0, .int x, a2] (.int x :: r) hp) := xVe _ _ _ _ _ _
theorem s_So_act_5  (C : xCx) (L r : List Value) (hp : xHp) : (xV k_So_act C 5 L (r) hp) = (xV k_So_act C 6 L (.int (1) :: r) hp) := xVe _ _ _ _ _ _
theorem s_So_act_6 (x y : Int32) (C : xCx) (L r : List Value) (hp : xHp) : (xV k_So_act C 6 L (.int y :: .int x :: r) hp) = (xV k_So_act C 7 L (.int (x + y) :: r) hp) := xVe _ _ _ _ _ _
theorem s_So_act_7 (x0 : Int32) (a : Nat) (l : Launch) (d b lo gz n0 s0 : Nat) (Po : Option Value → xHp → Prop) (L r : List Value) (hp : xHp) : (xV k_So_act (l, d + 1, b, lo, gz, n0, s0, m_So_act, Po) 7 L (.int x0 :: .ref a :: r) hp) = (xO hp a 10 ∧ xcs r 8 ∧ xMi l d b lo gz m_Text_digit [.ref a, .int x0] hp (fun x hp' => xV k_So_act (l, d + 1, b, lo, gz, n0, s0, m_So_act, Po) 10 L (.int x :: r) hp')) := xVe _ _ _ _ _ _
theorem s_So_act_10 (C : xCx) (r : List Value) (hp : xHp) (x : Int32) (a0 a1 a2 : Value) : (xV k_So_act C 10 [a0, a1, a2] (.int x :: r) hp) = (2 < 3 ∧ xNl [a0, a1, a2] 2 ∧ xV k_So_act C 11 [a0, a1, .int x] r hp) := xVe _ _ _ _ _ _
theorem s_So_act_11 (C : xCx) (r : List Value) (hp : xHp) (x : Nat) (a1 a2 : Value) : (xV k_So_act C 11 [.ref x, a1, a2] r hp) = (True ∧ xV k_So_act C 12 [.ref x, a1, a2] (.ref x :: r) hp) := xVe _ _ _ _ _ _
theorem s_So_act_12 (a : Nat) (C : xCx) (L r : List Value) (hp : xHp) : (xV k_So_act C 12 L (.ref a :: r) hp) = (xF hp a 0 0 (fun v => xV k_So_act C 15 L (v :: r) hp)) := xVe _ _ _ _ _ _
theorem s_So_act_15 (C : xCx) (r : List Value) (hp : xHp) (x : Int32) (a0 a2 : Value) : (xV k_So_act C 15 [a0, .int x, a2] r hp) = (xV k_So_act C 16 [a0, .int x, a2] (.int x :: r) hp) := xVe _ _ _ _ _ _
theorem s_So_act_16 (x0 : Int32) (a : Nat) (l : Launch) (d b lo gz n0 s0 : Nat) (Po : Option Value → xHp → Prop) (L r : List Value) (hp : xHp) : (xV k_So_act (l, d + 1, b, lo, gz, n0, s0, m_So_act, Po) 16 L (.int x0 :: .ref a :: r) hp) = (xO hp a 10 ∧ xcs r 8 ∧ xMi l d b lo gz m_Text_at [.ref a, .int x0] hp (fun x hp' => xV k_So_act (l, d + 1, b, lo, gz, n0, s0, m_So_act, Po) 19 L (.int x :: r) hp')) := xVe _ _ _ _ _ _
theorem s_So_act_19 (x : Int32) (C : xCx) (L r : List Value) (hp : xHp) : (xV k_So_act C 19 L (.int x :: r) hp) = (((x = (100) → xV k_So_act C 110 L r hp) ∧ (¬ x = (100) → ((x = (109) → xV k_So_act C 74 L r hp) ∧ (¬ x = (109) → ((x = (110) → xV k_So_act C 68 L r hp) ∧ (¬ x = (110) → ((x = (115) → xV k_So_act C 94 L r hp) ∧ (¬ x = (115) → ((x = (121) → xV k_So_act C 116 L r hp) ∧ (¬ x = (121) → xV k_So_act C 137 L r hp))))))))))) := xVe _ _ _ _ _ _
theorem s_So_act_68 (C : xCx) (r : List Value) (hp : xHp) (x : Nat) (a1 a2 : Value) : (xV k_So_act C 68 [.ref x, a1, a2] r hp) = (True ∧ xV k_So_act C 69 [.ref x, a1, a2] (.ref x :: r) hp) := xVe _ _ _ _ _ _
theorem s_So_act_69 (C : xCx) (r : List Value) (hp : xHp) (x : Int32) (a0 a1 : Value) : (xV k_So_act C 69 [a0, a1, .int x] r hp) = (xV k_So_act C 70 [a0, a1, .int x] (.int x :: r) hp) := xVe _ _ _ _ _ _
theorem s_So_act_70 (x0 : Int32) (a : Nat) (l : Launch) (d b lo gz n0 s0 : Nat) (Po : Option Value → xHp → Prop) (L r : List Value) (hp : xHp) : (xV k_So_act (l, d + 1, b, lo, gz, n0, s0, m_So_act, Po) 70 L (.int x0 :: .ref a :: r) hp) = (xO hp a 0 ∧ xcs r 8 ∧ xMi l d b lo gz m_So_age [.ref a, .int x0] hp (fun x hp' => xV k_So_act (l, d + 1, b, lo, gz, n0, s0, m_So_act, Po) 73 L (.int x :: r) hp')) := xVe _ _ _ _ _ _
theorem s_So_act_73 (v : Int32) (l : Launch) (d b lo gz n0 s0 : Nat) (Po : Option Value → xHp → Prop) (L : List Value) (hp : xHp) : (xV k_So_act (l, d, b, lo, gz, n0, s0, m_So_act, Po) 73 L [.int v] hp) = (Po (some (.int v)) hp) := xVe _ _ _ _ _ _
theorem s_So_act_74 (C : xCx) (r : List Value) (hp : xHp) (x : Nat) (a1 a2 : Value) : (xV k_So_act C 74 [.ref x, a1, a2] r hp) = (True ∧ xV k_So_act C 75 [.ref x, a1, a2] (.ref x :: r) hp) := xVe _ _ _ _ _ _
theorem s_So_act_75 (C : xCx) (r : List Value) (hp : xHp) (x : Nat) (a1 a2 : Value) : (xV k_So_act C 75 [.ref x, a1, a2] r hp) = (True ∧ xV k_So_act C 76 [.ref x, a1, a2] (.ref x :: r) hp) := xVe _ _ _ _ _ _
theorem s_So_act_76 (a : Nat) (C : xCx) (L r : List Value) (hp : xHp) : (xV k_So_act C 76 L (.ref a :: r) hp) = (xF hp a 0 6 (fun v => xV k_So_act C 79 L (v :: r) hp)) := xVe _ _ _ _ _ _
theorem s_So_act_79 (C : xCx) (r : List Value) (hp : xHp) (x : Int32) (a0 a1 : Value) : (xV k_So_act C 79 [a0, a1, .int x] r hp) = (xV k_So_act C 80 [a0, a1, .int x] (.int x :: r) hp) := xVe _ _ _ _ _ _
theorem s_So_act_80 (C : xCx) (r : List Value) (hp : xHp) (x : Nat) (a1 a2 : Value) : (xV k_So_act C 80 [.ref x, a1, a2] r hp) = (True ∧ xV k_So_act C 81 [.ref x, a1, a2] (.ref x :: r) hp) := xVe _ _ _ _ _ _
theorem s_So_act_81 (a : Nat) (C : xCx) (L r : List Value) (hp : xHp) : (xV k_So_act C 81 L (.ref a :: r) hp) = (xF hp a 0 0 (fun v => xV k_So_act C 84 L (v :: r) hp)) := xVe _ _ _ _ _ _
theorem s_So_act_84 (C : xCx) (r : List Value) (hp : xHp) (x : Int32) (a0 a2 : Value) : (xV k_So_act C 84 [a0, .int x, a2] r hp) = (xV k_So_act C 85 [a0, .int x, a2] (.int x :: r) hp) := xVe _ _ _ _ _ _
theorem s_So_act_85  (C : xCx) (L r : List Value) (hp : xHp) : (xV k_So_act C 85 L (r) hp) = (xV k_So_act C 86 L (.int (2) :: r) hp) := xVe _ _ _ _ _ _
theorem s_So_act_86 (x y : Int32) (C : xCx) (L r : List Value) (hp : xHp) : (xV k_So_act C 86 L (.int y :: .int x :: r) hp) = (xV k_So_act C 87 L (.int (x + y) :: r) hp) := xVe _ _ _ _ _ _
theorem s_So_act_87 (x0 : Int32) (a : Nat) (l : Launch) (d b lo gz n0 s0 : Nat) (Po : Option Value → xHp → Prop) (L r : List Value) (hp : xHp) : (xV k_So_act (l, d + 1, b, lo, gz, n0, s0, m_So_act, Po) 87 L (.int x0 :: .ref a :: r) hp) = (xO hp a 10 ∧ xcs r 8 ∧ xMi l d b lo gz m_Text_digit [.ref a, .int x0] hp (fun x hp' => xV k_So_act (l, d + 1, b, lo, gz, n0, s0, m_So_act, Po) 90 L (.int x :: r) hp')) := xVe _ _ _ _ _ _
theorem s_So_act_90 (x0 : Nat) (x1 : Int32) (x2 : Int32) (a : Nat) (l : Launch) (d b lo gz n0 s0 : Nat) (Po : Option Value → xHp → Prop) (L r : List Value) (hp : xHp) : (xV k_So_act (l, d + 1, b, lo, gz, n0, s0, m_So_act, Po) 90 L (.int x2 :: .int x1 :: .ref x0 :: .ref a :: r) hp) = (xO hp a 0 ∧ xcs r 8 ∧ xMi l d b lo gz m_So_goTo [.ref a, .ref x0, .int x1, .int x2] hp (fun x hp' => xV k_So_act (l, d + 1, b, lo, gz, n0, s0, m_So_act, Po) 93 L (.int x :: r) hp')) := xVe _ _ _ _ _ _
theorem s_So_act_93 (v : Int32) (l : Launch) (d b lo gz n0 s0 : Nat) (Po : Option Value → xHp → Prop) (L : List Value) (hp : xHp) : (xV k_So_act (l, d, b, lo, gz, n0, s0, m_So_act, Po) 93 L [.int v] hp) = (Po (some (.int v)) hp) := xVe _ _ _ _ _ _
theorem s_So_act_94 (C : xCx) (r : List Value) (hp : xHp) (x : Nat) (a1 a2 : Value) : (xV k_So_act C 94 [.ref x, a1, a2] r hp) = (True ∧ xV k_So_act C 95 [.ref x, a1, a2] (.ref x :: r) hp) := xVe _ _ _ _ _ _
theorem s_So_act_95 (C : xCx) (r : List Value) (hp : xHp) (x : Int32) (a0 a1 : Value) : (xV k_So_act C 95 [a0, a1, .int x] r hp) = (xV k_So_act C 96 [a0, a1, .int x] (.int x :: r) hp) := xVe _ _ _ _ _ _
theorem s_So_act_96 (C : xCx) (r : List Value) (hp : xHp) (x : Nat) (a1 a2 : Value) : (xV k_So_act C 96 [.ref x, a1, a2] r hp) = (True ∧ xV k_So_act C 97 [.ref x, a1, a2] (.ref x :: r) hp) := xVe _ _ _ _ _ _
theorem s_So_act_97 (a : Nat) (C : xCx) (L r : List Value) (hp : xHp) : (xV k_So_act C 97 L (.ref a :: r) hp) = (xF hp a 0 0 (fun v => xV k_So_act C 100 L (v :: r) hp)) := xVe _ _ _ _ _ _
theorem s_So_act_100 (C : xCx) (r : List Value) (hp : xHp) (x : Int32) (a0 a2 : Value) : (xV k_So_act C 100 [a0, .int x, a2] r hp) = (xV k_So_act C 101 [a0, .int x, a2] (.int x :: r) hp) := xVe _ _ _ _ _ _
theorem s_So_act_101  (C : xCx) (L r : List Value) (hp : xHp) : (xV k_So_act C 101 L (r) hp) = (xV k_So_act C 102 L (.int (2) :: r) hp) := xVe _ _ _ _ _ _
theorem s_So_act_102 (x y : Int32) (C : xCx) (L r : List Value) (hp : xHp) : (xV k_So_act C 102 L (.int y :: .int x :: r) hp) = (xV k_So_act C 103 L (.int (x + y) :: r) hp) := xVe _ _ _ _ _ _
theorem s_So_act_103 (x0 : Int32) (a : Nat) (l : Launch) (d b lo gz n0 s0 : Nat) (Po : Option Value → xHp → Prop) (L r : List Value) (hp : xHp) : (xV k_So_act (l, d + 1, b, lo, gz, n0, s0, m_So_act, Po) 103 L (.int x0 :: .ref a :: r) hp) = (xO hp a 10 ∧ xcs r 8 ∧ xMi l d b lo gz m_Text_digit [.ref a, .int x0] hp (fun x hp' => xV k_So_act (l, d + 1, b, lo, gz, n0, s0, m_So_act, Po) 106 L (.int x :: r) hp')) := xVe _ _ _ _ _ _
theorem s_So_act_106 (x0 : Int32) (x1 : Int32) (a : Nat) (l : Launch) (d b lo gz n0 s0 : Nat) (Po : Option Value → xHp → Prop) (L r : List Value) (hp : xHp) : (xV k_So_act (l, d + 1, b, lo, gz, n0, s0, m_So_act, Po) 106 L (.int x1 :: .int x0 :: .ref a :: r) hp) = (xO hp a 0 ∧ xcs r 8 ∧ xMi l d b lo gz m_So_trade [.ref a, .int x0, .int x1] hp (fun x hp' => xV k_So_act (l, d + 1, b, lo, gz, n0, s0, m_So_act, Po) 109 L (.int x :: r) hp')) := xVe _ _ _ _ _ _
theorem s_So_act_109 (v : Int32) (l : Launch) (d b lo gz n0 s0 : Nat) (Po : Option Value → xHp → Prop) (L : List Value) (hp : xHp) : (xV k_So_act (l, d, b, lo, gz, n0, s0, m_So_act, Po) 109 L [.int v] hp) = (Po (some (.int v)) hp) := xVe _ _ _ _ _ _
theorem s_So_act_110 (C : xCx) (r : List Value) (hp : xHp) (x : Nat) (a1 a2 : Value) : (xV k_So_act C 110 [.ref x, a1, a2] r hp) = (True ∧ xV k_So_act C 111 [.ref x, a1, a2] (.ref x :: r) hp) := xVe _ _ _ _ _ _
theorem s_So_act_111 (C : xCx) (r : List Value) (hp : xHp) (x : Int32) (a0 a1 : Value) : (xV k_So_act C 111 [a0, a1, .int x] r hp) = (xV k_So_act C 112 [a0, a1, .int x] (.int x :: r) hp) := xVe _ _ _ _ _ _
theorem s_So_act_112 (x0 : Int32) (a : Nat) (l : Launch) (d b lo gz n0 s0 : Nat) (Po : Option Value → xHp → Prop) (L r : List Value) (hp : xHp) : (xV k_So_act (l, d + 1, b, lo, gz, n0, s0, m_So_act, Po) 112 L (.int x0 :: .ref a :: r) hp) = (xO hp a 0 ∧ xcs r 8 ∧ xMi l d b lo gz m_So_sin [.ref a, .int x0] hp (fun x hp' => xV k_So_act (l, d + 1, b, lo, gz, n0, s0, m_So_act, Po) 115 L (.int x :: r) hp')) := xVe _ _ _ _ _ _
theorem s_So_act_115 (v : Int32) (l : Launch) (d b lo gz n0 s0 : Nat) (Po : Option Value → xHp → Prop) (L : List Value) (hp : xHp) : (xV k_So_act (l, d, b, lo, gz, n0, s0, m_So_act, Po) 115 L [.int v] hp) = (Po (some (.int v)) hp) := xVe _ _ _ _ _ _
theorem s_So_act_116 (C : xCx) (r : List Value) (hp : xHp) (x : Nat) (a1 a2 : Value) : (xV k_So_act C 116 [.ref x, a1, a2] r hp) = (True ∧ xV k_So_act C 117 [.ref x, a1, a2] (.ref x :: r) hp) := xVe _ _ _ _ _ _
theorem s_So_act_117 (C : xCx) (r : List Value) (hp : xHp) (x : Nat) (a1 a2 : Value) : (xV k_So_act C 117 [.ref x, a1, a2] r hp) = (True ∧ xV k_So_act C 118 [.ref x, a1, a2] (.ref x :: r) hp) := xVe _ _ _ _ _ _
theorem s_So_act_118 (a : Nat) (C : xCx) (L r : List Value) (hp : xHp) : (xV k_So_act C 118 L (.ref a :: r) hp) = (xF hp a 0 6 (fun v => xV k_So_act C 121 L (v :: r) hp)) := xVe _ _ _ _ _ _
theorem s_So_act_121 (C : xCx) (r : List Value) (hp : xHp) (x : Int32) (a0 a1 : Value) : (xV k_So_act C 121 [a0, a1, .int x] r hp) = (xV k_So_act C 122 [a0, a1, .int x] (.int x :: r) hp) := xVe _ _ _ _ _ _
theorem s_So_act_122 (C : xCx) (r : List Value) (hp : xHp) (x : Nat) (a1 a2 : Value) : (xV k_So_act C 122 [.ref x, a1, a2] r hp) = (True ∧ xV k_So_act C 123 [.ref x, a1, a2] (.ref x :: r) hp) := xVe _ _ _ _ _ _
theorem s_So_act_123 (a : Nat) (C : xCx) (L r : List Value) (hp : xHp) : (xV k_So_act C 123 L (.ref a :: r) hp) = (xF hp a 0 0 (fun v => xV k_So_act C 126 L (v :: r) hp)) := xVe _ _ _ _ _ _
theorem s_So_act_126 (C : xCx) (r : List Value) (hp : xHp) (x : Int32) (a0 a2 : Value) : (xV k_So_act C 126 [a0, .int x, a2] r hp) = (xV k_So_act C 127 [a0, .int x, a2] (.int x :: r) hp) := xVe _ _ _ _ _ _
theorem s_So_act_127  (C : xCx) (L r : List Value) (hp : xHp) : (xV k_So_act C 127 L (r) hp) = (xV k_So_act C 128 L (.int (2) :: r) hp) := xVe _ _ _ _ _ _
theorem s_So_act_128 (x y : Int32) (C : xCx) (L r : List Value) (hp : xHp) : (xV k_So_act C 128 L (.int y :: .int x :: r) hp) = (xV k_So_act C 129 L (.int (x + y) :: r) hp) := xVe _ _ _ _ _ _
theorem s_So_act_129  (C : xCx) (L r : List Value) (hp : xHp) : (xV k_So_act C 129 L (r) hp) = (xV k_So_act C 130 L (.int (2) :: r) hp) := xVe _ _ _ _ _ _
theorem s_So_act_130 (x0 : Int32) (x1 : Int32) (a : Nat) (l : Launch) (d b lo gz n0 s0 : Nat) (Po : Option Value → xHp → Prop) (L r : List Value) (hp : xHp) : (xV k_So_act (l, d + 1, b, lo, gz, n0, s0, m_So_act, Po) 130 L (.int x1 :: .int x0 :: .ref a :: r) hp) = (xO hp a 10 ∧ xcs r 8 ∧ xMi l d b lo gz m_Text_number [.ref a, .int x0, .int x1] hp (fun x hp' => xV k_So_act (l, d + 1, b, lo, gz, n0, s0, m_So_act, Po) 133 L (.int x :: r) hp')) := xVe _ _ _ _ _ _
theorem s_So_act_133 (x0 : Nat) (x1 : Int32) (x2 : Int32) (a : Nat) (l : Launch) (d b lo gz n0 s0 : Nat) (Po : Option Value → xHp → Prop) (L r : List Value) (hp : xHp) : (xV k_So_act (l, d + 1, b, lo, gz, n0, s0, m_So_act, Po) 133 L (.int x2 :: .int x1 :: .ref x0 :: .ref a :: r) hp) = (xO hp a 0 ∧ xcs r 8 ∧ xMi l d b lo gz m_So_doubt [.ref a, .ref x0, .int x1, .int x2] hp (fun x hp' => xV k_So_act (l, d + 1, b, lo, gz, n0, s0, m_So_act, Po) 136 L (.int x :: r) hp')) := xVe _ _ _ _ _ _
theorem s_So_act_136 (v : Int32) (l : Launch) (d b lo gz n0 s0 : Nat) (Po : Option Value → xHp → Prop) (L : List Value) (hp : xHp) : (xV k_So_act (l, d, b, lo, gz, n0, s0, m_So_act, Po) 136 L [.int v] hp) = (Po (some (.int v)) hp) := xVe _ _ _ _ _ _
theorem s_So_act_137  (C : xCx) (L r : List Value) (hp : xHp) : (xV k_So_act C 137 L (r) hp) = (xV k_So_act C 138 L (.int (-1) :: r) hp) := xVe _ _ _ _ _ _
theorem s_So_act_138 (v : Int32) (l : Launch) (d b lo gz n0 s0 : Nat) (Po : Option Value → xHp → Prop) (L : List Value) (hp : xHp) : (xV k_So_act (l, d, b, lo, gz, n0, s0, m_So_act, Po) 138 L [.int v] hp) = (Po (some (.int v)) hp) := xVe _ _ _ _ _ _
def k_So_age : List xEC := [
  (0, .iconst 0, 1, 0, 0, 0, m_x),
  (1, .istore_n 2, 2, 0, 0, 0, m_x),
  (2, .iload_n 2, 3, 0, 0, 0, m_x),
  (3, .iload_n 1, 4, 0, 0, 0, m_x),
  (4, .if_icmp .ge 25, 7, 0, 29, 0, m_x),
  (7, .aload_n 0, 8, 0, 0, 0, m_x),
  (8, .getfield 47, 11, 0, 5, 0, m_x),
  (11, .aload_n 0, 12, 0, 0, 0, m_x),
  (12, .getfield 35, 15, 0, 3, 0, m_x),
  (15, .aload_n 0, 16, 0, 0, 0, m_x),
  (16, .getfield 54, 19, 0, 6, 0, m_x),
  (19, .invokevirtual 218, 22, 9, 0, 0, m_Sun_dayBy),
  (22, .pop, 23, 0, 0, 0, m_x),
  (23, .iinc 2 1, 26, 0, 0, 0, m_x),
  (26, .goto (-24), 29, 0, 2, 0, m_x),
  (29, .aload_n 0, 30, 0, 0, 0, m_x),
  (30, .getfield 54, 33, 0, 6, 0, m_x),
  (33, .invokevirtual 229, 36, 3, 0, 0, m_Folk_ages),
  (36, .ireturn, 37, 0, 0, 0, m_x)]
theorem dc_So_age : ∀ E ∈ k_So_age, xDc m_So_age E := by decide +kernel
set_option maxRecDepth 20000 in
theorem ok_So_age : ∀ E ∈ k_So_age, xOk m_So_age E := xok_of dc_So_age (xfc trivial (xfc trivial (xfc trivial (xfc trivial (xfc (show ((4 : Nat) : Int) + (25) = ((29 : Nat) : Int) from by decide) (xfc trivial (xfc fl_So_47 (xfc trivial (xfc fl_So_35 (xfc trivial (xfc fl_So_54 (xfc ⟨ml_So_218, kd_Sun_dayBy⟩ (xfc trivial (xfc trivial (xfc (show ((26 : Nat) : Int) + (-24) = ((2 : Nat) : Int) from by decide) (xfc trivial (xfc fl_So_54 (xfc ⟨ml_So_229, kd_Folk_ages⟩ (xfc trivial (xfn))))))))))))))))))))
theorem s_So_age_0  (C : xCx) (L r : List Value) (hp : xHp) : (xV k_So_age C 0 L (r) hp) = (xV k_So_age C 1 L (.int (0) :: r) hp) := xVe _ _ _ _ _ _
theorem s_So_age_1 (C : xCx) (r : List Value) (hp : xHp) (x : Int32) (a0 a1 a2 : Value) : (xV k_So_age C 1 [a0, a1, a2] (.int x :: r) hp) = (2 < 3 ∧ xNl [a0, a1, a2] 2 ∧ xV k_So_age C 2 [a0, a1, .int x] r hp) := xVe _ _ _ _ _ _
theorem s_So_age_2 (C : xCx) (r : List Value) (hp : xHp) (x : Int32) (a0 a1 : Value) : (xV k_So_age C 2 [a0, a1, .int x] r hp) = (xV k_So_age C 3 [a0, a1, .int x] (.int x :: r) hp) := xVe _ _ _ _ _ _
theorem s_So_age_3 (C : xCx) (r : List Value) (hp : xHp) (x : Int32) (a0 a2 : Value) : (xV k_So_age C 3 [a0, .int x, a2] r hp) = (xV k_So_age C 4 [a0, .int x, a2] (.int x :: r) hp) := xVe _ _ _ _ _ _
theorem s_So_age_4 (x y : Int32) (C : xCx) (L r : List Value) (hp : xHp) : (xV k_So_age C 4 L (.int y :: .int x :: r) hp) = (((y ≤ x → xV k_So_age C 29 L r hp) ∧ (¬ y ≤ x → xV k_So_age C 7 L r hp))) := xVe _ _ _ _ _ _
theorem s_So_age_7 (C : xCx) (r : List Value) (hp : xHp) (x : Nat) (a1 a2 : Value) : (xV k_So_age C 7 [.ref x, a1, a2] r hp) = (True ∧ xV k_So_age C 8 [.ref x, a1, a2] (.ref x :: r) hp) := xVe _ _ _ _ _ _
theorem s_So_age_8 (a : Nat) (C : xCx) (L r : List Value) (hp : xHp) : (xV k_So_age C 8 L (.ref a :: r) hp) = (xF hp a 0 5 (fun v => xV k_So_age C 11 L (v :: r) hp)) := xVe _ _ _ _ _ _
theorem s_So_age_11 (C : xCx) (r : List Value) (hp : xHp) (x : Nat) (a1 a2 : Value) : (xV k_So_age C 11 [.ref x, a1, a2] r hp) = (True ∧ xV k_So_age C 12 [.ref x, a1, a2] (.ref x :: r) hp) := xVe _ _ _ _ _ _
theorem s_So_age_12 (a : Nat) (C : xCx) (L r : List Value) (hp : xHp) : (xV k_So_age C 12 L (.ref a :: r) hp) = (xF hp a 0 3 (fun v => xV k_So_age C 15 L (v :: r) hp)) := xVe _ _ _ _ _ _
theorem s_So_age_15 (C : xCx) (r : List Value) (hp : xHp) (x : Nat) (a1 a2 : Value) : (xV k_So_age C 15 [.ref x, a1, a2] r hp) = (True ∧ xV k_So_age C 16 [.ref x, a1, a2] (.ref x :: r) hp) := xVe _ _ _ _ _ _
theorem s_So_age_16 (a : Nat) (C : xCx) (L r : List Value) (hp : xHp) : (xV k_So_age C 16 L (.ref a :: r) hp) = (xF hp a 0 6 (fun v => xV k_So_age C 19 L (v :: r) hp)) := xVe _ _ _ _ _ _
theorem s_So_age_19 (x0 : Nat) (x1 : Nat) (a : Nat) (l : Launch) (d b lo gz n0 s0 : Nat) (Po : Option Value → xHp → Prop) (L r : List Value) (hp : xHp) : (xV k_So_age (l, d + 1, b, lo, gz, n0, s0, m_So_age, Po) 19 L (.ref x1 :: .ref x0 :: .ref a :: r) hp) = (xO hp a 9 ∧ xcs r 8 ∧ xMi l d b lo gz m_Sun_dayBy [.ref a, .ref x0, .ref x1] hp (fun x hp' => xV k_So_age (l, d + 1, b, lo, gz, n0, s0, m_So_age, Po) 22 L (.int x :: r) hp')) := xVe _ _ _ _ _ _
theorem s_So_age_22 (v : Value) (C : xCx) (L r : List Value) (hp : xHp) : (xV k_So_age C 22 L (v :: r) hp) = (v.category = 1 ∧ xV k_So_age C 23 L (r) hp) := xVe _ _ _ _ _ _
theorem s_So_age_23 (C : xCx) (r : List Value) (hp : xHp) (x : Int32) (a0 a1 : Value) : (xV k_So_age C 23 [a0, a1, .int x] r hp) = (xNl [a0, a1, .int x] 2 ∧ xV k_So_age C 26 [a0, a1, .int (x + (1))] r hp) := xVe _ _ _ _ _ _
theorem s_So_age_26 (C : xCx) (L r : List Value) (hp : xHp) : (xV k_So_age C 26 L r hp) = (xV k_So_age C 2 L r hp) := xVe _ _ _ _ _ _
theorem s_So_age_29 (C : xCx) (r : List Value) (hp : xHp) (x : Nat) (a1 a2 : Value) : (xV k_So_age C 29 [.ref x, a1, a2] r hp) = (True ∧ xV k_So_age C 30 [.ref x, a1, a2] (.ref x :: r) hp) := xVe _ _ _ _ _ _
theorem s_So_age_30 (a : Nat) (C : xCx) (L r : List Value) (hp : xHp) : (xV k_So_age C 30 L (.ref a :: r) hp) = (xF hp a 0 6 (fun v => xV k_So_age C 33 L (v :: r) hp)) := xVe _ _ _ _ _ _
theorem s_So_age_33 (a : Nat) (l : Launch) (d b lo gz n0 s0 : Nat) (Po : Option Value → xHp → Prop) (L r : List Value) (hp : xHp) : (xV k_So_age (l, d + 1, b, lo, gz, n0, s0, m_So_age, Po) 33 L (.ref a :: r) hp) = (xO hp a 3 ∧ xcs r 8 ∧ xMi l d b lo gz m_Folk_ages [.ref a] hp (fun x hp' => xV k_So_age (l, d + 1, b, lo, gz, n0, s0, m_So_age, Po) 36 L (.int x :: r) hp')) := xVe _ _ _ _ _ _
theorem s_So_age_36 (v : Int32) (l : Launch) (d b lo gz n0 s0 : Nat) (Po : Option Value → xHp → Prop) (L : List Value) (hp : xHp) : (xV k_So_age (l, d, b, lo, gz, n0, s0, m_So_age, Po) 36 L [.int v] hp) = (Po (some (.int v)) hp) := xVe _ _ _ _ _ _
theorem ml_So_260 : xLk "SunnyOnes" 260 m_Past_acts := Or.inl (wg3 209 (by decide +kernel) rfl)
theorem ml_So_263 : xLk "SunnyOnes" 263 m_Past_popInto := Or.inl (wg3 213 (by decide +kernel) rfl)
def k_So_undo : List xEC := [
  (0, .aload_n 0, 1, 0, 0, 0, m_x),
  (1, .getfield 67, 4, 0, 9, 0, m_x),
  (4, .invokevirtual 260, 7, 5, 0, 0, m_Past_acts),
  (7, .ifCond .ne 5, 10, 0, 12, 0, m_x),
  (10, .iconst (-1), 11, 0, 0, 0, m_x),
  (11, .ireturn, 12, 0, 0, 0, m_x),
  (12, .aload_n 0, 13, 0, 0, 0, m_x),
  (13, .getfield 67, 16, 0, 9, 0, m_x),
  (16, .aload_n 0, 17, 0, 0, 0, m_x),
  (17, .getfield 54, 20, 0, 6, 0, m_x),
  (20, .invokevirtual 263, 23, 5, 0, 0, m_Past_popInto),
  (23, .aload_n 0, 24, 0, 0, 0, m_x),
  (24, .getfield 67, 27, 0, 9, 0, m_x),
  (27, .invokevirtual 260, 30, 5, 0, 0, m_Past_acts),
  (30, .ireturn, 31, 0, 0, 0, m_x)]
theorem dc_So_undo : ∀ E ∈ k_So_undo, xDc m_So_undo E := by decide +kernel
set_option maxRecDepth 20000 in
theorem ok_So_undo : ∀ E ∈ k_So_undo, xOk m_So_undo E := xok_of dc_So_undo (xfc trivial (xfc fl_So_67 (xfc ⟨ml_So_260, kd_Past_acts⟩ (xfc (show ((7 : Nat) : Int) + (5) = ((12 : Nat) : Int) from by decide) (xfc trivial (xfc trivial (xfc trivial (xfc fl_So_67 (xfc trivial (xfc fl_So_54 (xfc ⟨ml_So_263, kd_Past_popInto⟩ (xfc trivial (xfc fl_So_67 (xfc ⟨ml_So_260, kd_Past_acts⟩ (xfc trivial (xfn))))))))))))))))
theorem s_So_undo_0 (C : xCx) (r : List Value) (hp : xHp) (x : Nat) : (xV k_So_undo C 0 [.ref x] r hp) = (True ∧ xV k_So_undo C 1 [.ref x] (.ref x :: r) hp) := xVe _ _ _ _ _ _
theorem s_So_undo_1 (a : Nat) (C : xCx) (L r : List Value) (hp : xHp) : (xV k_So_undo C 1 L (.ref a :: r) hp) = (xF hp a 0 9 (fun v => xV k_So_undo C 4 L (v :: r) hp)) := xVe _ _ _ _ _ _
theorem s_So_undo_4 (a : Nat) (l : Launch) (d b lo gz n0 s0 : Nat) (Po : Option Value → xHp → Prop) (L r : List Value) (hp : xHp) : (xV k_So_undo (l, d + 1, b, lo, gz, n0, s0, m_So_undo, Po) 4 L (.ref a :: r) hp) = (xO hp a 5 ∧ xcs r 8 ∧ xMi l d b lo gz m_Past_acts [.ref a] hp (fun x hp' => xV k_So_undo (l, d + 1, b, lo, gz, n0, s0, m_So_undo, Po) 7 L (.int x :: r) hp')) := xVe _ _ _ _ _ _
theorem s_So_undo_7 (x : Int32) (C : xCx) (L r : List Value) (hp : xHp) : (xV k_So_undo C 7 L (.int x :: r) hp) = (((¬ x = 0 → xV k_So_undo C 12 L r hp) ∧ (x = 0 → xV k_So_undo C 10 L r hp))) := xVe _ _ _ _ _ _
theorem s_So_undo_10  (C : xCx) (L r : List Value) (hp : xHp) : (xV k_So_undo C 10 L (r) hp) = (xV k_So_undo C 11 L (.int (-1) :: r) hp) := xVe _ _ _ _ _ _
theorem s_So_undo_11 (v : Int32) (l : Launch) (d b lo gz n0 s0 : Nat) (Po : Option Value → xHp → Prop) (L : List Value) (hp : xHp) : (xV k_So_undo (l, d, b, lo, gz, n0, s0, m_So_undo, Po) 11 L [.int v] hp) = (Po (some (.int v)) hp) := xVe _ _ _ _ _ _
theorem s_So_undo_12 (C : xCx) (r : List Value) (hp : xHp) (x : Nat) : (xV k_So_undo C 12 [.ref x] r hp) = (True ∧ xV k_So_undo C 13 [.ref x] (.ref x :: r) hp) := xVe _ _ _ _ _ _
theorem s_So_undo_13 (a : Nat) (C : xCx) (L r : List Value) (hp : xHp) : (xV k_So_undo C 13 L (.ref a :: r) hp) = (xF hp a 0 9 (fun v => xV k_So_undo C 16 L (v :: r) hp)) := xVe _ _ _ _ _ _
theorem s_So_undo_16 (C : xCx) (r : List Value) (hp : xHp) (x : Nat) : (xV k_So_undo C 16 [.ref x] r hp) = (True ∧ xV k_So_undo C 17 [.ref x] (.ref x :: r) hp) := xVe _ _ _ _ _ _
theorem s_So_undo_17 (a : Nat) (C : xCx) (L r : List Value) (hp : xHp) : (xV k_So_undo C 17 L (.ref a :: r) hp) = (xF hp a 0 6 (fun v => xV k_So_undo C 20 L (v :: r) hp)) := xVe _ _ _ _ _ _
theorem s_So_undo_20 (x0 : Nat) (a : Nat) (l : Launch) (d b lo gz n0 s0 : Nat) (Po : Option Value → xHp → Prop) (L r : List Value) (hp : xHp) : (xV k_So_undo (l, d + 1, b, lo, gz, n0, s0, m_So_undo, Po) 20 L (.ref x0 :: .ref a :: r) hp) = (xO hp a 5 ∧ xcs r 8 ∧ xMv l d b lo gz m_Past_popInto [.ref a, .ref x0] hp (fun hp' => xV k_So_undo (l, d + 1, b, lo, gz, n0, s0, m_So_undo, Po) 23 L r hp')) := xVe _ _ _ _ _ _
theorem s_So_undo_23 (C : xCx) (r : List Value) (hp : xHp) (x : Nat) : (xV k_So_undo C 23 [.ref x] r hp) = (True ∧ xV k_So_undo C 24 [.ref x] (.ref x :: r) hp) := xVe _ _ _ _ _ _
theorem s_So_undo_24 (a : Nat) (C : xCx) (L r : List Value) (hp : xHp) : (xV k_So_undo C 24 L (.ref a :: r) hp) = (xF hp a 0 9 (fun v => xV k_So_undo C 27 L (v :: r) hp)) := xVe _ _ _ _ _ _
theorem s_So_undo_27 (a : Nat) (l : Launch) (d b lo gz n0 s0 : Nat) (Po : Option Value → xHp → Prop) (L r : List Value) (hp : xHp) : (xV k_So_undo (l, d + 1, b, lo, gz, n0, s0, m_So_undo, Po) 27 L (.ref a :: r) hp) = (xO hp a 5 ∧ xcs r 8 ∧ xMi l d b lo gz m_Past_acts [.ref a] hp (fun x hp' => xV k_So_undo (l, d + 1, b, lo, gz, n0, s0, m_So_undo, Po) 30 L (.int x :: r) hp')) := xVe _ _ _ _ _ _
theorem s_So_undo_30 (v : Int32) (l : Launch) (d b lo gz n0 s0 : Nat) (Po : Option Value → xHp → Prop) (L : List Value) (hp : xHp) : (xV k_So_undo (l, d, b, lo, gz, n0, s0, m_So_undo, Po) 30 L [.int v] hp) = (Po (some (.int v)) hp) := xVe _ _ _ _ _ _
theorem ml_So_284 : xLk "SunnyOnes" 284 m_So_lookAhead := Or.inl (wg3 222 (by decide +kernel) rfl)
def k_So_later : List xEC := [
  (0, .aload_n 0, 1, 0, 0, 0, m_x),
  (1, .iload_n 1, 2, 0, 0, 0, m_x),
  (2, .invokevirtual 179, 5, 0, 0, 0, m_So_has),
  (5, .ifCond .eq 13, 8, 0, 18, 0, m_x),
  (8, .iload_n 2, 9, 0, 0, 0, m_x),
  (9, .ifCond .lt 9, 12, 0, 18, 0, m_x),
  (12, .iload_n 2, 13, 0, 0, 0, m_x),
  (13, .bipush 99, 15, 0, 0, 0, m_x),
  (15, .if_icmp .le 5, 18, 0, 20, 0, m_x),
  (18, .iconst (-1), 19, 0, 0, 0, m_x),
  (19, .ireturn, 20, 0, 0, 0, m_x),
  (20, .aload_n 0, 21, 0, 0, 0, m_x),
  (21, .iload_n 2, 22, 0, 0, 0, m_x),
  (22, .invokevirtual 284, 25, 0, 0, 0, m_So_lookAhead),
  (25, .aload_n 0, 26, 0, 0, 0, m_x),
  (26, .getfield 19, 29, 0, 1, 0, m_x),
  (29, .aload_n 0, 30, 0, 0, 0, m_x),
  (30, .getfield 47, 33, 0, 5, 0, m_x),
  (33, .aload_n 0, 34, 0, 0, 0, m_x),
  (34, .getfield 58, 37, 0, 7, 0, m_x),
  (37, .iload_n 1, 38, 0, 0, 0, m_x),
  (38, .invokevirtual 194, 41, 9, 0, 0, m_Sun_hoursOf),
  (41, .i2l, 42, 0, 0, 0, m_x),
  (42, .aload_n 0, 43, 0, 0, 0, m_x),
  (43, .getfield 58, 46, 0, 7, 0, m_x),
  (46, .invokevirtual 229, 49, 3, 0, 0, m_Folk_ages),
  (49, .i2l, 50, 0, 0, 0, m_x),
  (50, .invokevirtual 225, 53, 7, 0, 0, m_Row_tell2),
  (53, .aload_n 0, 54, 0, 0, 0, m_x),
  (54, .getfield 58, 57, 0, 7, 0, m_x),
  (57, .iload_n 1, 58, 0, 0, 0, m_x),
  (58, .invokevirtual 185, 61, 3, 0, 0, m_Folk_age),
  (61, .ireturn, 62, 0, 0, 0, m_x)]
theorem dc_So_later : ∀ E ∈ k_So_later, xDc m_So_later E := by decide +kernel
set_option maxRecDepth 20000 in
theorem ok_So_later : ∀ E ∈ k_So_later, xOk m_So_later E := xok_of dc_So_later (xfc trivial (xfc trivial (xfc ⟨ml_So_179, kd_So_has⟩ (xfc (show ((5 : Nat) : Int) + (13) = ((18 : Nat) : Int) from by decide) (xfc trivial (xfc (show ((9 : Nat) : Int) + (9) = ((18 : Nat) : Int) from by decide) (xfc trivial (xfc trivial (xfc (show ((15 : Nat) : Int) + (5) = ((20 : Nat) : Int) from by decide) (xfc trivial (xfc trivial (xfc trivial (xfc trivial (xfc ⟨ml_So_284, kd_So_lookAhead⟩ (xfc trivial (xfc fl_So_19 (xfc trivial (xfc fl_So_47 (xfc trivial (xfc fl_So_58 (xfc trivial (xfc ⟨ml_So_194, kd_Sun_hoursOf⟩ (xfc trivial (xfc trivial (xfc fl_So_58 (xfc ⟨ml_So_229, kd_Folk_ages⟩ (xfc trivial (xfc ⟨ml_So_225, kd_Row_tell2⟩ (xfc trivial (xfc fl_So_58 (xfc trivial (xfc ⟨ml_So_185, kd_Folk_age⟩ (xfc trivial (xfn))))))))))))))))))))))))))))))))))
theorem s_So_later_0 (C : xCx) (r : List Value) (hp : xHp) (x : Nat) (a1 a2 : Value) : (xV k_So_later C 0 [.ref x, a1, a2] r hp) = (True ∧ xV k_So_later C 1 [.ref x, a1, a2] (.ref x :: r) hp) := xVe _ _ _ _ _ _
theorem s_So_later_1 (C : xCx) (r : List Value) (hp : xHp) (x : Int32) (a0 a2 : Value) : (xV k_So_later C 1 [a0, .int x, a2] r hp) = (xV k_So_later C 2 [a0, .int x, a2] (.int x :: r) hp) := xVe _ _ _ _ _ _
theorem s_So_later_2 (x0 : Int32) (a : Nat) (l : Launch) (d b lo gz n0 s0 : Nat) (Po : Option Value → xHp → Prop) (L r : List Value) (hp : xHp) : (xV k_So_later (l, d + 1, b, lo, gz, n0, s0, m_So_later, Po) 2 L (.int x0 :: .ref a :: r) hp) = (xO hp a 0 ∧ xcs r 8 ∧ xMi l d b lo gz m_So_has [.ref a, .int x0] hp (fun x hp' => xV k_So_later (l, d + 1, b, lo, gz, n0, s0, m_So_later, Po) 5 L (.int x :: r) hp')) := xVe _ _ _ _ _ _
theorem s_So_later_5 (x : Int32) (C : xCx) (L r : List Value) (hp : xHp) : (xV k_So_later C 5 L (.int x :: r) hp) = (((x = 0 → xV k_So_later C 18 L r hp) ∧ (¬ x = 0 → xV k_So_later C 8 L r hp))) := xVe _ _ _ _ _ _
theorem s_So_later_8 (C : xCx) (r : List Value) (hp : xHp) (x : Int32) (a0 a1 : Value) : (xV k_So_later C 8 [a0, a1, .int x] r hp) = (xV k_So_later C 9 [a0, a1, .int x] (.int x :: r) hp) := xVe _ _ _ _ _ _
theorem s_So_later_9 (x : Int32) (C : xCx) (L r : List Value) (hp : xHp) : (xV k_So_later C 9 L (.int x :: r) hp) = (((x < 0 → xV k_So_later C 18 L r hp) ∧ (¬ x < 0 → xV k_So_later C 12 L r hp))) := xVe _ _ _ _ _ _
theorem s_So_later_12 (C : xCx) (r : List Value) (hp : xHp) (x : Int32) (a0 a1 : Value) : (xV k_So_later C 12 [a0, a1, .int x] r hp) = (xV k_So_later C 13 [a0, a1, .int x] (.int x :: r) hp) := xVe _ _ _ _ _ _
theorem s_So_later_13  (C : xCx) (L r : List Value) (hp : xHp) : (xV k_So_later C 13 L (r) hp) = (xV k_So_later C 15 L (.int (99) :: r) hp) := xVe _ _ _ _ _ _
theorem s_So_later_15 (x y : Int32) (C : xCx) (L r : List Value) (hp : xHp) : (xV k_So_later C 15 L (.int y :: .int x :: r) hp) = (((x ≤ y → xV k_So_later C 20 L r hp) ∧ (¬ x ≤ y → xV k_So_later C 18 L r hp))) := xVe _ _ _ _ _ _
theorem s_So_later_18  (C : xCx) (L r : List Value) (hp : xHp) : (xV k_So_later C 18 L (r) hp) = (xV k_So_later C 19 L (.int (-1) :: r) hp) := xVe _ _ _ _ _ _
theorem s_So_later_19 (v : Int32) (l : Launch) (d b lo gz n0 s0 : Nat) (Po : Option Value → xHp → Prop) (L : List Value) (hp : xHp) : (xV k_So_later (l, d, b, lo, gz, n0, s0, m_So_later, Po) 19 L [.int v] hp) = (Po (some (.int v)) hp) := xVe _ _ _ _ _ _
theorem s_So_later_20 (C : xCx) (r : List Value) (hp : xHp) (x : Nat) (a1 a2 : Value) : (xV k_So_later C 20 [.ref x, a1, a2] r hp) = (True ∧ xV k_So_later C 21 [.ref x, a1, a2] (.ref x :: r) hp) := xVe _ _ _ _ _ _
theorem s_So_later_21 (C : xCx) (r : List Value) (hp : xHp) (x : Int32) (a0 a1 : Value) : (xV k_So_later C 21 [a0, a1, .int x] r hp) = (xV k_So_later C 22 [a0, a1, .int x] (.int x :: r) hp) := xVe _ _ _ _ _ _
theorem s_So_later_22 (x0 : Int32) (a : Nat) (l : Launch) (d b lo gz n0 s0 : Nat) (Po : Option Value → xHp → Prop) (L r : List Value) (hp : xHp) : (xV k_So_later (l, d + 1, b, lo, gz, n0, s0, m_So_later, Po) 22 L (.int x0 :: .ref a :: r) hp) = (xO hp a 0 ∧ xcs r 8 ∧ xMv l d b lo gz m_So_lookAhead [.ref a, .int x0] hp (fun hp' => xV k_So_later (l, d + 1, b, lo, gz, n0, s0, m_So_later, Po) 25 L r hp')) := xVe _ _ _ _ _ _
theorem s_So_later_25 (C : xCx) (r : List Value) (hp : xHp) (x : Nat) (a1 a2 : Value) : (xV k_So_later C 25 [.ref x, a1, a2] r hp) = (True ∧ xV k_So_later C 26 [.ref x, a1, a2] (.ref x :: r) hp) := xVe _ _ _ _ _ _
theorem s_So_later_26 (a : Nat) (C : xCx) (L r : List Value) (hp : xHp) : (xV k_So_later C 26 L (.ref a :: r) hp) = (xF hp a 0 1 (fun v => xV k_So_later C 29 L (v :: r) hp)) := xVe _ _ _ _ _ _
theorem s_So_later_29 (C : xCx) (r : List Value) (hp : xHp) (x : Nat) (a1 a2 : Value) : (xV k_So_later C 29 [.ref x, a1, a2] r hp) = (True ∧ xV k_So_later C 30 [.ref x, a1, a2] (.ref x :: r) hp) := xVe _ _ _ _ _ _
theorem s_So_later_30 (a : Nat) (C : xCx) (L r : List Value) (hp : xHp) : (xV k_So_later C 30 L (.ref a :: r) hp) = (xF hp a 0 5 (fun v => xV k_So_later C 33 L (v :: r) hp)) := xVe _ _ _ _ _ _
theorem s_So_later_33 (C : xCx) (r : List Value) (hp : xHp) (x : Nat) (a1 a2 : Value) : (xV k_So_later C 33 [.ref x, a1, a2] r hp) = (True ∧ xV k_So_later C 34 [.ref x, a1, a2] (.ref x :: r) hp) := xVe _ _ _ _ _ _
theorem s_So_later_34 (a : Nat) (C : xCx) (L r : List Value) (hp : xHp) : (xV k_So_later C 34 L (.ref a :: r) hp) = (xF hp a 0 7 (fun v => xV k_So_later C 37 L (v :: r) hp)) := xVe _ _ _ _ _ _
theorem s_So_later_37 (C : xCx) (r : List Value) (hp : xHp) (x : Int32) (a0 a2 : Value) : (xV k_So_later C 37 [a0, .int x, a2] r hp) = (xV k_So_later C 38 [a0, .int x, a2] (.int x :: r) hp) := xVe _ _ _ _ _ _
theorem s_So_later_38 (x0 : Nat) (x1 : Int32) (a : Nat) (l : Launch) (d b lo gz n0 s0 : Nat) (Po : Option Value → xHp → Prop) (L r : List Value) (hp : xHp) : (xV k_So_later (l, d + 1, b, lo, gz, n0, s0, m_So_later, Po) 38 L (.int x1 :: .ref x0 :: .ref a :: r) hp) = (xO hp a 9 ∧ xcs r 8 ∧ xMi l d b lo gz m_Sun_hoursOf [.ref a, .ref x0, .int x1] hp (fun x hp' => xV k_So_later (l, d + 1, b, lo, gz, n0, s0, m_So_later, Po) 41 L (.int x :: r) hp')) := xVe _ _ _ _ _ _
theorem s_So_later_41 (x : Int32) (C : xCx) (L r : List Value) (hp : xHp) : (xV k_So_later C 41 L (.int x :: r) hp) = (xV k_So_later C 42 L (.long x.toInt64 :: r) hp) := xVe _ _ _ _ _ _
theorem s_So_later_42 (C : xCx) (r : List Value) (hp : xHp) (x : Nat) (a1 a2 : Value) : (xV k_So_later C 42 [.ref x, a1, a2] r hp) = (True ∧ xV k_So_later C 43 [.ref x, a1, a2] (.ref x :: r) hp) := xVe _ _ _ _ _ _
theorem s_So_later_43 (a : Nat) (C : xCx) (L r : List Value) (hp : xHp) : (xV k_So_later C 43 L (.ref a :: r) hp) = (xF hp a 0 7 (fun v => xV k_So_later C 46 L (v :: r) hp)) := xVe _ _ _ _ _ _
theorem s_So_later_46 (a : Nat) (l : Launch) (d b lo gz n0 s0 : Nat) (Po : Option Value → xHp → Prop) (L r : List Value) (hp : xHp) : (xV k_So_later (l, d + 1, b, lo, gz, n0, s0, m_So_later, Po) 46 L (.ref a :: r) hp) = (xO hp a 3 ∧ xcs r 8 ∧ xMi l d b lo gz m_Folk_ages [.ref a] hp (fun x hp' => xV k_So_later (l, d + 1, b, lo, gz, n0, s0, m_So_later, Po) 49 L (.int x :: r) hp')) := xVe _ _ _ _ _ _
theorem s_So_later_49 (x : Int32) (C : xCx) (L r : List Value) (hp : xHp) : (xV k_So_later C 49 L (.int x :: r) hp) = (xV k_So_later C 50 L (.long x.toInt64 :: r) hp) := xVe _ _ _ _ _ _
theorem s_So_later_50 (x0 : Int64) (x1 : Int64) (a : Nat) (l : Launch) (d b lo gz n0 s0 : Nat) (Po : Option Value → xHp → Prop) (L r : List Value) (hp : xHp) : (xV k_So_later (l, d + 1, b, lo, gz, n0, s0, m_So_later, Po) 50 L (.long x1 :: .long x0 :: .ref a :: r) hp) = (xO hp a 7 ∧ xcs r 8 ∧ xMv l d b lo gz m_Row_tell2 [.ref a, .long x0, .long x1] hp (fun hp' => xV k_So_later (l, d + 1, b, lo, gz, n0, s0, m_So_later, Po) 53 L r hp')) := xVe _ _ _ _ _ _
theorem s_So_later_53 (C : xCx) (r : List Value) (hp : xHp) (x : Nat) (a1 a2 : Value) : (xV k_So_later C 53 [.ref x, a1, a2] r hp) = (True ∧ xV k_So_later C 54 [.ref x, a1, a2] (.ref x :: r) hp) := xVe _ _ _ _ _ _
theorem s_So_later_54 (a : Nat) (C : xCx) (L r : List Value) (hp : xHp) : (xV k_So_later C 54 L (.ref a :: r) hp) = (xF hp a 0 7 (fun v => xV k_So_later C 57 L (v :: r) hp)) := xVe _ _ _ _ _ _
theorem s_So_later_57 (C : xCx) (r : List Value) (hp : xHp) (x : Int32) (a0 a2 : Value) : (xV k_So_later C 57 [a0, .int x, a2] r hp) = (xV k_So_later C 58 [a0, .int x, a2] (.int x :: r) hp) := xVe _ _ _ _ _ _
theorem s_So_later_58 (x0 : Int32) (a : Nat) (l : Launch) (d b lo gz n0 s0 : Nat) (Po : Option Value → xHp → Prop) (L r : List Value) (hp : xHp) : (xV k_So_later (l, d + 1, b, lo, gz, n0, s0, m_So_later, Po) 58 L (.int x0 :: .ref a :: r) hp) = (xO hp a 3 ∧ xcs r 8 ∧ xMi l d b lo gz m_Folk_age [.ref a, .int x0] hp (fun x hp' => xV k_So_later (l, d + 1, b, lo, gz, n0, s0, m_So_later, Po) 61 L (.int x :: r) hp')) := xVe _ _ _ _ _ _
theorem s_So_later_61 (v : Int32) (l : Launch) (d b lo gz n0 s0 : Nat) (Po : Option Value → xHp → Prop) (L : List Value) (hp : xHp) : (xV k_So_later (l, d, b, lo, gz, n0, s0, m_So_later, Po) 61 L [.int v] hp) = (Po (some (.int v)) hp) := xVe _ _ _ _ _ _
def k_So_lookAhead : List xEC := [
  (0, .aload_n 0, 1, 0, 0, 0, m_x),
  (1, .getfield 58, 4, 0, 7, 0, m_x),
  (4, .aload_n 0, 5, 0, 0, 0, m_x),
  (5, .getfield 54, 8, 0, 6, 0, m_x),
  (8, .invokevirtual 215, 11, 3, 0, 0, m_Folk_copyFrom),
  (11, .iconst 0, 12, 0, 0, 0, m_x),
  (12, .istore_n 2, 13, 0, 0, 0, m_x),
  (13, .iload_n 2, 14, 0, 0, 0, m_x),
  (14, .iload_n 1, 15, 0, 0, 0, m_x),
  (15, .if_icmp .ge 25, 18, 0, 40, 0, m_x),
  (18, .aload_n 0, 19, 0, 0, 0, m_x),
  (19, .getfield 47, 22, 0, 5, 0, m_x),
  (22, .aload_n 0, 23, 0, 0, 0, m_x),
  (23, .getfield 35, 26, 0, 3, 0, m_x),
  (26, .aload_n 0, 27, 0, 0, 0, m_x),
  (27, .getfield 58, 30, 0, 7, 0, m_x),
  (30, .invokevirtual 218, 33, 9, 0, 0, m_Sun_dayBy),
  (33, .pop, 34, 0, 0, 0, m_x),
  (34, .iinc 2 1, 37, 0, 0, 0, m_x),
  (37, .goto (-24), 40, 0, 13, 0, m_x),
  (40, .return_, 41, 0, 0, 0, m_x)]
theorem dc_So_lookAhead : ∀ E ∈ k_So_lookAhead, xDc m_So_lookAhead E := by decide +kernel
set_option maxRecDepth 20000 in
theorem ok_So_lookAhead : ∀ E ∈ k_So_lookAhead, xOk m_So_lookAhead E := xok_of dc_So_lookAhead (xfc trivial (xfc fl_So_58 (xfc trivial (xfc fl_So_54 (xfc ⟨ml_So_215, kd_Folk_copyFrom⟩ (xfc trivial (xfc trivial (xfc trivial (xfc trivial (xfc (show ((15 : Nat) : Int) + (25) = ((40 : Nat) : Int) from by decide) (xfc trivial (xfc fl_So_47 (xfc trivial (xfc fl_So_35 (xfc trivial (xfc fl_So_58 (xfc ⟨ml_So_218, kd_Sun_dayBy⟩ (xfc trivial (xfc trivial (xfc (show ((37 : Nat) : Int) + (-24) = ((13 : Nat) : Int) from by decide) (xfc trivial (xfn))))))))))))))))))))))
theorem s_So_lookAhead_0 (C : xCx) (r : List Value) (hp : xHp) (x : Nat) (a1 a2 : Value) : (xV k_So_lookAhead C 0 [.ref x, a1, a2] r hp) = (True ∧ xV k_So_lookAhead C 1 [.ref x, a1, a2] (.ref x :: r) hp) := xVe _ _ _ _ _ _
theorem s_So_lookAhead_1 (a : Nat) (C : xCx) (L r : List Value) (hp : xHp) : (xV k_So_lookAhead C 1 L (.ref a :: r) hp) = (xF hp a 0 7 (fun v => xV k_So_lookAhead C 4 L (v :: r) hp)) := xVe _ _ _ _ _ _
theorem s_So_lookAhead_4 (C : xCx) (r : List Value) (hp : xHp) (x : Nat) (a1 a2 : Value) : (xV k_So_lookAhead C 4 [.ref x, a1, a2] r hp) = (True ∧ xV k_So_lookAhead C 5 [.ref x, a1, a2] (.ref x :: r) hp) := xVe _ _ _ _ _ _
theorem s_So_lookAhead_5 (a : Nat) (C : xCx) (L r : List Value) (hp : xHp) : (xV k_So_lookAhead C 5 L (.ref a :: r) hp) = (xF hp a 0 6 (fun v => xV k_So_lookAhead C 8 L (v :: r) hp)) := xVe _ _ _ _ _ _
theorem s_So_lookAhead_8 (x0 : Nat) (a : Nat) (l : Launch) (d b lo gz n0 s0 : Nat) (Po : Option Value → xHp → Prop) (L r : List Value) (hp : xHp) : (xV k_So_lookAhead (l, d + 1, b, lo, gz, n0, s0, m_So_lookAhead, Po) 8 L (.ref x0 :: .ref a :: r) hp) = (xO hp a 3 ∧ xcs r 8 ∧ xMv l d b lo gz m_Folk_copyFrom [.ref a, .ref x0] hp (fun hp' => xV k_So_lookAhead (l, d + 1, b, lo, gz, n0, s0, m_So_lookAhead, Po) 11 L r hp')) := xVe _ _ _ _ _ _
theorem s_So_lookAhead_11  (C : xCx) (L r : List Value) (hp : xHp) : (xV k_So_lookAhead C 11 L (r) hp) = (xV k_So_lookAhead C 12 L (.int (0) :: r) hp) := xVe _ _ _ _ _ _
theorem s_So_lookAhead_12 (C : xCx) (r : List Value) (hp : xHp) (x : Int32) (a0 a1 a2 : Value) : (xV k_So_lookAhead C 12 [a0, a1, a2] (.int x :: r) hp) = (2 < 3 ∧ xNl [a0, a1, a2] 2 ∧ xV k_So_lookAhead C 13 [a0, a1, .int x] r hp) := xVe _ _ _ _ _ _
theorem s_So_lookAhead_13 (C : xCx) (r : List Value) (hp : xHp) (x : Int32) (a0 a1 : Value) : (xV k_So_lookAhead C 13 [a0, a1, .int x] r hp) = (xV k_So_lookAhead C 14 [a0, a1, .int x] (.int x :: r) hp) := xVe _ _ _ _ _ _
theorem s_So_lookAhead_14 (C : xCx) (r : List Value) (hp : xHp) (x : Int32) (a0 a2 : Value) : (xV k_So_lookAhead C 14 [a0, .int x, a2] r hp) = (xV k_So_lookAhead C 15 [a0, .int x, a2] (.int x :: r) hp) := xVe _ _ _ _ _ _
theorem s_So_lookAhead_15 (x y : Int32) (C : xCx) (L r : List Value) (hp : xHp) : (xV k_So_lookAhead C 15 L (.int y :: .int x :: r) hp) = (((y ≤ x → xV k_So_lookAhead C 40 L r hp) ∧ (¬ y ≤ x → xV k_So_lookAhead C 18 L r hp))) := xVe _ _ _ _ _ _
theorem s_So_lookAhead_18 (C : xCx) (r : List Value) (hp : xHp) (x : Nat) (a1 a2 : Value) : (xV k_So_lookAhead C 18 [.ref x, a1, a2] r hp) = (True ∧ xV k_So_lookAhead C 19 [.ref x, a1, a2] (.ref x :: r) hp) := xVe _ _ _ _ _ _
theorem s_So_lookAhead_19 (a : Nat) (C : xCx) (L r : List Value) (hp : xHp) : (xV k_So_lookAhead C 19 L (.ref a :: r) hp) = (xF hp a 0 5 (fun v => xV k_So_lookAhead C 22 L (v :: r) hp)) := xVe _ _ _ _ _ _
theorem s_So_lookAhead_22 (C : xCx) (r : List Value) (hp : xHp) (x : Nat) (a1 a2 : Value) : (xV k_So_lookAhead C 22 [.ref x, a1, a2] r hp) = (True ∧ xV k_So_lookAhead C 23 [.ref x, a1, a2] (.ref x :: r) hp) := xVe _ _ _ _ _ _
theorem s_So_lookAhead_23 (a : Nat) (C : xCx) (L r : List Value) (hp : xHp) : (xV k_So_lookAhead C 23 L (.ref a :: r) hp) = (xF hp a 0 3 (fun v => xV k_So_lookAhead C 26 L (v :: r) hp)) := xVe _ _ _ _ _ _
theorem s_So_lookAhead_26 (C : xCx) (r : List Value) (hp : xHp) (x : Nat) (a1 a2 : Value) : (xV k_So_lookAhead C 26 [.ref x, a1, a2] r hp) = (True ∧ xV k_So_lookAhead C 27 [.ref x, a1, a2] (.ref x :: r) hp) := xVe _ _ _ _ _ _
theorem s_So_lookAhead_27 (a : Nat) (C : xCx) (L r : List Value) (hp : xHp) : (xV k_So_lookAhead C 27 L (.ref a :: r) hp) = (xF hp a 0 7 (fun v => xV k_So_lookAhead C 30 L (v :: r) hp)) := xVe _ _ _ _ _ _
theorem s_So_lookAhead_30 (x0 : Nat) (x1 : Nat) (a : Nat) (l : Launch) (d b lo gz n0 s0 : Nat) (Po : Option Value → xHp → Prop) (L r : List Value) (hp : xHp) : (xV k_So_lookAhead (l, d + 1, b, lo, gz, n0, s0, m_So_lookAhead, Po) 30 L (.ref x1 :: .ref x0 :: .ref a :: r) hp) = (xO hp a 9 ∧ xcs r 8 ∧ xMi l d b lo gz m_Sun_dayBy [.ref a, .ref x0, .ref x1] hp (fun x hp' => xV k_So_lookAhead (l, d + 1, b, lo, gz, n0, s0, m_So_lookAhead, Po) 33 L (.int x :: r) hp')) := xVe _ _ _ _ _ _
theorem s_So_lookAhead_33 (v : Value) (C : xCx) (L r : List Value) (hp : xHp) : (xV k_So_lookAhead C 33 L (v :: r) hp) = (v.category = 1 ∧ xV k_So_lookAhead C 34 L (r) hp) := xVe _ _ _ _ _ _
theorem s_So_lookAhead_34 (C : xCx) (r : List Value) (hp : xHp) (x : Int32) (a0 a1 : Value) : (xV k_So_lookAhead C 34 [a0, a1, .int x] r hp) = (xNl [a0, a1, .int x] 2 ∧ xV k_So_lookAhead C 37 [a0, a1, .int (x + (1))] r hp) := xVe _ _ _ _ _ _
theorem s_So_lookAhead_37 (C : xCx) (L r : List Value) (hp : xHp) : (xV k_So_lookAhead C 37 L r hp) = (xV k_So_lookAhead C 13 L r hp) := xVe _ _ _ _ _ _
theorem s_So_lookAhead_40 (l : Launch) (d b lo gz n0 s0 : Nat) (Po : Option Value → xHp → Prop) (L : List Value) (hp : xHp) : (xV k_So_lookAhead (l, d, b, lo, gz, n0, s0, m_So_lookAhead, Po) 40 L [] hp) = (Po (none) hp) := xVe _ _ _ _ _ _
theorem ml_So_287 : xLk "SunnyOnes" 287 m_Row_tell1 := Or.inl (wg3 230 (by decide +kernel) rfl)
theorem ml_So_290 : xLk "SunnyOnes" 290 m_Sun_dayFor := Or.inl (wg3 234 (by decide +kernel) rfl)
def k_So_when : List xEC := [
  (0, .aload_n 0, 1, 0, 0, 0, m_x),
  (1, .iload_n 1, 2, 0, 0, 0, m_x),
  (2, .invokevirtual 179, 5, 0, 0, 0, m_So_has),
  (5, .ifCond .eq 14, 8, 0, 19, 0, m_x),
  (8, .iload_n 2, 9, 0, 0, 0, m_x),
  (9, .ifCond .lt 10, 12, 0, 19, 0, m_x),
  (12, .iload_n 2, 13, 0, 0, 0, m_x),
  (13, .sipush 9999, 16, 0, 0, 0, m_x),
  (16, .if_icmp .le 5, 19, 0, 21, 0, m_x),
  (19, .iconst (-1), 20, 0, 0, 0, m_x),
  (20, .ireturn, 21, 0, 0, 0, m_x),
  (21, .aload_n 0, 22, 0, 0, 0, m_x),
  (22, .getfield 58, 25, 0, 7, 0, m_x),
  (25, .aload_n 0, 26, 0, 0, 0, m_x),
  (26, .getfield 54, 29, 0, 6, 0, m_x),
  (29, .invokevirtual 215, 32, 3, 0, 0, m_Folk_copyFrom),
  (32, .iconst 0, 33, 0, 0, 0, m_x),
  (33, .istore_n 3, 34, 0, 0, 0, m_x),
  (34, .iload_n 3, 35, 0, 0, 0, m_x),
  (35, .bipush 99, 37, 0, 0, 0, m_x),
  (37, .if_icmp .gt 52, 40, 0, 89, 0, m_x),
  (40, .aload_n 0, 41, 0, 0, 0, m_x),
  (41, .getfield 58, 44, 0, 7, 0, m_x),
  (44, .iload_n 1, 45, 0, 0, 0, m_x),
  (45, .invokevirtual 185, 48, 3, 0, 0, m_Folk_age),
  (48, .iload_n 2, 49, 0, 0, 0, m_x),
  (49, .if_icmp .lt 21, 52, 0, 70, 0, m_x),
  (52, .aload_n 0, 53, 0, 0, 0, m_x),
  (53, .getfield 19, 56, 0, 1, 0, m_x),
  (56, .aload_n 0, 57, 0, 0, 0, m_x),
  (57, .getfield 58, 60, 0, 7, 0, m_x),
  (60, .iload_n 1, 61, 0, 0, 0, m_x),
  (61, .invokevirtual 185, 64, 3, 0, 0, m_Folk_age),
  (64, .i2l, 65, 0, 0, 0, m_x),
  (65, .invokevirtual 287, 68, 7, 0, 0, m_Row_tell1),
  (68, .iload_n 3, 69, 0, 0, 0, m_x),
  (69, .ireturn, 70, 0, 0, 0, m_x),
  (70, .aload_n 0, 71, 0, 0, 0, m_x),
  (71, .getfield 47, 74, 0, 5, 0, m_x),
  (74, .aload_n 0, 75, 0, 0, 0, m_x),
  (75, .getfield 58, 78, 0, 7, 0, m_x),
  (78, .iload_n 1, 79, 0, 0, 0, m_x),
  (79, .invokevirtual 290, 82, 9, 0, 0, m_Sun_dayFor),
  (82, .pop, 83, 0, 0, 0, m_x),
  (83, .iinc 3 1, 86, 0, 0, 0, m_x),
  (86, .goto (-52), 89, 0, 34, 0, m_x),
  (89, .bipush (-2), 91, 0, 0, 0, m_x),
  (91, .ireturn, 92, 0, 0, 0, m_x)]
theorem dc_So_when : ∀ E ∈ k_So_when, xDc m_So_when E := by decide +kernel
set_option maxRecDepth 20000 in
theorem ok_So_when : ∀ E ∈ k_So_when, xOk m_So_when E := xok_of dc_So_when (xfc trivial (xfc trivial (xfc ⟨ml_So_179, kd_So_has⟩ (xfc (show ((5 : Nat) : Int) + (14) = ((19 : Nat) : Int) from by decide) (xfc trivial (xfc (show ((9 : Nat) : Int) + (10) = ((19 : Nat) : Int) from by decide) (xfc trivial (xfc trivial (xfc (show ((16 : Nat) : Int) + (5) = ((21 : Nat) : Int) from by decide) (xfc trivial (xfc trivial (xfc trivial (xfc fl_So_58 (xfc trivial (xfc fl_So_54 (xfc ⟨ml_So_215, kd_Folk_copyFrom⟩ (xfc trivial (xfc trivial (xfc trivial (xfc trivial (xfc (show ((37 : Nat) : Int) + (52) = ((89 : Nat) : Int) from by decide) (xfc trivial (xfc fl_So_58 (xfc trivial (xfc ⟨ml_So_185, kd_Folk_age⟩ (xfc trivial (xfc (show ((49 : Nat) : Int) + (21) = ((70 : Nat) : Int) from by decide) (xfc trivial (xfc fl_So_19 (xfc trivial (xfc fl_So_58 (xfc trivial (xfc ⟨ml_So_185, kd_Folk_age⟩ (xfc trivial (xfc ⟨ml_So_287, kd_Row_tell1⟩ (xfc trivial (xfc trivial (xfc trivial (xfc fl_So_47 (xfc trivial (xfc fl_So_58 (xfc trivial (xfc ⟨ml_So_290, kd_Sun_dayFor⟩ (xfc trivial (xfc trivial (xfc (show ((86 : Nat) : Int) + (-52) = ((34 : Nat) : Int) from by decide) (xfc trivial (xfc trivial (xfn)))))))))))))))))))))))))))))))))))))))))))))))))
theorem s_So_when_0 (C : xCx) (r : List Value) (hp : xHp) (x : Nat) (a1 a2 a3 : Value) : (xV k_So_when C 0 [.ref x, a1, a2, a3] r hp) = (True ∧ xV k_So_when C 1 [.ref x, a1, a2, a3] (.ref x :: r) hp) := xVe _ _ _ _ _ _
theorem s_So_when_1 (C : xCx) (r : List Value) (hp : xHp) (x : Int32) (a0 a2 a3 : Value) : (xV k_So_when C 1 [a0, .int x, a2, a3] r hp) = (xV k_So_when C 2 [a0, .int x, a2, a3] (.int x :: r) hp) := xVe _ _ _ _ _ _
theorem s_So_when_2 (x0 : Int32) (a : Nat) (l : Launch) (d b lo gz n0 s0 : Nat) (Po : Option Value → xHp → Prop) (L r : List Value) (hp : xHp) : (xV k_So_when (l, d + 1, b, lo, gz, n0, s0, m_So_when, Po) 2 L (.int x0 :: .ref a :: r) hp) = (xO hp a 0 ∧ xcs r 8 ∧ xMi l d b lo gz m_So_has [.ref a, .int x0] hp (fun x hp' => xV k_So_when (l, d + 1, b, lo, gz, n0, s0, m_So_when, Po) 5 L (.int x :: r) hp')) := xVe _ _ _ _ _ _
theorem s_So_when_5 (x : Int32) (C : xCx) (L r : List Value) (hp : xHp) : (xV k_So_when C 5 L (.int x :: r) hp) = (((x = 0 → xV k_So_when C 19 L r hp) ∧ (¬ x = 0 → xV k_So_when C 8 L r hp))) := xVe _ _ _ _ _ _
theorem s_So_when_8 (C : xCx) (r : List Value) (hp : xHp) (x : Int32) (a0 a1 a3 : Value) : (xV k_So_when C 8 [a0, a1, .int x, a3] r hp) = (xV k_So_when C 9 [a0, a1, .int x, a3] (.int x :: r) hp) := xVe _ _ _ _ _ _
theorem s_So_when_9 (x : Int32) (C : xCx) (L r : List Value) (hp : xHp) : (xV k_So_when C 9 L (.int x :: r) hp) = (((x < 0 → xV k_So_when C 19 L r hp) ∧ (¬ x < 0 → xV k_So_when C 12 L r hp))) := xVe _ _ _ _ _ _
theorem s_So_when_12 (C : xCx) (r : List Value) (hp : xHp) (x : Int32) (a0 a1 a3 : Value) : (xV k_So_when C 12 [a0, a1, .int x, a3] r hp) = (xV k_So_when C 13 [a0, a1, .int x, a3] (.int x :: r) hp) := xVe _ _ _ _ _ _
theorem s_So_when_13  (C : xCx) (L r : List Value) (hp : xHp) : (xV k_So_when C 13 L (r) hp) = (xV k_So_when C 16 L (.int (9999) :: r) hp) := xVe _ _ _ _ _ _
theorem s_So_when_16 (x y : Int32) (C : xCx) (L r : List Value) (hp : xHp) : (xV k_So_when C 16 L (.int y :: .int x :: r) hp) = (((x ≤ y → xV k_So_when C 21 L r hp) ∧ (¬ x ≤ y → xV k_So_when C 19 L r hp))) := xVe _ _ _ _ _ _
theorem s_So_when_19  (C : xCx) (L r : List Value) (hp : xHp) : (xV k_So_when C 19 L (r) hp) = (xV k_So_when C 20 L (.int (-1) :: r) hp) := xVe _ _ _ _ _ _
theorem s_So_when_20 (v : Int32) (l : Launch) (d b lo gz n0 s0 : Nat) (Po : Option Value → xHp → Prop) (L : List Value) (hp : xHp) : (xV k_So_when (l, d, b, lo, gz, n0, s0, m_So_when, Po) 20 L [.int v] hp) = (Po (some (.int v)) hp) := xVe _ _ _ _ _ _
theorem s_So_when_21 (C : xCx) (r : List Value) (hp : xHp) (x : Nat) (a1 a2 a3 : Value) : (xV k_So_when C 21 [.ref x, a1, a2, a3] r hp) = (True ∧ xV k_So_when C 22 [.ref x, a1, a2, a3] (.ref x :: r) hp) := xVe _ _ _ _ _ _
theorem s_So_when_22 (a : Nat) (C : xCx) (L r : List Value) (hp : xHp) : (xV k_So_when C 22 L (.ref a :: r) hp) = (xF hp a 0 7 (fun v => xV k_So_when C 25 L (v :: r) hp)) := xVe _ _ _ _ _ _
theorem s_So_when_25 (C : xCx) (r : List Value) (hp : xHp) (x : Nat) (a1 a2 a3 : Value) : (xV k_So_when C 25 [.ref x, a1, a2, a3] r hp) = (True ∧ xV k_So_when C 26 [.ref x, a1, a2, a3] (.ref x :: r) hp) := xVe _ _ _ _ _ _
theorem s_So_when_26 (a : Nat) (C : xCx) (L r : List Value) (hp : xHp) : (xV k_So_when C 26 L (.ref a :: r) hp) = (xF hp a 0 6 (fun v => xV k_So_when C 29 L (v :: r) hp)) := xVe _ _ _ _ _ _
theorem s_So_when_29 (x0 : Nat) (a : Nat) (l : Launch) (d b lo gz n0 s0 : Nat) (Po : Option Value → xHp → Prop) (L r : List Value) (hp : xHp) : (xV k_So_when (l, d + 1, b, lo, gz, n0, s0, m_So_when, Po) 29 L (.ref x0 :: .ref a :: r) hp) = (xO hp a 3 ∧ xcs r 8 ∧ xMv l d b lo gz m_Folk_copyFrom [.ref a, .ref x0] hp (fun hp' => xV k_So_when (l, d + 1, b, lo, gz, n0, s0, m_So_when, Po) 32 L r hp')) := xVe _ _ _ _ _ _
theorem s_So_when_32  (C : xCx) (L r : List Value) (hp : xHp) : (xV k_So_when C 32 L (r) hp) = (xV k_So_when C 33 L (.int (0) :: r) hp) := xVe _ _ _ _ _ _
theorem s_So_when_33 (C : xCx) (r : List Value) (hp : xHp) (x : Int32) (a0 a1 a2 a3 : Value) : (xV k_So_when C 33 [a0, a1, a2, a3] (.int x :: r) hp) = (3 < 4 ∧ xNl [a0, a1, a2, a3] 3 ∧ xV k_So_when C 34 [a0, a1, a2, .int x] r hp) := xVe _ _ _ _ _ _
theorem s_So_when_34 (C : xCx) (r : List Value) (hp : xHp) (x : Int32) (a0 a1 a2 : Value) : (xV k_So_when C 34 [a0, a1, a2, .int x] r hp) = (xV k_So_when C 35 [a0, a1, a2, .int x] (.int x :: r) hp) := xVe _ _ _ _ _ _
theorem s_So_when_35  (C : xCx) (L r : List Value) (hp : xHp) : (xV k_So_when C 35 L (r) hp) = (xV k_So_when C 37 L (.int (99) :: r) hp) := xVe _ _ _ _ _ _
theorem s_So_when_37 (x y : Int32) (C : xCx) (L r : List Value) (hp : xHp) : (xV k_So_when C 37 L (.int y :: .int x :: r) hp) = (((y < x → xV k_So_when C 89 L r hp) ∧ (¬ y < x → xV k_So_when C 40 L r hp))) := xVe _ _ _ _ _ _
theorem s_So_when_40 (C : xCx) (r : List Value) (hp : xHp) (x : Nat) (a1 a2 a3 : Value) : (xV k_So_when C 40 [.ref x, a1, a2, a3] r hp) = (True ∧ xV k_So_when C 41 [.ref x, a1, a2, a3] (.ref x :: r) hp) := xVe _ _ _ _ _ _
theorem s_So_when_41 (a : Nat) (C : xCx) (L r : List Value) (hp : xHp) : (xV k_So_when C 41 L (.ref a :: r) hp) = (xF hp a 0 7 (fun v => xV k_So_when C 44 L (v :: r) hp)) := xVe _ _ _ _ _ _
theorem s_So_when_44 (C : xCx) (r : List Value) (hp : xHp) (x : Int32) (a0 a2 a3 : Value) : (xV k_So_when C 44 [a0, .int x, a2, a3] r hp) = (xV k_So_when C 45 [a0, .int x, a2, a3] (.int x :: r) hp) := xVe _ _ _ _ _ _
theorem s_So_when_45 (x0 : Int32) (a : Nat) (l : Launch) (d b lo gz n0 s0 : Nat) (Po : Option Value → xHp → Prop) (L r : List Value) (hp : xHp) : (xV k_So_when (l, d + 1, b, lo, gz, n0, s0, m_So_when, Po) 45 L (.int x0 :: .ref a :: r) hp) = (xO hp a 3 ∧ xcs r 8 ∧ xMi l d b lo gz m_Folk_age [.ref a, .int x0] hp (fun x hp' => xV k_So_when (l, d + 1, b, lo, gz, n0, s0, m_So_when, Po) 48 L (.int x :: r) hp')) := xVe _ _ _ _ _ _
theorem s_So_when_48 (C : xCx) (r : List Value) (hp : xHp) (x : Int32) (a0 a1 a3 : Value) : (xV k_So_when C 48 [a0, a1, .int x, a3] r hp) = (xV k_So_when C 49 [a0, a1, .int x, a3] (.int x :: r) hp) := xVe _ _ _ _ _ _
theorem s_So_when_49 (x y : Int32) (C : xCx) (L r : List Value) (hp : xHp) : (xV k_So_when C 49 L (.int y :: .int x :: r) hp) = (((x < y → xV k_So_when C 70 L r hp) ∧ (¬ x < y → xV k_So_when C 52 L r hp))) := xVe _ _ _ _ _ _
theorem s_So_when_52 (C : xCx) (r : List Value) (hp : xHp) (x : Nat) (a1 a2 a3 : Value) : (xV k_So_when C 52 [.ref x, a1, a2, a3] r hp) = (True ∧ xV k_So_when C 53 [.ref x, a1, a2, a3] (.ref x :: r) hp) := xVe _ _ _ _ _ _
theorem s_So_when_53 (a : Nat) (C : xCx) (L r : List Value) (hp : xHp) : (xV k_So_when C 53 L (.ref a :: r) hp) = (xF hp a 0 1 (fun v => xV k_So_when C 56 L (v :: r) hp)) := xVe _ _ _ _ _ _
theorem s_So_when_56 (C : xCx) (r : List Value) (hp : xHp) (x : Nat) (a1 a2 a3 : Value) : (xV k_So_when C 56 [.ref x, a1, a2, a3] r hp) = (True ∧ xV k_So_when C 57 [.ref x, a1, a2, a3] (.ref x :: r) hp) := xVe _ _ _ _ _ _
theorem s_So_when_57 (a : Nat) (C : xCx) (L r : List Value) (hp : xHp) : (xV k_So_when C 57 L (.ref a :: r) hp) = (xF hp a 0 7 (fun v => xV k_So_when C 60 L (v :: r) hp)) := xVe _ _ _ _ _ _
theorem s_So_when_60 (C : xCx) (r : List Value) (hp : xHp) (x : Int32) (a0 a2 a3 : Value) : (xV k_So_when C 60 [a0, .int x, a2, a3] r hp) = (xV k_So_when C 61 [a0, .int x, a2, a3] (.int x :: r) hp) := xVe _ _ _ _ _ _
theorem s_So_when_61 (x0 : Int32) (a : Nat) (l : Launch) (d b lo gz n0 s0 : Nat) (Po : Option Value → xHp → Prop) (L r : List Value) (hp : xHp) : (xV k_So_when (l, d + 1, b, lo, gz, n0, s0, m_So_when, Po) 61 L (.int x0 :: .ref a :: r) hp) = (xO hp a 3 ∧ xcs r 8 ∧ xMi l d b lo gz m_Folk_age [.ref a, .int x0] hp (fun x hp' => xV k_So_when (l, d + 1, b, lo, gz, n0, s0, m_So_when, Po) 64 L (.int x :: r) hp')) := xVe _ _ _ _ _ _
theorem s_So_when_64 (x : Int32) (C : xCx) (L r : List Value) (hp : xHp) : (xV k_So_when C 64 L (.int x :: r) hp) = (xV k_So_when C 65 L (.long x.toInt64 :: r) hp) := xVe _ _ _ _ _ _
theorem s_So_when_65 (x0 : Int64) (a : Nat) (l : Launch) (d b lo gz n0 s0 : Nat) (Po : Option Value → xHp → Prop) (L r : List Value) (hp : xHp) : (xV k_So_when (l, d + 1, b, lo, gz, n0, s0, m_So_when, Po) 65 L (.long x0 :: .ref a :: r) hp) = (xO hp a 7 ∧ xcs r 8 ∧ xMv l d b lo gz m_Row_tell1 [.ref a, .long x0] hp (fun hp' => xV k_So_when (l, d + 1, b, lo, gz, n0, s0, m_So_when, Po) 68 L r hp')) := xVe _ _ _ _ _ _
theorem s_So_when_68 (C : xCx) (r : List Value) (hp : xHp) (x : Int32) (a0 a1 a2 : Value) : (xV k_So_when C 68 [a0, a1, a2, .int x] r hp) = (xV k_So_when C 69 [a0, a1, a2, .int x] (.int x :: r) hp) := xVe _ _ _ _ _ _
theorem s_So_when_69 (v : Int32) (l : Launch) (d b lo gz n0 s0 : Nat) (Po : Option Value → xHp → Prop) (L : List Value) (hp : xHp) : (xV k_So_when (l, d, b, lo, gz, n0, s0, m_So_when, Po) 69 L [.int v] hp) = (Po (some (.int v)) hp) := xVe _ _ _ _ _ _
theorem s_So_when_70 (C : xCx) (r : List Value) (hp : xHp) (x : Nat) (a1 a2 a3 : Value) : (xV k_So_when C 70 [.ref x, a1, a2, a3] r hp) = (True ∧ xV k_So_when C 71 [.ref x, a1, a2, a3] (.ref x :: r) hp) := xVe _ _ _ _ _ _
theorem s_So_when_71 (a : Nat) (C : xCx) (L r : List Value) (hp : xHp) : (xV k_So_when C 71 L (.ref a :: r) hp) = (xF hp a 0 5 (fun v => xV k_So_when C 74 L (v :: r) hp)) := xVe _ _ _ _ _ _
theorem s_So_when_74 (C : xCx) (r : List Value) (hp : xHp) (x : Nat) (a1 a2 a3 : Value) : (xV k_So_when C 74 [.ref x, a1, a2, a3] r hp) = (True ∧ xV k_So_when C 75 [.ref x, a1, a2, a3] (.ref x :: r) hp) := xVe _ _ _ _ _ _
theorem s_So_when_75 (a : Nat) (C : xCx) (L r : List Value) (hp : xHp) : (xV k_So_when C 75 L (.ref a :: r) hp) = (xF hp a 0 7 (fun v => xV k_So_when C 78 L (v :: r) hp)) := xVe _ _ _ _ _ _
theorem s_So_when_78 (C : xCx) (r : List Value) (hp : xHp) (x : Int32) (a0 a2 a3 : Value) : (xV k_So_when C 78 [a0, .int x, a2, a3] r hp) = (xV k_So_when C 79 [a0, .int x, a2, a3] (.int x :: r) hp) := xVe _ _ _ _ _ _
theorem s_So_when_79 (x0 : Nat) (x1 : Int32) (a : Nat) (l : Launch) (d b lo gz n0 s0 : Nat) (Po : Option Value → xHp → Prop) (L r : List Value) (hp : xHp) : (xV k_So_when (l, d + 1, b, lo, gz, n0, s0, m_So_when, Po) 79 L (.int x1 :: .ref x0 :: .ref a :: r) hp) = (xO hp a 9 ∧ xcs r 8 ∧ xMi l d b lo gz m_Sun_dayFor [.ref a, .ref x0, .int x1] hp (fun x hp' => xV k_So_when (l, d + 1, b, lo, gz, n0, s0, m_So_when, Po) 82 L (.int x :: r) hp')) := xVe _ _ _ _ _ _
theorem s_So_when_82 (v : Value) (C : xCx) (L r : List Value) (hp : xHp) : (xV k_So_when C 82 L (v :: r) hp) = (v.category = 1 ∧ xV k_So_when C 83 L (r) hp) := xVe _ _ _ _ _ _
theorem s_So_when_83 (C : xCx) (r : List Value) (hp : xHp) (x : Int32) (a0 a1 a2 : Value) : (xV k_So_when C 83 [a0, a1, a2, .int x] r hp) = (xNl [a0, a1, a2, .int x] 3 ∧ xV k_So_when C 86 [a0, a1, a2, .int (x + (1))] r hp) := xVe _ _ _ _ _ _
theorem s_So_when_86 (C : xCx) (L r : List Value) (hp : xHp) : (xV k_So_when C 86 L r hp) = (xV k_So_when C 34 L r hp) := xVe _ _ _ _ _ _
theorem s_So_when_89  (C : xCx) (L r : List Value) (hp : xHp) : (xV k_So_when C 89 L (r) hp) = (xV k_So_when C 91 L (.int (-2) :: r) hp) := xVe _ _ _ _ _ _
theorem s_So_when_91 (v : Int32) (l : Launch) (d b lo gz n0 s0 : Nat) (Po : Option Value → xHp → Prop) (L : List Value) (hp : xHp) : (xV k_So_when (l, d, b, lo, gz, n0, s0, m_So_when, Po) 91 L [.int v] hp) = (Po (some (.int v)) hp) := xVe _ _ _ _ _ _
theorem ml_So_293 : xLk "SunnyOnes" 293 m_Sun_dayForTwo := Or.inl (wg4 3 (by decide +kernel) rfl)
def k_So_even : List xEC := [
  (0, .aload_n 0, 1, 0, 0, 0, m_x),
  (1, .iload_n 1, 2, 0, 0, 0, m_x),
  (2, .invokevirtual 179, 5, 0, 0, 0, m_So_has),
  (5, .ifCond .eq 16, 8, 0, 21, 0, m_x),
  (8, .aload_n 0, 9, 0, 0, 0, m_x),
  (9, .iload_n 2, 10, 0, 0, 0, m_x),
  (10, .invokevirtual 179, 13, 0, 0, 0, m_So_has),
  (13, .ifCond .eq 8, 16, 0, 21, 0, m_x),
  (16, .iload_n 1, 17, 0, 0, 0, m_x),
  (17, .iload_n 2, 18, 0, 0, 0, m_x),
  (18, .if_icmp .ne 5, 21, 0, 23, 0, m_x),
  (21, .iconst (-1), 22, 0, 0, 0, m_x),
  (22, .ireturn, 23, 0, 0, 0, m_x),
  (23, .aload_n 0, 24, 0, 0, 0, m_x),
  (24, .getfield 58, 27, 0, 7, 0, m_x),
  (27, .aload_n 0, 28, 0, 0, 0, m_x),
  (28, .getfield 54, 31, 0, 6, 0, m_x),
  (31, .invokevirtual 215, 34, 3, 0, 0, m_Folk_copyFrom),
  (34, .bipush (-2), 36, 0, 0, 0, m_x),
  (36, .istore_n 3, 37, 0, 0, 0, m_x),
  (37, .iconst 0, 38, 0, 0, 0, m_x),
  (38, .istore 4, 40, 0, 0, 0, m_x),
  (40, .iconst 0, 41, 0, 0, 0, m_x),
  (41, .istore 5, 43, 0, 0, 0, m_x),
  (43, .iconst 0, 44, 0, 0, 0, m_x),
  (44, .istore 6, 46, 0, 0, 0, m_x),
  (46, .iload 6, 48, 0, 0, 0, m_x),
  (48, .bipush 99, 50, 0, 0, 0, m_x),
  (50, .if_icmp .gt 62, 53, 0, 112, 0, m_x),
  (53, .aload_n 0, 54, 0, 0, 0, m_x),
  (54, .getfield 58, 57, 0, 7, 0, m_x),
  (57, .iload_n 1, 58, 0, 0, 0, m_x),
  (58, .invokevirtual 185, 61, 3, 0, 0, m_Folk_age),
  (61, .aload_n 0, 62, 0, 0, 0, m_x),
  (62, .getfield 58, 65, 0, 7, 0, m_x),
  (65, .iload_n 2, 66, 0, 0, 0, m_x),
  (66, .invokevirtual 185, 69, 3, 0, 0, m_Folk_age),
  (69, .if_icmp .ne 24, 72, 0, 93, 0, m_x),
  (72, .iload 5, 74, 0, 0, 0, m_x),
  (74, .ifCond .ne 16, 77, 0, 90, 0, m_x),
  (77, .iload 6, 79, 0, 0, 0, m_x),
  (79, .istore_n 3, 80, 0, 0, 0, m_x),
  (80, .aload_n 0, 81, 0, 0, 0, m_x),
  (81, .getfield 58, 84, 0, 7, 0, m_x),
  (84, .iload_n 1, 85, 0, 0, 0, m_x),
  (85, .invokevirtual 185, 88, 3, 0, 0, m_Folk_age),
  (88, .istore 4, 90, 0, 0, 0, m_x),
  (90, .iinc 5 1, 93, 0, 0, 0, m_x),
  (93, .aload_n 0, 94, 0, 0, 0, m_x),
  (94, .getfield 47, 97, 0, 5, 0, m_x),
  (97, .aload_n 0, 98, 0, 0, 0, m_x),
  (98, .getfield 58, 101, 0, 7, 0, m_x),
  (101, .iload_n 1, 102, 0, 0, 0, m_x),
  (102, .iload_n 2, 103, 0, 0, 0, m_x),
  (103, .invokevirtual 293, 106, 9, 0, 0, m_Sun_dayForTwo),
  (106, .iinc 6 1, 109, 0, 0, 0, m_x),
  (109, .goto (-63), 112, 0, 46, 0, m_x),
  (112, .iload 5, 114, 0, 0, 0, m_x),
  (114, .ifCond .le 16, 117, 0, 130, 0, m_x),
  (117, .aload_n 0, 118, 0, 0, 0, m_x),
  (118, .getfield 19, 121, 0, 1, 0, m_x),
  (121, .iload 4, 123, 0, 0, 0, m_x),
  (123, .i2l, 124, 0, 0, 0, m_x),
  (124, .iload 5, 126, 0, 0, 0, m_x),
  (126, .i2l, 127, 0, 0, 0, m_x),
  (127, .invokevirtual 225, 130, 7, 0, 0, m_Row_tell2),
  (130, .iload_n 3, 131, 0, 0, 0, m_x),
  (131, .ireturn, 132, 0, 0, 0, m_x)]
theorem dc_So_even : ∀ E ∈ k_So_even, xDc m_So_even E := by decide +kernel
set_option maxRecDepth 20000 in
theorem ok_So_even : ∀ E ∈ k_So_even, xOk m_So_even E := xok_of dc_So_even (xfc trivial (xfc trivial (xfc ⟨ml_So_179, kd_So_has⟩ (xfc (show ((5 : Nat) : Int) + (16) = ((21 : Nat) : Int) from by decide) (xfc trivial (xfc trivial (xfc ⟨ml_So_179, kd_So_has⟩ (xfc (show ((13 : Nat) : Int) + (8) = ((21 : Nat) : Int) from by decide) (xfc trivial (xfc trivial (xfc (show ((18 : Nat) : Int) + (5) = ((23 : Nat) : Int) from by decide) (xfc trivial (xfc trivial (xfc trivial (xfc fl_So_58 (xfc trivial (xfc fl_So_54 (xfc ⟨ml_So_215, kd_Folk_copyFrom⟩ (xfc trivial (xfc trivial (xfc trivial (xfc trivial (xfc trivial (xfc trivial (xfc trivial (xfc trivial (xfc trivial (xfc trivial (xfc (show ((50 : Nat) : Int) + (62) = ((112 : Nat) : Int) from by decide) (xfc trivial (xfc fl_So_58 (xfc trivial (xfc ⟨ml_So_185, kd_Folk_age⟩ (xfc trivial (xfc fl_So_58 (xfc trivial (xfc ⟨ml_So_185, kd_Folk_age⟩ (xfc (show ((69 : Nat) : Int) + (24) = ((93 : Nat) : Int) from by decide) (xfc trivial (xfc (show ((74 : Nat) : Int) + (16) = ((90 : Nat) : Int) from by decide) (xfc trivial (xfc trivial (xfc trivial (xfc fl_So_58 (xfc trivial (xfc ⟨ml_So_185, kd_Folk_age⟩ (xfc trivial (xfc trivial (xfc trivial (xfc fl_So_47 (xfc trivial (xfc fl_So_58 (xfc trivial (xfc trivial (xfc ⟨ml_So_293, kd_Sun_dayForTwo⟩ (xfc trivial (xfc (show ((109 : Nat) : Int) + (-63) = ((46 : Nat) : Int) from by decide) (xfc trivial (xfc (show ((114 : Nat) : Int) + (16) = ((130 : Nat) : Int) from by decide) (xfc trivial (xfc fl_So_19 (xfc trivial (xfc trivial (xfc trivial (xfc trivial (xfc ⟨ml_So_225, kd_Row_tell2⟩ (xfc trivial (xfc trivial (xfn)))))))))))))))))))))))))))))))))))))))))))))))))))))))))))))))))))))
theorem s_So_even_0 (C : xCx) (r : List Value) (hp : xHp) (x : Nat) (a1 a2 a3 a4 a5 a6 : Value) : (xV k_So_even C 0 [.ref x, a1, a2, a3, a4, a5, a6] r hp) = (True ∧ xV k_So_even C 1 [.ref x, a1, a2, a3, a4, a5, a6] (.ref x :: r) hp) := xVe _ _ _ _ _ _
theorem s_So_even_1 (C : xCx) (r : List Value) (hp : xHp) (x : Int32) (a0 a2 a3 a4 a5 a6 : Value) : (xV k_So_even C 1 [a0, .int x, a2, a3, a4, a5, a6] r hp) = (xV k_So_even C 2 [a0, .int x, a2, a3, a4, a5, a6] (.int x :: r) hp) := xVe _ _ _ _ _ _
theorem s_So_even_2 (x0 : Int32) (a : Nat) (l : Launch) (d b lo gz n0 s0 : Nat) (Po : Option Value → xHp → Prop) (L r : List Value) (hp : xHp) : (xV k_So_even (l, d + 1, b, lo, gz, n0, s0, m_So_even, Po) 2 L (.int x0 :: .ref a :: r) hp) = (xO hp a 0 ∧ xcs r 8 ∧ xMi l d b lo gz m_So_has [.ref a, .int x0] hp (fun x hp' => xV k_So_even (l, d + 1, b, lo, gz, n0, s0, m_So_even, Po) 5 L (.int x :: r) hp')) := xVe _ _ _ _ _ _
theorem s_So_even_5 (x : Int32) (C : xCx) (L r : List Value) (hp : xHp) : (xV k_So_even C 5 L (.int x :: r) hp) = (((x = 0 → xV k_So_even C 21 L r hp) ∧ (¬ x = 0 → xV k_So_even C 8 L r hp))) := xVe _ _ _ _ _ _
theorem s_So_even_8 (C : xCx) (r : List Value) (hp : xHp) (x : Nat) (a1 a2 a3 a4 a5 a6 : Value) : (xV k_So_even C 8 [.ref x, a1, a2, a3, a4, a5, a6] r hp) = (True ∧ xV k_So_even C 9 [.ref x, a1, a2, a3, a4, a5, a6] (.ref x :: r) hp) := xVe _ _ _ _ _ _
theorem s_So_even_9 (C : xCx) (r : List Value) (hp : xHp) (x : Int32) (a0 a1 a3 a4 a5 a6 : Value) : (xV k_So_even C 9 [a0, a1, .int x, a3, a4, a5, a6] r hp) = (xV k_So_even C 10 [a0, a1, .int x, a3, a4, a5, a6] (.int x :: r) hp) := xVe _ _ _ _ _ _
theorem s_So_even_10 (x0 : Int32) (a : Nat) (l : Launch) (d b lo gz n0 s0 : Nat) (Po : Option Value → xHp → Prop) (L r : List Value) (hp : xHp) : (xV k_So_even (l, d + 1, b, lo, gz, n0, s0, m_So_even, Po) 10 L (.int x0 :: .ref a :: r) hp) = (xO hp a 0 ∧ xcs r 8 ∧ xMi l d b lo gz m_So_has [.ref a, .int x0] hp (fun x hp' => xV k_So_even (l, d + 1, b, lo, gz, n0, s0, m_So_even, Po) 13 L (.int x :: r) hp')) := xVe _ _ _ _ _ _
theorem s_So_even_13 (x : Int32) (C : xCx) (L r : List Value) (hp : xHp) : (xV k_So_even C 13 L (.int x :: r) hp) = (((x = 0 → xV k_So_even C 21 L r hp) ∧ (¬ x = 0 → xV k_So_even C 16 L r hp))) := xVe _ _ _ _ _ _
theorem s_So_even_16 (C : xCx) (r : List Value) (hp : xHp) (x : Int32) (a0 a2 a3 a4 a5 a6 : Value) : (xV k_So_even C 16 [a0, .int x, a2, a3, a4, a5, a6] r hp) = (xV k_So_even C 17 [a0, .int x, a2, a3, a4, a5, a6] (.int x :: r) hp) := xVe _ _ _ _ _ _
theorem s_So_even_17 (C : xCx) (r : List Value) (hp : xHp) (x : Int32) (a0 a1 a3 a4 a5 a6 : Value) : (xV k_So_even C 17 [a0, a1, .int x, a3, a4, a5, a6] r hp) = (xV k_So_even C 18 [a0, a1, .int x, a3, a4, a5, a6] (.int x :: r) hp) := xVe _ _ _ _ _ _
theorem s_So_even_18 (x y : Int32) (C : xCx) (L r : List Value) (hp : xHp) : (xV k_So_even C 18 L (.int y :: .int x :: r) hp) = (((¬ x = y → xV k_So_even C 23 L r hp) ∧ (x = y → xV k_So_even C 21 L r hp))) := xVe _ _ _ _ _ _
theorem s_So_even_21  (C : xCx) (L r : List Value) (hp : xHp) : (xV k_So_even C 21 L (r) hp) = (xV k_So_even C 22 L (.int (-1) :: r) hp) := xVe _ _ _ _ _ _
theorem s_So_even_22 (v : Int32) (l : Launch) (d b lo gz n0 s0 : Nat) (Po : Option Value → xHp → Prop) (L : List Value) (hp : xHp) : (xV k_So_even (l, d, b, lo, gz, n0, s0, m_So_even, Po) 22 L [.int v] hp) = (Po (some (.int v)) hp) := xVe _ _ _ _ _ _
theorem s_So_even_23 (C : xCx) (r : List Value) (hp : xHp) (x : Nat) (a1 a2 a3 a4 a5 a6 : Value) : (xV k_So_even C 23 [.ref x, a1, a2, a3, a4, a5, a6] r hp) = (True ∧ xV k_So_even C 24 [.ref x, a1, a2, a3, a4, a5, a6] (.ref x :: r) hp) := xVe _ _ _ _ _ _
theorem s_So_even_24 (a : Nat) (C : xCx) (L r : List Value) (hp : xHp) : (xV k_So_even C 24 L (.ref a :: r) hp) = (xF hp a 0 7 (fun v => xV k_So_even C 27 L (v :: r) hp)) := xVe _ _ _ _ _ _
theorem s_So_even_27 (C : xCx) (r : List Value) (hp : xHp) (x : Nat) (a1 a2 a3 a4 a5 a6 : Value) : (xV k_So_even C 27 [.ref x, a1, a2, a3, a4, a5, a6] r hp) = (True ∧ xV k_So_even C 28 [.ref x, a1, a2, a3, a4, a5, a6] (.ref x :: r) hp) := xVe _ _ _ _ _ _
theorem s_So_even_28 (a : Nat) (C : xCx) (L r : List Value) (hp : xHp) : (xV k_So_even C 28 L (.ref a :: r) hp) = (xF hp a 0 6 (fun v => xV k_So_even C 31 L (v :: r) hp)) := xVe _ _ _ _ _ _
theorem s_So_even_31 (x0 : Nat) (a : Nat) (l : Launch) (d b lo gz n0 s0 : Nat) (Po : Option Value → xHp → Prop) (L r : List Value) (hp : xHp) : (xV k_So_even (l, d + 1, b, lo, gz, n0, s0, m_So_even, Po) 31 L (.ref x0 :: .ref a :: r) hp) = (xO hp a 3 ∧ xcs r 8 ∧ xMv l d b lo gz m_Folk_copyFrom [.ref a, .ref x0] hp (fun hp' => xV k_So_even (l, d + 1, b, lo, gz, n0, s0, m_So_even, Po) 34 L r hp')) := xVe _ _ _ _ _ _
theorem s_So_even_34  (C : xCx) (L r : List Value) (hp : xHp) : (xV k_So_even C 34 L (r) hp) = (xV k_So_even C 36 L (.int (-2) :: r) hp) := xVe _ _ _ _ _ _
theorem s_So_even_36 (C : xCx) (r : List Value) (hp : xHp) (x : Int32) (a0 a1 a2 a3 a4 a5 a6 : Value) : (xV k_So_even C 36 [a0, a1, a2, a3, a4, a5, a6] (.int x :: r) hp) = (3 < 7 ∧ xNl [a0, a1, a2, a3, a4, a5, a6] 3 ∧ xV k_So_even C 37 [a0, a1, a2, .int x, a4, a5, a6] r hp) := xVe _ _ _ _ _ _
theorem s_So_even_37  (C : xCx) (L r : List Value) (hp : xHp) : (xV k_So_even C 37 L (r) hp) = (xV k_So_even C 38 L (.int (0) :: r) hp) := xVe _ _ _ _ _ _
theorem s_So_even_38 (C : xCx) (r : List Value) (hp : xHp) (x : Int32) (a0 a1 a2 a3 a4 a5 a6 : Value) : (xV k_So_even C 38 [a0, a1, a2, a3, a4, a5, a6] (.int x :: r) hp) = (4 < 7 ∧ xNl [a0, a1, a2, a3, a4, a5, a6] 4 ∧ xV k_So_even C 40 [a0, a1, a2, a3, .int x, a5, a6] r hp) := xVe _ _ _ _ _ _
theorem s_So_even_40  (C : xCx) (L r : List Value) (hp : xHp) : (xV k_So_even C 40 L (r) hp) = (xV k_So_even C 41 L (.int (0) :: r) hp) := xVe _ _ _ _ _ _
theorem s_So_even_41 (C : xCx) (r : List Value) (hp : xHp) (x : Int32) (a0 a1 a2 a3 a4 a5 a6 : Value) : (xV k_So_even C 41 [a0, a1, a2, a3, a4, a5, a6] (.int x :: r) hp) = (5 < 7 ∧ xNl [a0, a1, a2, a3, a4, a5, a6] 5 ∧ xV k_So_even C 43 [a0, a1, a2, a3, a4, .int x, a6] r hp) := xVe _ _ _ _ _ _
theorem s_So_even_43  (C : xCx) (L r : List Value) (hp : xHp) : (xV k_So_even C 43 L (r) hp) = (xV k_So_even C 44 L (.int (0) :: r) hp) := xVe _ _ _ _ _ _
theorem s_So_even_44 (C : xCx) (r : List Value) (hp : xHp) (x : Int32) (a0 a1 a2 a3 a4 a5 a6 : Value) : (xV k_So_even C 44 [a0, a1, a2, a3, a4, a5, a6] (.int x :: r) hp) = (6 < 7 ∧ xNl [a0, a1, a2, a3, a4, a5, a6] 6 ∧ xV k_So_even C 46 [a0, a1, a2, a3, a4, a5, .int x] r hp) := xVe _ _ _ _ _ _
theorem s_So_even_46 (C : xCx) (r : List Value) (hp : xHp) (x : Int32) (a0 a1 a2 a3 a4 a5 : Value) : (xV k_So_even C 46 [a0, a1, a2, a3, a4, a5, .int x] r hp) = (xV k_So_even C 48 [a0, a1, a2, a3, a4, a5, .int x] (.int x :: r) hp) := xVe _ _ _ _ _ _
theorem s_So_even_48  (C : xCx) (L r : List Value) (hp : xHp) : (xV k_So_even C 48 L (r) hp) = (xV k_So_even C 50 L (.int (99) :: r) hp) := xVe _ _ _ _ _ _
theorem s_So_even_50 (x y : Int32) (C : xCx) (L r : List Value) (hp : xHp) : (xV k_So_even C 50 L (.int y :: .int x :: r) hp) = (((y < x → xV k_So_even C 112 L r hp) ∧ (¬ y < x → xV k_So_even C 53 L r hp))) := xVe _ _ _ _ _ _
theorem s_So_even_53 (C : xCx) (r : List Value) (hp : xHp) (x : Nat) (a1 a2 a3 a4 a5 a6 : Value) : (xV k_So_even C 53 [.ref x, a1, a2, a3, a4, a5, a6] r hp) = (True ∧ xV k_So_even C 54 [.ref x, a1, a2, a3, a4, a5, a6] (.ref x :: r) hp) := xVe _ _ _ _ _ _
theorem s_So_even_54 (a : Nat) (C : xCx) (L r : List Value) (hp : xHp) : (xV k_So_even C 54 L (.ref a :: r) hp) = (xF hp a 0 7 (fun v => xV k_So_even C 57 L (v :: r) hp)) := xVe _ _ _ _ _ _
theorem s_So_even_57 (C : xCx) (r : List Value) (hp : xHp) (x : Int32) (a0 a2 a3 a4 a5 a6 : Value) : (xV k_So_even C 57 [a0, .int x, a2, a3, a4, a5, a6] r hp) = (xV k_So_even C 58 [a0, .int x, a2, a3, a4, a5, a6] (.int x :: r) hp) := xVe _ _ _ _ _ _
theorem s_So_even_58 (x0 : Int32) (a : Nat) (l : Launch) (d b lo gz n0 s0 : Nat) (Po : Option Value → xHp → Prop) (L r : List Value) (hp : xHp) : (xV k_So_even (l, d + 1, b, lo, gz, n0, s0, m_So_even, Po) 58 L (.int x0 :: .ref a :: r) hp) = (xO hp a 3 ∧ xcs r 8 ∧ xMi l d b lo gz m_Folk_age [.ref a, .int x0] hp (fun x hp' => xV k_So_even (l, d + 1, b, lo, gz, n0, s0, m_So_even, Po) 61 L (.int x :: r) hp')) := xVe _ _ _ _ _ _
theorem s_So_even_61 (C : xCx) (r : List Value) (hp : xHp) (x : Nat) (a1 a2 a3 a4 a5 a6 : Value) : (xV k_So_even C 61 [.ref x, a1, a2, a3, a4, a5, a6] r hp) = (True ∧ xV k_So_even C 62 [.ref x, a1, a2, a3, a4, a5, a6] (.ref x :: r) hp) := xVe _ _ _ _ _ _
theorem s_So_even_62 (a : Nat) (C : xCx) (L r : List Value) (hp : xHp) : (xV k_So_even C 62 L (.ref a :: r) hp) = (xF hp a 0 7 (fun v => xV k_So_even C 65 L (v :: r) hp)) := xVe _ _ _ _ _ _
theorem s_So_even_65 (C : xCx) (r : List Value) (hp : xHp) (x : Int32) (a0 a1 a3 a4 a5 a6 : Value) : (xV k_So_even C 65 [a0, a1, .int x, a3, a4, a5, a6] r hp) = (xV k_So_even C 66 [a0, a1, .int x, a3, a4, a5, a6] (.int x :: r) hp) := xVe _ _ _ _ _ _
theorem s_So_even_66 (x0 : Int32) (a : Nat) (l : Launch) (d b lo gz n0 s0 : Nat) (Po : Option Value → xHp → Prop) (L r : List Value) (hp : xHp) : (xV k_So_even (l, d + 1, b, lo, gz, n0, s0, m_So_even, Po) 66 L (.int x0 :: .ref a :: r) hp) = (xO hp a 3 ∧ xcs r 8 ∧ xMi l d b lo gz m_Folk_age [.ref a, .int x0] hp (fun x hp' => xV k_So_even (l, d + 1, b, lo, gz, n0, s0, m_So_even, Po) 69 L (.int x :: r) hp')) := xVe _ _ _ _ _ _
theorem s_So_even_69 (x y : Int32) (C : xCx) (L r : List Value) (hp : xHp) : (xV k_So_even C 69 L (.int y :: .int x :: r) hp) = (((¬ x = y → xV k_So_even C 93 L r hp) ∧ (x = y → xV k_So_even C 72 L r hp))) := xVe _ _ _ _ _ _
theorem s_So_even_72 (C : xCx) (r : List Value) (hp : xHp) (x : Int32) (a0 a1 a2 a3 a4 a6 : Value) : (xV k_So_even C 72 [a0, a1, a2, a3, a4, .int x, a6] r hp) = (xV k_So_even C 74 [a0, a1, a2, a3, a4, .int x, a6] (.int x :: r) hp) := xVe _ _ _ _ _ _
theorem s_So_even_74 (x : Int32) (C : xCx) (L r : List Value) (hp : xHp) : (xV k_So_even C 74 L (.int x :: r) hp) = (((¬ x = 0 → xV k_So_even C 90 L r hp) ∧ (x = 0 → xV k_So_even C 77 L r hp))) := xVe _ _ _ _ _ _
theorem s_So_even_77 (C : xCx) (r : List Value) (hp : xHp) (x : Int32) (a0 a1 a2 a3 a4 a5 : Value) : (xV k_So_even C 77 [a0, a1, a2, a3, a4, a5, .int x] r hp) = (xV k_So_even C 79 [a0, a1, a2, a3, a4, a5, .int x] (.int x :: r) hp) := xVe _ _ _ _ _ _
theorem s_So_even_79 (C : xCx) (r : List Value) (hp : xHp) (x : Int32) (a0 a1 a2 a3 a4 a5 a6 : Value) : (xV k_So_even C 79 [a0, a1, a2, a3, a4, a5, a6] (.int x :: r) hp) = (3 < 7 ∧ xNl [a0, a1, a2, a3, a4, a5, a6] 3 ∧ xV k_So_even C 80 [a0, a1, a2, .int x, a4, a5, a6] r hp) := xVe _ _ _ _ _ _
theorem s_So_even_80 (C : xCx) (r : List Value) (hp : xHp) (x : Nat) (a1 a2 a3 a4 a5 a6 : Value) : (xV k_So_even C 80 [.ref x, a1, a2, a3, a4, a5, a6] r hp) = (True ∧ xV k_So_even C 81 [.ref x, a1, a2, a3, a4, a5, a6] (.ref x :: r) hp) := xVe _ _ _ _ _ _
theorem s_So_even_81 (a : Nat) (C : xCx) (L r : List Value) (hp : xHp) : (xV k_So_even C 81 L (.ref a :: r) hp) = (xF hp a 0 7 (fun v => xV k_So_even C 84 L (v :: r) hp)) := xVe _ _ _ _ _ _
theorem s_So_even_84 (C : xCx) (r : List Value) (hp : xHp) (x : Int32) (a0 a2 a3 a4 a5 a6 : Value) : (xV k_So_even C 84 [a0, .int x, a2, a3, a4, a5, a6] r hp) = (xV k_So_even C 85 [a0, .int x, a2, a3, a4, a5, a6] (.int x :: r) hp) := xVe _ _ _ _ _ _
theorem s_So_even_85 (x0 : Int32) (a : Nat) (l : Launch) (d b lo gz n0 s0 : Nat) (Po : Option Value → xHp → Prop) (L r : List Value) (hp : xHp) : (xV k_So_even (l, d + 1, b, lo, gz, n0, s0, m_So_even, Po) 85 L (.int x0 :: .ref a :: r) hp) = (xO hp a 3 ∧ xcs r 8 ∧ xMi l d b lo gz m_Folk_age [.ref a, .int x0] hp (fun x hp' => xV k_So_even (l, d + 1, b, lo, gz, n0, s0, m_So_even, Po) 88 L (.int x :: r) hp')) := xVe _ _ _ _ _ _
theorem s_So_even_88 (C : xCx) (r : List Value) (hp : xHp) (x : Int32) (a0 a1 a2 a3 a4 a5 a6 : Value) : (xV k_So_even C 88 [a0, a1, a2, a3, a4, a5, a6] (.int x :: r) hp) = (4 < 7 ∧ xNl [a0, a1, a2, a3, a4, a5, a6] 4 ∧ xV k_So_even C 90 [a0, a1, a2, a3, .int x, a5, a6] r hp) := xVe _ _ _ _ _ _
theorem s_So_even_90 (C : xCx) (r : List Value) (hp : xHp) (x : Int32) (a0 a1 a2 a3 a4 a6 : Value) : (xV k_So_even C 90 [a0, a1, a2, a3, a4, .int x, a6] r hp) = (xNl [a0, a1, a2, a3, a4, .int x, a6] 5 ∧ xV k_So_even C 93 [a0, a1, a2, a3, a4, .int (x + (1)), a6] r hp) := xVe _ _ _ _ _ _
theorem s_So_even_93 (C : xCx) (r : List Value) (hp : xHp) (x : Nat) (a1 a2 a3 a4 a5 a6 : Value) : (xV k_So_even C 93 [.ref x, a1, a2, a3, a4, a5, a6] r hp) = (True ∧ xV k_So_even C 94 [.ref x, a1, a2, a3, a4, a5, a6] (.ref x :: r) hp) := xVe _ _ _ _ _ _
theorem s_So_even_94 (a : Nat) (C : xCx) (L r : List Value) (hp : xHp) : (xV k_So_even C 94 L (.ref a :: r) hp) = (xF hp a 0 5 (fun v => xV k_So_even C 97 L (v :: r) hp)) := xVe _ _ _ _ _ _
theorem s_So_even_97 (C : xCx) (r : List Value) (hp : xHp) (x : Nat) (a1 a2 a3 a4 a5 a6 : Value) : (xV k_So_even C 97 [.ref x, a1, a2, a3, a4, a5, a6] r hp) = (True ∧ xV k_So_even C 98 [.ref x, a1, a2, a3, a4, a5, a6] (.ref x :: r) hp) := xVe _ _ _ _ _ _
theorem s_So_even_98 (a : Nat) (C : xCx) (L r : List Value) (hp : xHp) : (xV k_So_even C 98 L (.ref a :: r) hp) = (xF hp a 0 7 (fun v => xV k_So_even C 101 L (v :: r) hp)) := xVe _ _ _ _ _ _
theorem s_So_even_101 (C : xCx) (r : List Value) (hp : xHp) (x : Int32) (a0 a2 a3 a4 a5 a6 : Value) : (xV k_So_even C 101 [a0, .int x, a2, a3, a4, a5, a6] r hp) = (xV k_So_even C 102 [a0, .int x, a2, a3, a4, a5, a6] (.int x :: r) hp) := xVe _ _ _ _ _ _
theorem s_So_even_102 (C : xCx) (r : List Value) (hp : xHp) (x : Int32) (a0 a1 a3 a4 a5 a6 : Value) : (xV k_So_even C 102 [a0, a1, .int x, a3, a4, a5, a6] r hp) = (xV k_So_even C 103 [a0, a1, .int x, a3, a4, a5, a6] (.int x :: r) hp) := xVe _ _ _ _ _ _
theorem s_So_even_103 (x0 : Nat) (x1 : Int32) (x2 : Int32) (a : Nat) (l : Launch) (d b lo gz n0 s0 : Nat) (Po : Option Value → xHp → Prop) (L r : List Value) (hp : xHp) : (xV k_So_even (l, d + 1, b, lo, gz, n0, s0, m_So_even, Po) 103 L (.int x2 :: .int x1 :: .ref x0 :: .ref a :: r) hp) = (xO hp a 9 ∧ xcs r 8 ∧ xMv l d b lo gz m_Sun_dayForTwo [.ref a, .ref x0, .int x1, .int x2] hp (fun hp' => xV k_So_even (l, d + 1, b, lo, gz, n0, s0, m_So_even, Po) 106 L r hp')) := xVe _ _ _ _ _ _
theorem s_So_even_106 (C : xCx) (r : List Value) (hp : xHp) (x : Int32) (a0 a1 a2 a3 a4 a5 : Value) : (xV k_So_even C 106 [a0, a1, a2, a3, a4, a5, .int x] r hp) = (xNl [a0, a1, a2, a3, a4, a5, .int x] 6 ∧ xV k_So_even C 109 [a0, a1, a2, a3, a4, a5, .int (x + (1))] r hp) := xVe _ _ _ _ _ _
theorem s_So_even_109 (C : xCx) (L r : List Value) (hp : xHp) : (xV k_So_even C 109 L r hp) = (xV k_So_even C 46 L r hp) := xVe _ _ _ _ _ _
theorem s_So_even_112 (C : xCx) (r : List Value) (hp : xHp) (x : Int32) (a0 a1 a2 a3 a4 a6 : Value) : (xV k_So_even C 112 [a0, a1, a2, a3, a4, .int x, a6] r hp) = (xV k_So_even C 114 [a0, a1, a2, a3, a4, .int x, a6] (.int x :: r) hp) := xVe _ _ _ _ _ _
theorem s_So_even_114 (x : Int32) (C : xCx) (L r : List Value) (hp : xHp) : (xV k_So_even C 114 L (.int x :: r) hp) = (((x ≤ 0 → xV k_So_even C 130 L r hp) ∧ (¬ x ≤ 0 → xV k_So_even C 117 L r hp))) := xVe _ _ _ _ _ _
theorem s_So_even_117 (C : xCx) (r : List Value) (hp : xHp) (x : Nat) (a1 a2 a3 a4 a5 a6 : Value) : (xV k_So_even C 117 [.ref x, a1, a2, a3, a4, a5, a6] r hp) = (True ∧ xV k_So_even C 118 [.ref x, a1, a2, a3, a4, a5, a6] (.ref x :: r) hp) := xVe _ _ _ _ _ _
theorem s_So_even_118 (a : Nat) (C : xCx) (L r : List Value) (hp : xHp) : (xV k_So_even C 118 L (.ref a :: r) hp) = (xF hp a 0 1 (fun v => xV k_So_even C 121 L (v :: r) hp)) := xVe _ _ _ _ _ _
theorem s_So_even_121 (C : xCx) (r : List Value) (hp : xHp) (x : Int32) (a0 a1 a2 a3 a5 a6 : Value) : (xV k_So_even C 121 [a0, a1, a2, a3, .int x, a5, a6] r hp) = (xV k_So_even C 123 [a0, a1, a2, a3, .int x, a5, a6] (.int x :: r) hp) := xVe _ _ _ _ _ _
theorem s_So_even_123 (x : Int32) (C : xCx) (L r : List Value) (hp : xHp) : (xV k_So_even C 123 L (.int x :: r) hp) = (xV k_So_even C 124 L (.long x.toInt64 :: r) hp) := xVe _ _ _ _ _ _
theorem s_So_even_124 (C : xCx) (r : List Value) (hp : xHp) (x : Int32) (a0 a1 a2 a3 a4 a6 : Value) : (xV k_So_even C 124 [a0, a1, a2, a3, a4, .int x, a6] r hp) = (xV k_So_even C 126 [a0, a1, a2, a3, a4, .int x, a6] (.int x :: r) hp) := xVe _ _ _ _ _ _
theorem s_So_even_126 (x : Int32) (C : xCx) (L r : List Value) (hp : xHp) : (xV k_So_even C 126 L (.int x :: r) hp) = (xV k_So_even C 127 L (.long x.toInt64 :: r) hp) := xVe _ _ _ _ _ _
theorem s_So_even_127 (x0 : Int64) (x1 : Int64) (a : Nat) (l : Launch) (d b lo gz n0 s0 : Nat) (Po : Option Value → xHp → Prop) (L r : List Value) (hp : xHp) : (xV k_So_even (l, d + 1, b, lo, gz, n0, s0, m_So_even, Po) 127 L (.long x1 :: .long x0 :: .ref a :: r) hp) = (xO hp a 7 ∧ xcs r 8 ∧ xMv l d b lo gz m_Row_tell2 [.ref a, .long x0, .long x1] hp (fun hp' => xV k_So_even (l, d + 1, b, lo, gz, n0, s0, m_So_even, Po) 130 L r hp')) := xVe _ _ _ _ _ _
theorem s_So_even_130 (C : xCx) (r : List Value) (hp : xHp) (x : Int32) (a0 a1 a2 a4 a5 a6 : Value) : (xV k_So_even C 130 [a0, a1, a2, .int x, a4, a5, a6] r hp) = (xV k_So_even C 131 [a0, a1, a2, .int x, a4, a5, a6] (.int x :: r) hp) := xVe _ _ _ _ _ _
theorem s_So_even_131 (v : Int32) (l : Launch) (d b lo gz n0 s0 : Nat) (Po : Option Value → xHp → Prop) (L : List Value) (hp : xHp) : (xV k_So_even (l, d, b, lo, gz, n0, s0, m_So_even, Po) 131 L [.int v] hp) = (Po (some (.int v)) hp) := xVe _ _ _ _ _ _
theorem ml_So_297 : xLk "SunnyOnes" 297 m_Folk_eldest := Or.inl (wg4 11 (by decide +kernel) rfl)
def k_So_passes : List xEC := [
  (0, .aload_n 0, 1, 0, 0, 0, m_x),
  (1, .getfield 54, 4, 0, 6, 0, m_x),
  (4, .invokevirtual 297, 7, 3, 0, 0, m_Folk_eldest),
  (7, .istore_n 1, 8, 0, 0, 0, m_x),
  (8, .iload_n 1, 9, 0, 0, 0, m_x),
  (9, .iconst (-1), 10, 0, 0, 0, m_x),
  (10, .if_icmp .ne 6, 13, 0, 16, 0, m_x),
  (13, .bipush (-2), 15, 0, 0, 0, m_x),
  (15, .ireturn, 16, 0, 0, 0, m_x),
  (16, .aload_n 0, 17, 0, 0, 0, m_x),
  (17, .getfield 58, 20, 0, 7, 0, m_x),
  (20, .aload_n 0, 21, 0, 0, 0, m_x),
  (21, .getfield 54, 24, 0, 6, 0, m_x),
  (24, .invokevirtual 215, 27, 3, 0, 0, m_Folk_copyFrom),
  (27, .iconst 1, 28, 0, 0, 0, m_x),
  (28, .istore_n 2, 29, 0, 0, 0, m_x),
  (29, .iload_n 2, 30, 0, 0, 0, m_x),
  (30, .bipush 99, 32, 0, 0, 0, m_x),
  (32, .if_icmp .gt 55, 35, 0, 87, 0, m_x),
  (35, .aload_n 0, 36, 0, 0, 0, m_x),
  (36, .getfield 47, 39, 0, 5, 0, m_x),
  (39, .aload_n 0, 40, 0, 0, 0, m_x),
  (40, .getfield 35, 43, 0, 3, 0, m_x),
  (43, .aload_n 0, 44, 0, 0, 0, m_x),
  (44, .getfield 58, 47, 0, 7, 0, m_x),
  (47, .invokevirtual 218, 50, 9, 0, 0, m_Sun_dayBy),
  (50, .pop, 51, 0, 0, 0, m_x),
  (51, .aload_n 0, 52, 0, 0, 0, m_x),
  (52, .getfield 58, 55, 0, 7, 0, m_x),
  (55, .invokevirtual 297, 58, 3, 0, 0, m_Folk_eldest),
  (58, .iload_n 1, 59, 0, 0, 0, m_x),
  (59, .if_icmp .eq 22, 62, 0, 81, 0, m_x),
  (62, .aload_n 0, 63, 0, 0, 0, m_x),
  (63, .getfield 19, 66, 0, 1, 0, m_x),
  (66, .aload_n 0, 67, 0, 0, 0, m_x),
  (67, .getfield 58, 70, 0, 7, 0, m_x),
  (70, .invokevirtual 297, 73, 3, 0, 0, m_Folk_eldest),
  (73, .i2l, 74, 0, 0, 0, m_x),
  (74, .iload_n 1, 75, 0, 0, 0, m_x),
  (75, .i2l, 76, 0, 0, 0, m_x),
  (76, .invokevirtual 225, 79, 7, 0, 0, m_Row_tell2),
  (79, .iload_n 2, 80, 0, 0, 0, m_x),
  (80, .ireturn, 81, 0, 0, 0, m_x),
  (81, .iinc 2 1, 84, 0, 0, 0, m_x),
  (84, .goto (-55), 87, 0, 29, 0, m_x),
  (87, .bipush (-2), 89, 0, 0, 0, m_x),
  (89, .ireturn, 90, 0, 0, 0, m_x)]
theorem dc_So_passes : ∀ E ∈ k_So_passes, xDc m_So_passes E := by decide +kernel
set_option maxRecDepth 20000 in
theorem ok_So_passes : ∀ E ∈ k_So_passes, xOk m_So_passes E := xok_of dc_So_passes (xfc trivial (xfc fl_So_54 (xfc ⟨ml_So_297, kd_Folk_eldest⟩ (xfc trivial (xfc trivial (xfc trivial (xfc (show ((10 : Nat) : Int) + (6) = ((16 : Nat) : Int) from by decide) (xfc trivial (xfc trivial (xfc trivial (xfc fl_So_58 (xfc trivial (xfc fl_So_54 (xfc ⟨ml_So_215, kd_Folk_copyFrom⟩ (xfc trivial (xfc trivial (xfc trivial (xfc trivial (xfc (show ((32 : Nat) : Int) + (55) = ((87 : Nat) : Int) from by decide) (xfc trivial (xfc fl_So_47 (xfc trivial (xfc fl_So_35 (xfc trivial (xfc fl_So_58 (xfc ⟨ml_So_218, kd_Sun_dayBy⟩ (xfc trivial (xfc trivial (xfc fl_So_58 (xfc ⟨ml_So_297, kd_Folk_eldest⟩ (xfc trivial (xfc (show ((59 : Nat) : Int) + (22) = ((81 : Nat) : Int) from by decide) (xfc trivial (xfc fl_So_19 (xfc trivial (xfc fl_So_58 (xfc ⟨ml_So_297, kd_Folk_eldest⟩ (xfc trivial (xfc trivial (xfc trivial (xfc ⟨ml_So_225, kd_Row_tell2⟩ (xfc trivial (xfc trivial (xfc trivial (xfc (show ((84 : Nat) : Int) + (-55) = ((29 : Nat) : Int) from by decide) (xfc trivial (xfc trivial (xfn))))))))))))))))))))))))))))))))))))))))))))))))
theorem s_So_passes_0 (C : xCx) (r : List Value) (hp : xHp) (x : Nat) (a1 a2 : Value) : (xV k_So_passes C 0 [.ref x, a1, a2] r hp) = (True ∧ xV k_So_passes C 1 [.ref x, a1, a2] (.ref x :: r) hp) := xVe _ _ _ _ _ _
theorem s_So_passes_1 (a : Nat) (C : xCx) (L r : List Value) (hp : xHp) : (xV k_So_passes C 1 L (.ref a :: r) hp) = (xF hp a 0 6 (fun v => xV k_So_passes C 4 L (v :: r) hp)) := xVe _ _ _ _ _ _
theorem s_So_passes_4 (a : Nat) (l : Launch) (d b lo gz n0 s0 : Nat) (Po : Option Value → xHp → Prop) (L r : List Value) (hp : xHp) : (xV k_So_passes (l, d + 1, b, lo, gz, n0, s0, m_So_passes, Po) 4 L (.ref a :: r) hp) = (xO hp a 3 ∧ xcs r 8 ∧ xMi l d b lo gz m_Folk_eldest [.ref a] hp (fun x hp' => xV k_So_passes (l, d + 1, b, lo, gz, n0, s0, m_So_passes, Po) 7 L (.int x :: r) hp')) := xVe _ _ _ _ _ _
theorem s_So_passes_7 (C : xCx) (r : List Value) (hp : xHp) (x : Int32) (a0 a1 a2 : Value) : (xV k_So_passes C 7 [a0, a1, a2] (.int x :: r) hp) = (1 < 3 ∧ xNl [a0, a1, a2] 1 ∧ xV k_So_passes C 8 [a0, .int x, a2] r hp) := xVe _ _ _ _ _ _
theorem s_So_passes_8 (C : xCx) (r : List Value) (hp : xHp) (x : Int32) (a0 a2 : Value) : (xV k_So_passes C 8 [a0, .int x, a2] r hp) = (xV k_So_passes C 9 [a0, .int x, a2] (.int x :: r) hp) := xVe _ _ _ _ _ _
theorem s_So_passes_9  (C : xCx) (L r : List Value) (hp : xHp) : (xV k_So_passes C 9 L (r) hp) = (xV k_So_passes C 10 L (.int (-1) :: r) hp) := xVe _ _ _ _ _ _
theorem s_So_passes_10 (x y : Int32) (C : xCx) (L r : List Value) (hp : xHp) : (xV k_So_passes C 10 L (.int y :: .int x :: r) hp) = (((¬ x = y → xV k_So_passes C 16 L r hp) ∧ (x = y → xV k_So_passes C 13 L r hp))) := xVe _ _ _ _ _ _
theorem s_So_passes_13  (C : xCx) (L r : List Value) (hp : xHp) : (xV k_So_passes C 13 L (r) hp) = (xV k_So_passes C 15 L (.int (-2) :: r) hp) := xVe _ _ _ _ _ _
theorem s_So_passes_15 (v : Int32) (l : Launch) (d b lo gz n0 s0 : Nat) (Po : Option Value → xHp → Prop) (L : List Value) (hp : xHp) : (xV k_So_passes (l, d, b, lo, gz, n0, s0, m_So_passes, Po) 15 L [.int v] hp) = (Po (some (.int v)) hp) := xVe _ _ _ _ _ _
theorem s_So_passes_16 (C : xCx) (r : List Value) (hp : xHp) (x : Nat) (a1 a2 : Value) : (xV k_So_passes C 16 [.ref x, a1, a2] r hp) = (True ∧ xV k_So_passes C 17 [.ref x, a1, a2] (.ref x :: r) hp) := xVe _ _ _ _ _ _
theorem s_So_passes_17 (a : Nat) (C : xCx) (L r : List Value) (hp : xHp) : (xV k_So_passes C 17 L (.ref a :: r) hp) = (xF hp a 0 7 (fun v => xV k_So_passes C 20 L (v :: r) hp)) := xVe _ _ _ _ _ _
theorem s_So_passes_20 (C : xCx) (r : List Value) (hp : xHp) (x : Nat) (a1 a2 : Value) : (xV k_So_passes C 20 [.ref x, a1, a2] r hp) = (True ∧ xV k_So_passes C 21 [.ref x, a1, a2] (.ref x :: r) hp) := xVe _ _ _ _ _ _
theorem s_So_passes_21 (a : Nat) (C : xCx) (L r : List Value) (hp : xHp) : (xV k_So_passes C 21 L (.ref a :: r) hp) = (xF hp a 0 6 (fun v => xV k_So_passes C 24 L (v :: r) hp)) := xVe _ _ _ _ _ _
theorem s_So_passes_24 (x0 : Nat) (a : Nat) (l : Launch) (d b lo gz n0 s0 : Nat) (Po : Option Value → xHp → Prop) (L r : List Value) (hp : xHp) : (xV k_So_passes (l, d + 1, b, lo, gz, n0, s0, m_So_passes, Po) 24 L (.ref x0 :: .ref a :: r) hp) = (xO hp a 3 ∧ xcs r 8 ∧ xMv l d b lo gz m_Folk_copyFrom [.ref a, .ref x0] hp (fun hp' => xV k_So_passes (l, d + 1, b, lo, gz, n0, s0, m_So_passes, Po) 27 L r hp')) := xVe _ _ _ _ _ _
theorem s_So_passes_27  (C : xCx) (L r : List Value) (hp : xHp) : (xV k_So_passes C 27 L (r) hp) = (xV k_So_passes C 28 L (.int (1) :: r) hp) := xVe _ _ _ _ _ _
theorem s_So_passes_28 (C : xCx) (r : List Value) (hp : xHp) (x : Int32) (a0 a1 a2 : Value) : (xV k_So_passes C 28 [a0, a1, a2] (.int x :: r) hp) = (2 < 3 ∧ xNl [a0, a1, a2] 2 ∧ xV k_So_passes C 29 [a0, a1, .int x] r hp) := xVe _ _ _ _ _ _
theorem s_So_passes_29 (C : xCx) (r : List Value) (hp : xHp) (x : Int32) (a0 a1 : Value) : (xV k_So_passes C 29 [a0, a1, .int x] r hp) = (xV k_So_passes C 30 [a0, a1, .int x] (.int x :: r) hp) := xVe _ _ _ _ _ _
theorem s_So_passes_30  (C : xCx) (L r : List Value) (hp : xHp) : (xV k_So_passes C 30 L (r) hp) = (xV k_So_passes C 32 L (.int (99) :: r) hp) := xVe _ _ _ _ _ _
theorem s_So_passes_32 (x y : Int32) (C : xCx) (L r : List Value) (hp : xHp) : (xV k_So_passes C 32 L (.int y :: .int x :: r) hp) = (((y < x → xV k_So_passes C 87 L r hp) ∧ (¬ y < x → xV k_So_passes C 35 L r hp))) := xVe _ _ _ _ _ _
theorem s_So_passes_35 (C : xCx) (r : List Value) (hp : xHp) (x : Nat) (a1 a2 : Value) : (xV k_So_passes C 35 [.ref x, a1, a2] r hp) = (True ∧ xV k_So_passes C 36 [.ref x, a1, a2] (.ref x :: r) hp) := xVe _ _ _ _ _ _
theorem s_So_passes_36 (a : Nat) (C : xCx) (L r : List Value) (hp : xHp) : (xV k_So_passes C 36 L (.ref a :: r) hp) = (xF hp a 0 5 (fun v => xV k_So_passes C 39 L (v :: r) hp)) := xVe _ _ _ _ _ _
theorem s_So_passes_39 (C : xCx) (r : List Value) (hp : xHp) (x : Nat) (a1 a2 : Value) : (xV k_So_passes C 39 [.ref x, a1, a2] r hp) = (True ∧ xV k_So_passes C 40 [.ref x, a1, a2] (.ref x :: r) hp) := xVe _ _ _ _ _ _
theorem s_So_passes_40 (a : Nat) (C : xCx) (L r : List Value) (hp : xHp) : (xV k_So_passes C 40 L (.ref a :: r) hp) = (xF hp a 0 3 (fun v => xV k_So_passes C 43 L (v :: r) hp)) := xVe _ _ _ _ _ _
theorem s_So_passes_43 (C : xCx) (r : List Value) (hp : xHp) (x : Nat) (a1 a2 : Value) : (xV k_So_passes C 43 [.ref x, a1, a2] r hp) = (True ∧ xV k_So_passes C 44 [.ref x, a1, a2] (.ref x :: r) hp) := xVe _ _ _ _ _ _
theorem s_So_passes_44 (a : Nat) (C : xCx) (L r : List Value) (hp : xHp) : (xV k_So_passes C 44 L (.ref a :: r) hp) = (xF hp a 0 7 (fun v => xV k_So_passes C 47 L (v :: r) hp)) := xVe _ _ _ _ _ _
theorem s_So_passes_47 (x0 : Nat) (x1 : Nat) (a : Nat) (l : Launch) (d b lo gz n0 s0 : Nat) (Po : Option Value → xHp → Prop) (L r : List Value) (hp : xHp) : (xV k_So_passes (l, d + 1, b, lo, gz, n0, s0, m_So_passes, Po) 47 L (.ref x1 :: .ref x0 :: .ref a :: r) hp) = (xO hp a 9 ∧ xcs r 8 ∧ xMi l d b lo gz m_Sun_dayBy [.ref a, .ref x0, .ref x1] hp (fun x hp' => xV k_So_passes (l, d + 1, b, lo, gz, n0, s0, m_So_passes, Po) 50 L (.int x :: r) hp')) := xVe _ _ _ _ _ _
theorem s_So_passes_50 (v : Value) (C : xCx) (L r : List Value) (hp : xHp) : (xV k_So_passes C 50 L (v :: r) hp) = (v.category = 1 ∧ xV k_So_passes C 51 L (r) hp) := xVe _ _ _ _ _ _
theorem s_So_passes_51 (C : xCx) (r : List Value) (hp : xHp) (x : Nat) (a1 a2 : Value) : (xV k_So_passes C 51 [.ref x, a1, a2] r hp) = (True ∧ xV k_So_passes C 52 [.ref x, a1, a2] (.ref x :: r) hp) := xVe _ _ _ _ _ _
theorem s_So_passes_52 (a : Nat) (C : xCx) (L r : List Value) (hp : xHp) : (xV k_So_passes C 52 L (.ref a :: r) hp) = (xF hp a 0 7 (fun v => xV k_So_passes C 55 L (v :: r) hp)) := xVe _ _ _ _ _ _
theorem s_So_passes_55 (a : Nat) (l : Launch) (d b lo gz n0 s0 : Nat) (Po : Option Value → xHp → Prop) (L r : List Value) (hp : xHp) : (xV k_So_passes (l, d + 1, b, lo, gz, n0, s0, m_So_passes, Po) 55 L (.ref a :: r) hp) = (xO hp a 3 ∧ xcs r 8 ∧ xMi l d b lo gz m_Folk_eldest [.ref a] hp (fun x hp' => xV k_So_passes (l, d + 1, b, lo, gz, n0, s0, m_So_passes, Po) 58 L (.int x :: r) hp')) := xVe _ _ _ _ _ _
theorem s_So_passes_58 (C : xCx) (r : List Value) (hp : xHp) (x : Int32) (a0 a2 : Value) : (xV k_So_passes C 58 [a0, .int x, a2] r hp) = (xV k_So_passes C 59 [a0, .int x, a2] (.int x :: r) hp) := xVe _ _ _ _ _ _
theorem s_So_passes_59 (x y : Int32) (C : xCx) (L r : List Value) (hp : xHp) : (xV k_So_passes C 59 L (.int y :: .int x :: r) hp) = (((x = y → xV k_So_passes C 81 L r hp) ∧ (¬ x = y → xV k_So_passes C 62 L r hp))) := xVe _ _ _ _ _ _
theorem s_So_passes_62 (C : xCx) (r : List Value) (hp : xHp) (x : Nat) (a1 a2 : Value) : (xV k_So_passes C 62 [.ref x, a1, a2] r hp) = (True ∧ xV k_So_passes C 63 [.ref x, a1, a2] (.ref x :: r) hp) := xVe _ _ _ _ _ _
theorem s_So_passes_63 (a : Nat) (C : xCx) (L r : List Value) (hp : xHp) : (xV k_So_passes C 63 L (.ref a :: r) hp) = (xF hp a 0 1 (fun v => xV k_So_passes C 66 L (v :: r) hp)) := xVe _ _ _ _ _ _
theorem s_So_passes_66 (C : xCx) (r : List Value) (hp : xHp) (x : Nat) (a1 a2 : Value) : (xV k_So_passes C 66 [.ref x, a1, a2] r hp) = (True ∧ xV k_So_passes C 67 [.ref x, a1, a2] (.ref x :: r) hp) := xVe _ _ _ _ _ _
theorem s_So_passes_67 (a : Nat) (C : xCx) (L r : List Value) (hp : xHp) : (xV k_So_passes C 67 L (.ref a :: r) hp) = (xF hp a 0 7 (fun v => xV k_So_passes C 70 L (v :: r) hp)) := xVe _ _ _ _ _ _
theorem s_So_passes_70 (a : Nat) (l : Launch) (d b lo gz n0 s0 : Nat) (Po : Option Value → xHp → Prop) (L r : List Value) (hp : xHp) : (xV k_So_passes (l, d + 1, b, lo, gz, n0, s0, m_So_passes, Po) 70 L (.ref a :: r) hp) = (xO hp a 3 ∧ xcs r 8 ∧ xMi l d b lo gz m_Folk_eldest [.ref a] hp (fun x hp' => xV k_So_passes (l, d + 1, b, lo, gz, n0, s0, m_So_passes, Po) 73 L (.int x :: r) hp')) := xVe _ _ _ _ _ _
theorem s_So_passes_73 (x : Int32) (C : xCx) (L r : List Value) (hp : xHp) : (xV k_So_passes C 73 L (.int x :: r) hp) = (xV k_So_passes C 74 L (.long x.toInt64 :: r) hp) := xVe _ _ _ _ _ _
theorem s_So_passes_74 (C : xCx) (r : List Value) (hp : xHp) (x : Int32) (a0 a2 : Value) : (xV k_So_passes C 74 [a0, .int x, a2] r hp) = (xV k_So_passes C 75 [a0, .int x, a2] (.int x :: r) hp) := xVe _ _ _ _ _ _
theorem s_So_passes_75 (x : Int32) (C : xCx) (L r : List Value) (hp : xHp) : (xV k_So_passes C 75 L (.int x :: r) hp) = (xV k_So_passes C 76 L (.long x.toInt64 :: r) hp) := xVe _ _ _ _ _ _
theorem s_So_passes_76 (x0 : Int64) (x1 : Int64) (a : Nat) (l : Launch) (d b lo gz n0 s0 : Nat) (Po : Option Value → xHp → Prop) (L r : List Value) (hp : xHp) : (xV k_So_passes (l, d + 1, b, lo, gz, n0, s0, m_So_passes, Po) 76 L (.long x1 :: .long x0 :: .ref a :: r) hp) = (xO hp a 7 ∧ xcs r 8 ∧ xMv l d b lo gz m_Row_tell2 [.ref a, .long x0, .long x1] hp (fun hp' => xV k_So_passes (l, d + 1, b, lo, gz, n0, s0, m_So_passes, Po) 79 L r hp')) := xVe _ _ _ _ _ _
theorem s_So_passes_79 (C : xCx) (r : List Value) (hp : xHp) (x : Int32) (a0 a1 : Value) : (xV k_So_passes C 79 [a0, a1, .int x] r hp) = (xV k_So_passes C 80 [a0, a1, .int x] (.int x :: r) hp) := xVe _ _ _ _ _ _
theorem s_So_passes_80 (v : Int32) (l : Launch) (d b lo gz n0 s0 : Nat) (Po : Option Value → xHp → Prop) (L : List Value) (hp : xHp) : (xV k_So_passes (l, d, b, lo, gz, n0, s0, m_So_passes, Po) 80 L [.int v] hp) = (Po (some (.int v)) hp) := xVe _ _ _ _ _ _
theorem s_So_passes_81 (C : xCx) (r : List Value) (hp : xHp) (x : Int32) (a0 a1 : Value) : (xV k_So_passes C 81 [a0, a1, .int x] r hp) = (xNl [a0, a1, .int x] 2 ∧ xV k_So_passes C 84 [a0, a1, .int (x + (1))] r hp) := xVe _ _ _ _ _ _
theorem s_So_passes_84 (C : xCx) (L r : List Value) (hp : xHp) : (xV k_So_passes C 84 L r hp) = (xV k_So_passes C 29 L r hp) := xVe _ _ _ _ _ _
theorem s_So_passes_87  (C : xCx) (L r : List Value) (hp : xHp) : (xV k_So_passes C 87 L (r) hp) = (xV k_So_passes C 89 L (.int (-2) :: r) hp) := xVe _ _ _ _ _ _
theorem s_So_passes_89 (v : Int32) (l : Launch) (d b lo gz n0 s0 : Nat) (Po : Option Value → xHp → Prop) (L : List Value) (hp : xHp) : (xV k_So_passes (l, d, b, lo, gz, n0, s0, m_So_passes, Po) 89 L [.int v] hp) = (Po (some (.int v)) hp) := xVe _ _ _ _ _ _
theorem ml_So_300 : xLk "SunnyOnes" 300 m_Row_clear := Or.inl (wg4 24 (by decide +kernel) rfl)
theorem ml_So_301 : xLk "SunnyOnes" 301 m_Folk_eldestBut := Or.inl (wg4 25 (by decide +kernel) rfl)
theorem ml_So_304 : xLk "SunnyOnes" 304 m_Row_add := Or.inl (wg4 26 (by decide +kernel) rfl)
def k_So_order : List xEC := [
  (0, .aload_n 0, 1, 0, 0, 0, m_x),
  (1, .getfield 19, 4, 0, 1, 0, m_x),
  (4, .invokevirtual 300, 7, 7, 0, 0, m_Row_clear),
  (7, .iconst 0, 8, 0, 0, 0, m_x),
  (8, .istore_n 1, 9, 0, 0, 0, m_x),
  (9, .iconst 0, 10, 0, 0, 0, m_x),
  (10, .istore_n 2, 11, 0, 0, 0, m_x),
  (11, .iload_n 2, 12, 0, 0, 0, m_x),
  (12, .aload_n 0, 13, 0, 0, 0, m_x),
  (13, .getfield 54, 16, 0, 6, 0, m_x),
  (16, .invokevirtual 150, 19, 3, 0, 0, m_Folk_size),
  (19, .if_icmp .ge 33, 22, 0, 52, 0, m_x),
  (22, .aload_n 0, 23, 0, 0, 0, m_x),
  (23, .getfield 54, 26, 0, 6, 0, m_x),
  (26, .iload_n 1, 27, 0, 0, 0, m_x),
  (27, .invokevirtual 301, 30, 3, 0, 0, m_Folk_eldestBut),
  (30, .istore_n 3, 31, 0, 0, 0, m_x),
  (31, .iload_n 1, 32, 0, 0, 0, m_x),
  (32, .iconst 1, 33, 0, 0, 0, m_x),
  (33, .iload_n 3, 34, 0, 0, 0, m_x),
  (34, .ishl, 35, 0, 0, 0, m_x),
  (35, .ior, 36, 0, 0, 0, m_x),
  (36, .istore_n 1, 37, 0, 0, 0, m_x),
  (37, .aload_n 0, 38, 0, 0, 0, m_x),
  (38, .getfield 19, 41, 0, 1, 0, m_x),
  (41, .iload_n 3, 42, 0, 0, 0, m_x),
  (42, .i2l, 43, 0, 0, 0, m_x),
  (43, .invokevirtual 304, 46, 7, 0, 0, m_Row_add),
  (46, .iinc 2 1, 49, 0, 0, 0, m_x),
  (49, .goto (-38), 52, 0, 11, 0, m_x),
  (52, .aload_n 0, 53, 0, 0, 0, m_x),
  (53, .getfield 54, 56, 0, 6, 0, m_x),
  (56, .invokevirtual 150, 59, 3, 0, 0, m_Folk_size),
  (59, .ireturn, 60, 0, 0, 0, m_x)]
theorem dc_So_order : ∀ E ∈ k_So_order, xDc m_So_order E := by decide +kernel
set_option maxRecDepth 20000 in
theorem ok_So_order : ∀ E ∈ k_So_order, xOk m_So_order E := xok_of dc_So_order (xfc trivial (xfc fl_So_19 (xfc ⟨ml_So_300, kd_Row_clear⟩ (xfc trivial (xfc trivial (xfc trivial (xfc trivial (xfc trivial (xfc trivial (xfc fl_So_54 (xfc ⟨ml_So_150, kd_Folk_size⟩ (xfc (show ((19 : Nat) : Int) + (33) = ((52 : Nat) : Int) from by decide) (xfc trivial (xfc fl_So_54 (xfc trivial (xfc ⟨ml_So_301, kd_Folk_eldestBut⟩ (xfc trivial (xfc trivial (xfc trivial (xfc trivial (xfc trivial (xfc trivial (xfc trivial (xfc trivial (xfc fl_So_19 (xfc trivial (xfc trivial (xfc ⟨ml_So_304, kd_Row_add⟩ (xfc trivial (xfc (show ((49 : Nat) : Int) + (-38) = ((11 : Nat) : Int) from by decide) (xfc trivial (xfc fl_So_54 (xfc ⟨ml_So_150, kd_Folk_size⟩ (xfc trivial (xfn)))))))))))))))))))))))))))))))))))
theorem s_So_order_0 (C : xCx) (r : List Value) (hp : xHp) (x : Nat) (a1 a2 a3 : Value) : (xV k_So_order C 0 [.ref x, a1, a2, a3] r hp) = (True ∧ xV k_So_order C 1 [.ref x, a1, a2, a3] (.ref x :: r) hp) := xVe _ _ _ _ _ _
theorem s_So_order_1 (a : Nat) (C : xCx) (L r : List Value) (hp : xHp) : (xV k_So_order C 1 L (.ref a :: r) hp) = (xF hp a 0 1 (fun v => xV k_So_order C 4 L (v :: r) hp)) := xVe _ _ _ _ _ _
theorem s_So_order_4 (a : Nat) (l : Launch) (d b lo gz n0 s0 : Nat) (Po : Option Value → xHp → Prop) (L r : List Value) (hp : xHp) : (xV k_So_order (l, d + 1, b, lo, gz, n0, s0, m_So_order, Po) 4 L (.ref a :: r) hp) = (xO hp a 7 ∧ xcs r 8 ∧ xMv l d b lo gz m_Row_clear [.ref a] hp (fun hp' => xV k_So_order (l, d + 1, b, lo, gz, n0, s0, m_So_order, Po) 7 L r hp')) := xVe _ _ _ _ _ _
theorem s_So_order_7  (C : xCx) (L r : List Value) (hp : xHp) : (xV k_So_order C 7 L (r) hp) = (xV k_So_order C 8 L (.int (0) :: r) hp) := xVe _ _ _ _ _ _
theorem s_So_order_8 (C : xCx) (r : List Value) (hp : xHp) (x : Int32) (a0 a1 a2 a3 : Value) : (xV k_So_order C 8 [a0, a1, a2, a3] (.int x :: r) hp) = (1 < 4 ∧ xNl [a0, a1, a2, a3] 1 ∧ xV k_So_order C 9 [a0, .int x, a2, a3] r hp) := xVe _ _ _ _ _ _
theorem s_So_order_9  (C : xCx) (L r : List Value) (hp : xHp) : (xV k_So_order C 9 L (r) hp) = (xV k_So_order C 10 L (.int (0) :: r) hp) := xVe _ _ _ _ _ _
theorem s_So_order_10 (C : xCx) (r : List Value) (hp : xHp) (x : Int32) (a0 a1 a2 a3 : Value) : (xV k_So_order C 10 [a0, a1, a2, a3] (.int x :: r) hp) = (2 < 4 ∧ xNl [a0, a1, a2, a3] 2 ∧ xV k_So_order C 11 [a0, a1, .int x, a3] r hp) := xVe _ _ _ _ _ _
theorem s_So_order_11 (C : xCx) (r : List Value) (hp : xHp) (x : Int32) (a0 a1 a3 : Value) : (xV k_So_order C 11 [a0, a1, .int x, a3] r hp) = (xV k_So_order C 12 [a0, a1, .int x, a3] (.int x :: r) hp) := xVe _ _ _ _ _ _
theorem s_So_order_12 (C : xCx) (r : List Value) (hp : xHp) (x : Nat) (a1 a2 a3 : Value) : (xV k_So_order C 12 [.ref x, a1, a2, a3] r hp) = (True ∧ xV k_So_order C 13 [.ref x, a1, a2, a3] (.ref x :: r) hp) := xVe _ _ _ _ _ _
theorem s_So_order_13 (a : Nat) (C : xCx) (L r : List Value) (hp : xHp) : (xV k_So_order C 13 L (.ref a :: r) hp) = (xF hp a 0 6 (fun v => xV k_So_order C 16 L (v :: r) hp)) := xVe _ _ _ _ _ _
theorem s_So_order_16 (a : Nat) (l : Launch) (d b lo gz n0 s0 : Nat) (Po : Option Value → xHp → Prop) (L r : List Value) (hp : xHp) : (xV k_So_order (l, d + 1, b, lo, gz, n0, s0, m_So_order, Po) 16 L (.ref a :: r) hp) = (xO hp a 3 ∧ xcs r 8 ∧ xMi l d b lo gz m_Folk_size [.ref a] hp (fun x hp' => xV k_So_order (l, d + 1, b, lo, gz, n0, s0, m_So_order, Po) 19 L (.int x :: r) hp')) := xVe _ _ _ _ _ _
theorem s_So_order_19 (x y : Int32) (C : xCx) (L r : List Value) (hp : xHp) : (xV k_So_order C 19 L (.int y :: .int x :: r) hp) = (((y ≤ x → xV k_So_order C 52 L r hp) ∧ (¬ y ≤ x → xV k_So_order C 22 L r hp))) := xVe _ _ _ _ _ _
theorem s_So_order_22 (C : xCx) (r : List Value) (hp : xHp) (x : Nat) (a1 a2 a3 : Value) : (xV k_So_order C 22 [.ref x, a1, a2, a3] r hp) = (True ∧ xV k_So_order C 23 [.ref x, a1, a2, a3] (.ref x :: r) hp) := xVe _ _ _ _ _ _
theorem s_So_order_23 (a : Nat) (C : xCx) (L r : List Value) (hp : xHp) : (xV k_So_order C 23 L (.ref a :: r) hp) = (xF hp a 0 6 (fun v => xV k_So_order C 26 L (v :: r) hp)) := xVe _ _ _ _ _ _
theorem s_So_order_26 (C : xCx) (r : List Value) (hp : xHp) (x : Int32) (a0 a2 a3 : Value) : (xV k_So_order C 26 [a0, .int x, a2, a3] r hp) = (xV k_So_order C 27 [a0, .int x, a2, a3] (.int x :: r) hp) := xVe _ _ _ _ _ _
theorem s_So_order_27 (x0 : Int32) (a : Nat) (l : Launch) (d b lo gz n0 s0 : Nat) (Po : Option Value → xHp → Prop) (L r : List Value) (hp : xHp) : (xV k_So_order (l, d + 1, b, lo, gz, n0, s0, m_So_order, Po) 27 L (.int x0 :: .ref a :: r) hp) = (xO hp a 3 ∧ xcs r 8 ∧ xMi l d b lo gz m_Folk_eldestBut [.ref a, .int x0] hp (fun x hp' => xV k_So_order (l, d + 1, b, lo, gz, n0, s0, m_So_order, Po) 30 L (.int x :: r) hp')) := xVe _ _ _ _ _ _
theorem s_So_order_30 (C : xCx) (r : List Value) (hp : xHp) (x : Int32) (a0 a1 a2 a3 : Value) : (xV k_So_order C 30 [a0, a1, a2, a3] (.int x :: r) hp) = (3 < 4 ∧ xNl [a0, a1, a2, a3] 3 ∧ xV k_So_order C 31 [a0, a1, a2, .int x] r hp) := xVe _ _ _ _ _ _
theorem s_So_order_31 (C : xCx) (r : List Value) (hp : xHp) (x : Int32) (a0 a2 a3 : Value) : (xV k_So_order C 31 [a0, .int x, a2, a3] r hp) = (xV k_So_order C 32 [a0, .int x, a2, a3] (.int x :: r) hp) := xVe _ _ _ _ _ _
theorem s_So_order_32  (C : xCx) (L r : List Value) (hp : xHp) : (xV k_So_order C 32 L (r) hp) = (xV k_So_order C 33 L (.int (1) :: r) hp) := xVe _ _ _ _ _ _
theorem s_So_order_33 (C : xCx) (r : List Value) (hp : xHp) (x : Int32) (a0 a1 a2 : Value) : (xV k_So_order C 33 [a0, a1, a2, .int x] r hp) = (xV k_So_order C 34 [a0, a1, a2, .int x] (.int x :: r) hp) := xVe _ _ _ _ _ _
theorem s_So_order_34 (x y : Int32) (C : xCx) (L r : List Value) (hp : xHp) : (xV k_So_order C 34 L (.int y :: .int x :: r) hp) = (xV k_So_order C 35 L (.int (x <<< (y &&& 31)) :: r) hp) := xVe _ _ _ _ _ _
theorem s_So_order_35 (x y : Int32) (C : xCx) (L r : List Value) (hp : xHp) : (xV k_So_order C 35 L (.int y :: .int x :: r) hp) = (xV k_So_order C 36 L (.int (x ||| y) :: r) hp) := xVe _ _ _ _ _ _
theorem s_So_order_36 (C : xCx) (r : List Value) (hp : xHp) (x : Int32) (a0 a1 a2 a3 : Value) : (xV k_So_order C 36 [a0, a1, a2, a3] (.int x :: r) hp) = (1 < 4 ∧ xNl [a0, a1, a2, a3] 1 ∧ xV k_So_order C 37 [a0, .int x, a2, a3] r hp) := xVe _ _ _ _ _ _
theorem s_So_order_37 (C : xCx) (r : List Value) (hp : xHp) (x : Nat) (a1 a2 a3 : Value) : (xV k_So_order C 37 [.ref x, a1, a2, a3] r hp) = (True ∧ xV k_So_order C 38 [.ref x, a1, a2, a3] (.ref x :: r) hp) := xVe _ _ _ _ _ _
theorem s_So_order_38 (a : Nat) (C : xCx) (L r : List Value) (hp : xHp) : (xV k_So_order C 38 L (.ref a :: r) hp) = (xF hp a 0 1 (fun v => xV k_So_order C 41 L (v :: r) hp)) := xVe _ _ _ _ _ _
theorem s_So_order_41 (C : xCx) (r : List Value) (hp : xHp) (x : Int32) (a0 a1 a2 : Value) : (xV k_So_order C 41 [a0, a1, a2, .int x] r hp) = (xV k_So_order C 42 [a0, a1, a2, .int x] (.int x :: r) hp) := xVe _ _ _ _ _ _
theorem s_So_order_42 (x : Int32) (C : xCx) (L r : List Value) (hp : xHp) : (xV k_So_order C 42 L (.int x :: r) hp) = (xV k_So_order C 43 L (.long x.toInt64 :: r) hp) := xVe _ _ _ _ _ _
theorem s_So_order_43 (x0 : Int64) (a : Nat) (l : Launch) (d b lo gz n0 s0 : Nat) (Po : Option Value → xHp → Prop) (L r : List Value) (hp : xHp) : (xV k_So_order (l, d + 1, b, lo, gz, n0, s0, m_So_order, Po) 43 L (.long x0 :: .ref a :: r) hp) = (xO hp a 7 ∧ xcs r 8 ∧ xMv l d b lo gz m_Row_add [.ref a, .long x0] hp (fun hp' => xV k_So_order (l, d + 1, b, lo, gz, n0, s0, m_So_order, Po) 46 L r hp')) := xVe _ _ _ _ _ _
theorem s_So_order_46 (C : xCx) (r : List Value) (hp : xHp) (x : Int32) (a0 a1 a3 : Value) : (xV k_So_order C 46 [a0, a1, .int x, a3] r hp) = (xNl [a0, a1, .int x, a3] 2 ∧ xV k_So_order C 49 [a0, a1, .int (x + (1)), a3] r hp) := xVe _ _ _ _ _ _
theorem s_So_order_49 (C : xCx) (L r : List Value) (hp : xHp) : (xV k_So_order C 49 L r hp) = (xV k_So_order C 11 L r hp) := xVe _ _ _ _ _ _
theorem s_So_order_52 (C : xCx) (r : List Value) (hp : xHp) (x : Nat) (a1 a2 a3 : Value) : (xV k_So_order C 52 [.ref x, a1, a2, a3] r hp) = (True ∧ xV k_So_order C 53 [.ref x, a1, a2, a3] (.ref x :: r) hp) := xVe _ _ _ _ _ _
theorem s_So_order_53 (a : Nat) (C : xCx) (L r : List Value) (hp : xHp) : (xV k_So_order C 53 L (.ref a :: r) hp) = (xF hp a 0 6 (fun v => xV k_So_order C 56 L (v :: r) hp)) := xVe _ _ _ _ _ _
theorem s_So_order_56 (a : Nat) (l : Launch) (d b lo gz n0 s0 : Nat) (Po : Option Value → xHp → Prop) (L r : List Value) (hp : xHp) : (xV k_So_order (l, d + 1, b, lo, gz, n0, s0, m_So_order, Po) 56 L (.ref a :: r) hp) = (xO hp a 3 ∧ xcs r 8 ∧ xMi l d b lo gz m_Folk_size [.ref a] hp (fun x hp' => xV k_So_order (l, d + 1, b, lo, gz, n0, s0, m_So_order, Po) 59 L (.int x :: r) hp')) := xVe _ _ _ _ _ _
theorem s_So_order_59 (v : Int32) (l : Launch) (d b lo gz n0 s0 : Nat) (Po : Option Value → xHp → Prop) (L : List Value) (hp : xHp) : (xV k_So_order (l, d, b, lo, gz, n0, s0, m_So_order, Po) 59 L [.int v] hp) = (Po (some (.int v)) hp) := xVe _ _ _ _ _ _
theorem ml_So_306 : xLk "SunnyOnes" 306 m_So_tallyHours := Or.inl (wg4 31 (by decide +kernel) rfl)
theorem ml_So_309 : xLk "SunnyOnes" 309 m_So_at := Or.inl (wg4 36 (by decide +kernel) rfl)
def k_So_summer : List xEC := [
  (0, .aload_n 0, 1, 0, 0, 0, m_x),
  (1, .iload_n 1, 2, 0, 0, 0, m_x),
  (2, .invokevirtual 179, 5, 0, 0, 0, m_So_has),
  (5, .ifCond .eq 14, 8, 0, 19, 0, m_x),
  (8, .iload_n 2, 9, 0, 0, 0, m_x),
  (9, .iconst 1, 10, 0, 0, 0, m_x),
  (10, .if_icmp .lt 9, 13, 0, 19, 0, m_x),
  (13, .iload_n 2, 14, 0, 0, 0, m_x),
  (14, .bipush 20, 16, 0, 0, 0, m_x),
  (16, .if_icmp .le 5, 19, 0, 21, 0, m_x),
  (19, .iconst (-1), 20, 0, 0, 0, m_x),
  (20, .ireturn, 21, 0, 0, 0, m_x),
  (21, .aload_n 0, 22, 0, 0, 0, m_x),
  (22, .iload_n 1, 23, 0, 0, 0, m_x),
  (23, .bipush 60, 25, 0, 0, 0, m_x),
  (25, .invokevirtual 306, 28, 0, 0, 0, m_So_tallyHours),
  (28, .iconst 0, 29, 0, 0, 0, m_x),
  (29, .istore_n 3, 30, 0, 0, 0, m_x),
  (30, .iconst (-1), 31, 0, 0, 0, m_x),
  (31, .istore 4, 33, 0, 0, 0, m_x),
  (33, .iconst 0, 34, 0, 0, 0, m_x),
  (34, .istore 5, 36, 0, 0, 0, m_x),
  (36, .iconst 0, 37, 0, 0, 0, m_x),
  (37, .istore 6, 39, 0, 0, 0, m_x),
  (39, .iload 6, 41, 0, 0, 0, m_x),
  (41, .bipush 60, 43, 0, 0, 0, m_x),
  (43, .if_icmp .ge 58, 46, 0, 101, 0, m_x),
  (46, .iload_n 3, 47, 0, 0, 0, m_x),
  (47, .aload_n 0, 48, 0, 0, 0, m_x),
  (48, .getfield 110, 51, 0, 15, 0, m_x),
  (51, .iload 6, 53, 0, 0, 0, m_x),
  (53, .invokestatic 309, 56, 0, 0, 0, m_So_at),
  (56, .aload_n 0, 57, 0, 0, 0, m_x),
  (57, .getfield 110, 60, 0, 15, 0, m_x),
  (60, .iload 6, 62, 0, 0, 0, m_x),
  (62, .iload_n 2, 63, 0, 0, 0, m_x),
  (63, .isub, 64, 0, 0, 0, m_x),
  (64, .invokestatic 309, 67, 0, 0, 0, m_So_at),
  (67, .isub, 68, 0, 0, 0, m_x),
  (68, .iadd, 69, 0, 0, 0, m_x),
  (69, .istore_n 3, 70, 0, 0, 0, m_x),
  (70, .iload 6, 72, 0, 0, 0, m_x),
  (72, .iload_n 2, 73, 0, 0, 0, m_x),
  (73, .iconst 1, 74, 0, 0, 0, m_x),
  (74, .isub, 75, 0, 0, 0, m_x),
  (75, .if_icmp .lt 20, 78, 0, 95, 0, m_x),
  (78, .iload_n 3, 79, 0, 0, 0, m_x),
  (79, .iload 4, 81, 0, 0, 0, m_x),
  (81, .if_icmp .le 14, 84, 0, 95, 0, m_x),
  (84, .iload_n 3, 85, 0, 0, 0, m_x),
  (85, .istore 4, 87, 0, 0, 0, m_x),
  (87, .iload 6, 89, 0, 0, 0, m_x),
  (89, .iload_n 2, 90, 0, 0, 0, m_x),
  (90, .isub, 91, 0, 0, 0, m_x),
  (91, .iconst 1, 92, 0, 0, 0, m_x),
  (92, .iadd, 93, 0, 0, 0, m_x),
  (93, .istore 5, 95, 0, 0, 0, m_x),
  (95, .iinc 6 1, 98, 0, 0, 0, m_x),
  (98, .goto (-59), 101, 0, 39, 0, m_x),
  (101, .aload_n 0, 102, 0, 0, 0, m_x),
  (102, .getfield 19, 105, 0, 1, 0, m_x),
  (105, .iload 5, 107, 0, 0, 0, m_x),
  (107, .i2l, 108, 0, 0, 0, m_x),
  (108, .invokevirtual 287, 111, 7, 0, 0, m_Row_tell1),
  (111, .iload 4, 113, 0, 0, 0, m_x),
  (113, .ireturn, 114, 0, 0, 0, m_x)]
theorem dc_So_summer : ∀ E ∈ k_So_summer, xDc m_So_summer E := by decide +kernel
set_option maxRecDepth 20000 in
theorem ok_So_summer : ∀ E ∈ k_So_summer, xOk m_So_summer E := xok_of dc_So_summer (xfc trivial (xfc trivial (xfc ⟨ml_So_179, kd_So_has⟩ (xfc (show ((5 : Nat) : Int) + (14) = ((19 : Nat) : Int) from by decide) (xfc trivial (xfc trivial (xfc (show ((10 : Nat) : Int) + (9) = ((19 : Nat) : Int) from by decide) (xfc trivial (xfc trivial (xfc (show ((16 : Nat) : Int) + (5) = ((21 : Nat) : Int) from by decide) (xfc trivial (xfc trivial (xfc trivial (xfc trivial (xfc trivial (xfc ⟨ml_So_306, kd_So_tallyHours⟩ (xfc trivial (xfc trivial (xfc trivial (xfc trivial (xfc trivial (xfc trivial (xfc trivial (xfc trivial (xfc trivial (xfc trivial (xfc (show ((43 : Nat) : Int) + (58) = ((101 : Nat) : Int) from by decide) (xfc trivial (xfc trivial (xfc fl_So_110 (xfc trivial (xfc ⟨ml_So_309, kd_So_at⟩ (xfc trivial (xfc fl_So_110 (xfc trivial (xfc trivial (xfc trivial (xfc ⟨ml_So_309, kd_So_at⟩ (xfc trivial (xfc trivial (xfc trivial (xfc trivial (xfc trivial (xfc trivial (xfc trivial (xfc (show ((75 : Nat) : Int) + (20) = ((95 : Nat) : Int) from by decide) (xfc trivial (xfc trivial (xfc (show ((81 : Nat) : Int) + (14) = ((95 : Nat) : Int) from by decide) (xfc trivial (xfc trivial (xfc trivial (xfc trivial (xfc trivial (xfc trivial (xfc trivial (xfc trivial (xfc trivial (xfc (show ((98 : Nat) : Int) + (-59) = ((39 : Nat) : Int) from by decide) (xfc trivial (xfc fl_So_19 (xfc trivial (xfc trivial (xfc ⟨ml_So_287, kd_Row_tell1⟩ (xfc trivial (xfc trivial (xfn)))))))))))))))))))))))))))))))))))))))))))))))))))))))))))))))))))
theorem s_So_summer_0 (C : xCx) (r : List Value) (hp : xHp) (x : Nat) (a1 a2 a3 a4 a5 a6 : Value) : (xV k_So_summer C 0 [.ref x, a1, a2, a3, a4, a5, a6] r hp) = (True ∧ xV k_So_summer C 1 [.ref x, a1, a2, a3, a4, a5, a6] (.ref x :: r) hp) := xVe _ _ _ _ _ _
theorem s_So_summer_1 (C : xCx) (r : List Value) (hp : xHp) (x : Int32) (a0 a2 a3 a4 a5 a6 : Value) : (xV k_So_summer C 1 [a0, .int x, a2, a3, a4, a5, a6] r hp) = (xV k_So_summer C 2 [a0, .int x, a2, a3, a4, a5, a6] (.int x :: r) hp) := xVe _ _ _ _ _ _
theorem s_So_summer_2 (x0 : Int32) (a : Nat) (l : Launch) (d b lo gz n0 s0 : Nat) (Po : Option Value → xHp → Prop) (L r : List Value) (hp : xHp) : (xV k_So_summer (l, d + 1, b, lo, gz, n0, s0, m_So_summer, Po) 2 L (.int x0 :: .ref a :: r) hp) = (xO hp a 0 ∧ xcs r 8 ∧ xMi l d b lo gz m_So_has [.ref a, .int x0] hp (fun x hp' => xV k_So_summer (l, d + 1, b, lo, gz, n0, s0, m_So_summer, Po) 5 L (.int x :: r) hp')) := xVe _ _ _ _ _ _
theorem s_So_summer_5 (x : Int32) (C : xCx) (L r : List Value) (hp : xHp) : (xV k_So_summer C 5 L (.int x :: r) hp) = (((x = 0 → xV k_So_summer C 19 L r hp) ∧ (¬ x = 0 → xV k_So_summer C 8 L r hp))) := xVe _ _ _ _ _ _
theorem s_So_summer_8 (C : xCx) (r : List Value) (hp : xHp) (x : Int32) (a0 a1 a3 a4 a5 a6 : Value) : (xV k_So_summer C 8 [a0, a1, .int x, a3, a4, a5, a6] r hp) = (xV k_So_summer C 9 [a0, a1, .int x, a3, a4, a5, a6] (.int x :: r) hp) := xVe _ _ _ _ _ _
theorem s_So_summer_9  (C : xCx) (L r : List Value) (hp : xHp) : (xV k_So_summer C 9 L (r) hp) = (xV k_So_summer C 10 L (.int (1) :: r) hp) := xVe _ _ _ _ _ _
theorem s_So_summer_10 (x y : Int32) (C : xCx) (L r : List Value) (hp : xHp) : (xV k_So_summer C 10 L (.int y :: .int x :: r) hp) = (((x < y → xV k_So_summer C 19 L r hp) ∧ (¬ x < y → xV k_So_summer C 13 L r hp))) := xVe _ _ _ _ _ _
theorem s_So_summer_13 (C : xCx) (r : List Value) (hp : xHp) (x : Int32) (a0 a1 a3 a4 a5 a6 : Value) : (xV k_So_summer C 13 [a0, a1, .int x, a3, a4, a5, a6] r hp) = (xV k_So_summer C 14 [a0, a1, .int x, a3, a4, a5, a6] (.int x :: r) hp) := xVe _ _ _ _ _ _
theorem s_So_summer_14  (C : xCx) (L r : List Value) (hp : xHp) : (xV k_So_summer C 14 L (r) hp) = (xV k_So_summer C 16 L (.int (20) :: r) hp) := xVe _ _ _ _ _ _
theorem s_So_summer_16 (x y : Int32) (C : xCx) (L r : List Value) (hp : xHp) : (xV k_So_summer C 16 L (.int y :: .int x :: r) hp) = (((x ≤ y → xV k_So_summer C 21 L r hp) ∧ (¬ x ≤ y → xV k_So_summer C 19 L r hp))) := xVe _ _ _ _ _ _
theorem s_So_summer_19  (C : xCx) (L r : List Value) (hp : xHp) : (xV k_So_summer C 19 L (r) hp) = (xV k_So_summer C 20 L (.int (-1) :: r) hp) := xVe _ _ _ _ _ _
theorem s_So_summer_20 (v : Int32) (l : Launch) (d b lo gz n0 s0 : Nat) (Po : Option Value → xHp → Prop) (L : List Value) (hp : xHp) : (xV k_So_summer (l, d, b, lo, gz, n0, s0, m_So_summer, Po) 20 L [.int v] hp) = (Po (some (.int v)) hp) := xVe _ _ _ _ _ _
theorem s_So_summer_21 (C : xCx) (r : List Value) (hp : xHp) (x : Nat) (a1 a2 a3 a4 a5 a6 : Value) : (xV k_So_summer C 21 [.ref x, a1, a2, a3, a4, a5, a6] r hp) = (True ∧ xV k_So_summer C 22 [.ref x, a1, a2, a3, a4, a5, a6] (.ref x :: r) hp) := xVe _ _ _ _ _ _
theorem s_So_summer_22 (C : xCx) (r : List Value) (hp : xHp) (x : Int32) (a0 a2 a3 a4 a5 a6 : Value) : (xV k_So_summer C 22 [a0, .int x, a2, a3, a4, a5, a6] r hp) = (xV k_So_summer C 23 [a0, .int x, a2, a3, a4, a5, a6] (.int x :: r) hp) := xVe _ _ _ _ _ _
theorem s_So_summer_23  (C : xCx) (L r : List Value) (hp : xHp) : (xV k_So_summer C 23 L (r) hp) = (xV k_So_summer C 25 L (.int (60) :: r) hp) := xVe _ _ _ _ _ _
theorem s_So_summer_25 (x0 : Int32) (x1 : Int32) (a : Nat) (l : Launch) (d b lo gz n0 s0 : Nat) (Po : Option Value → xHp → Prop) (L r : List Value) (hp : xHp) : (xV k_So_summer (l, d + 1, b, lo, gz, n0, s0, m_So_summer, Po) 25 L (.int x1 :: .int x0 :: .ref a :: r) hp) = (xO hp a 0 ∧ xcs r 8 ∧ xMv l d b lo gz m_So_tallyHours [.ref a, .int x0, .int x1] hp (fun hp' => xV k_So_summer (l, d + 1, b, lo, gz, n0, s0, m_So_summer, Po) 28 L r hp')) := xVe _ _ _ _ _ _
theorem s_So_summer_28  (C : xCx) (L r : List Value) (hp : xHp) : (xV k_So_summer C 28 L (r) hp) = (xV k_So_summer C 29 L (.int (0) :: r) hp) := xVe _ _ _ _ _ _
theorem s_So_summer_29 (C : xCx) (r : List Value) (hp : xHp) (x : Int32) (a0 a1 a2 a3 a4 a5 a6 : Value) : (xV k_So_summer C 29 [a0, a1, a2, a3, a4, a5, a6] (.int x :: r) hp) = (3 < 7 ∧ xNl [a0, a1, a2, a3, a4, a5, a6] 3 ∧ xV k_So_summer C 30 [a0, a1, a2, .int x, a4, a5, a6] r hp) := xVe _ _ _ _ _ _
theorem s_So_summer_30  (C : xCx) (L r : List Value) (hp : xHp) : (xV k_So_summer C 30 L (r) hp) = (xV k_So_summer C 31 L (.int (-1) :: r) hp) := xVe _ _ _ _ _ _
theorem s_So_summer_31 (C : xCx) (r : List Value) (hp : xHp) (x : Int32) (a0 a1 a2 a3 a4 a5 a6 : Value) : (xV k_So_summer C 31 [a0, a1, a2, a3, a4, a5, a6] (.int x :: r) hp) = (4 < 7 ∧ xNl [a0, a1, a2, a3, a4, a5, a6] 4 ∧ xV k_So_summer C 33 [a0, a1, a2, a3, .int x, a5, a6] r hp) := xVe _ _ _ _ _ _
theorem s_So_summer_33  (C : xCx) (L r : List Value) (hp : xHp) : (xV k_So_summer C 33 L (r) hp) = (xV k_So_summer C 34 L (.int (0) :: r) hp) := xVe _ _ _ _ _ _
theorem s_So_summer_34 (C : xCx) (r : List Value) (hp : xHp) (x : Int32) (a0 a1 a2 a3 a4 a5 a6 : Value) : (xV k_So_summer C 34 [a0, a1, a2, a3, a4, a5, a6] (.int x :: r) hp) = (5 < 7 ∧ xNl [a0, a1, a2, a3, a4, a5, a6] 5 ∧ xV k_So_summer C 36 [a0, a1, a2, a3, a4, .int x, a6] r hp) := xVe _ _ _ _ _ _
theorem s_So_summer_36  (C : xCx) (L r : List Value) (hp : xHp) : (xV k_So_summer C 36 L (r) hp) = (xV k_So_summer C 37 L (.int (0) :: r) hp) := xVe _ _ _ _ _ _
theorem s_So_summer_37 (C : xCx) (r : List Value) (hp : xHp) (x : Int32) (a0 a1 a2 a3 a4 a5 a6 : Value) : (xV k_So_summer C 37 [a0, a1, a2, a3, a4, a5, a6] (.int x :: r) hp) = (6 < 7 ∧ xNl [a0, a1, a2, a3, a4, a5, a6] 6 ∧ xV k_So_summer C 39 [a0, a1, a2, a3, a4, a5, .int x] r hp) := xVe _ _ _ _ _ _
theorem s_So_summer_39 (C : xCx) (r : List Value) (hp : xHp) (x : Int32) (a0 a1 a2 a3 a4 a5 : Value) : (xV k_So_summer C 39 [a0, a1, a2, a3, a4, a5, .int x] r hp) = (xV k_So_summer C 41 [a0, a1, a2, a3, a4, a5, .int x] (.int x :: r) hp) := xVe _ _ _ _ _ _
theorem s_So_summer_41  (C : xCx) (L r : List Value) (hp : xHp) : (xV k_So_summer C 41 L (r) hp) = (xV k_So_summer C 43 L (.int (60) :: r) hp) := xVe _ _ _ _ _ _
theorem s_So_summer_43 (x y : Int32) (C : xCx) (L r : List Value) (hp : xHp) : (xV k_So_summer C 43 L (.int y :: .int x :: r) hp) = (((y ≤ x → xV k_So_summer C 101 L r hp) ∧ (¬ y ≤ x → xV k_So_summer C 46 L r hp))) := xVe _ _ _ _ _ _
theorem s_So_summer_46 (C : xCx) (r : List Value) (hp : xHp) (x : Int32) (a0 a1 a2 a4 a5 a6 : Value) : (xV k_So_summer C 46 [a0, a1, a2, .int x, a4, a5, a6] r hp) = (xV k_So_summer C 47 [a0, a1, a2, .int x, a4, a5, a6] (.int x :: r) hp) := xVe _ _ _ _ _ _
theorem s_So_summer_47 (C : xCx) (r : List Value) (hp : xHp) (x : Nat) (a1 a2 a3 a4 a5 a6 : Value) : (xV k_So_summer C 47 [.ref x, a1, a2, a3, a4, a5, a6] r hp) = (True ∧ xV k_So_summer C 48 [.ref x, a1, a2, a3, a4, a5, a6] (.ref x :: r) hp) := xVe _ _ _ _ _ _
theorem s_So_summer_48 (a : Nat) (C : xCx) (L r : List Value) (hp : xHp) : (xV k_So_summer C 48 L (.ref a :: r) hp) = (xF hp a 0 15 (fun v => xV k_So_summer C 51 L (v :: r) hp)) := xVe _ _ _ _ _ _
theorem s_So_summer_51 (C : xCx) (r : List Value) (hp : xHp) (x : Int32) (a0 a1 a2 a3 a4 a5 : Value) : (xV k_So_summer C 51 [a0, a1, a2, a3, a4, a5, .int x] r hp) = (xV k_So_summer C 53 [a0, a1, a2, a3, a4, a5, .int x] (.int x :: r) hp) := xVe _ _ _ _ _ _
theorem s_So_summer_53 (x0 : Nat) (x1 : Int32) (l : Launch) (d b lo gz n0 s0 : Nat) (Po : Option Value → xHp → Prop) (L r : List Value) (hp : xHp) : (xV k_So_summer (l, d + 1, b, lo, gz, n0, s0, m_So_summer, Po) 53 L (.int x1 :: .ref x0 :: r) hp) = (2 ≤ List.length (.int x1 :: .ref x0 :: r) ∧ xcs r 8 ∧ xMi l d b lo gz m_So_at [.ref x0, .int x1] hp (fun x hp' => xV k_So_summer (l, d + 1, b, lo, gz, n0, s0, m_So_summer, Po) 56 L (.int x :: r) hp')) := xVe _ _ _ _ _ _
theorem s_So_summer_56 (C : xCx) (r : List Value) (hp : xHp) (x : Nat) (a1 a2 a3 a4 a5 a6 : Value) : (xV k_So_summer C 56 [.ref x, a1, a2, a3, a4, a5, a6] r hp) = (True ∧ xV k_So_summer C 57 [.ref x, a1, a2, a3, a4, a5, a6] (.ref x :: r) hp) := xVe _ _ _ _ _ _
theorem s_So_summer_57 (a : Nat) (C : xCx) (L r : List Value) (hp : xHp) : (xV k_So_summer C 57 L (.ref a :: r) hp) = (xF hp a 0 15 (fun v => xV k_So_summer C 60 L (v :: r) hp)) := xVe _ _ _ _ _ _
theorem s_So_summer_60 (C : xCx) (r : List Value) (hp : xHp) (x : Int32) (a0 a1 a2 a3 a4 a5 : Value) : (xV k_So_summer C 60 [a0, a1, a2, a3, a4, a5, .int x] r hp) = (xV k_So_summer C 62 [a0, a1, a2, a3, a4, a5, .int x] (.int x :: r) hp) := xVe _ _ _ _ _ _
theorem s_So_summer_62 (C : xCx) (r : List Value) (hp : xHp) (x : Int32) (a0 a1 a3 a4 a5 a6 : Value) : (xV k_So_summer C 62 [a0, a1, .int x, a3, a4, a5, a6] r hp) = (xV k_So_summer C 63 [a0, a1, .int x, a3, a4, a5, a6] (.int x :: r) hp) := xVe _ _ _ _ _ _
theorem s_So_summer_63 (x y : Int32) (C : xCx) (L r : List Value) (hp : xHp) : (xV k_So_summer C 63 L (.int y :: .int x :: r) hp) = (xV k_So_summer C 64 L (.int (x - y) :: r) hp) := xVe _ _ _ _ _ _
theorem s_So_summer_64 (x0 : Nat) (x1 : Int32) (l : Launch) (d b lo gz n0 s0 : Nat) (Po : Option Value → xHp → Prop) (L r : List Value) (hp : xHp) : (xV k_So_summer (l, d + 1, b, lo, gz, n0, s0, m_So_summer, Po) 64 L (.int x1 :: .ref x0 :: r) hp) = (2 ≤ List.length (.int x1 :: .ref x0 :: r) ∧ xcs r 8 ∧ xMi l d b lo gz m_So_at [.ref x0, .int x1] hp (fun x hp' => xV k_So_summer (l, d + 1, b, lo, gz, n0, s0, m_So_summer, Po) 67 L (.int x :: r) hp')) := xVe _ _ _ _ _ _
theorem s_So_summer_67 (x y : Int32) (C : xCx) (L r : List Value) (hp : xHp) : (xV k_So_summer C 67 L (.int y :: .int x :: r) hp) = (xV k_So_summer C 68 L (.int (x - y) :: r) hp) := xVe _ _ _ _ _ _
theorem s_So_summer_68 (x y : Int32) (C : xCx) (L r : List Value) (hp : xHp) : (xV k_So_summer C 68 L (.int y :: .int x :: r) hp) = (xV k_So_summer C 69 L (.int (x + y) :: r) hp) := xVe _ _ _ _ _ _
theorem s_So_summer_69 (C : xCx) (r : List Value) (hp : xHp) (x : Int32) (a0 a1 a2 a3 a4 a5 a6 : Value) : (xV k_So_summer C 69 [a0, a1, a2, a3, a4, a5, a6] (.int x :: r) hp) = (3 < 7 ∧ xNl [a0, a1, a2, a3, a4, a5, a6] 3 ∧ xV k_So_summer C 70 [a0, a1, a2, .int x, a4, a5, a6] r hp) := xVe _ _ _ _ _ _
theorem s_So_summer_70 (C : xCx) (r : List Value) (hp : xHp) (x : Int32) (a0 a1 a2 a3 a4 a5 : Value) : (xV k_So_summer C 70 [a0, a1, a2, a3, a4, a5, .int x] r hp) = (xV k_So_summer C 72 [a0, a1, a2, a3, a4, a5, .int x] (.int x :: r) hp) := xVe _ _ _ _ _ _
theorem s_So_summer_72 (C : xCx) (r : List Value) (hp : xHp) (x : Int32) (a0 a1 a3 a4 a5 a6 : Value) : (xV k_So_summer C 72 [a0, a1, .int x, a3, a4, a5, a6] r hp) = (xV k_So_summer C 73 [a0, a1, .int x, a3, a4, a5, a6] (.int x :: r) hp) := xVe _ _ _ _ _ _
theorem s_So_summer_73  (C : xCx) (L r : List Value) (hp : xHp) : (xV k_So_summer C 73 L (r) hp) = (xV k_So_summer C 74 L (.int (1) :: r) hp) := xVe _ _ _ _ _ _
theorem s_So_summer_74 (x y : Int32) (C : xCx) (L r : List Value) (hp : xHp) : (xV k_So_summer C 74 L (.int y :: .int x :: r) hp) = (xV k_So_summer C 75 L (.int (x - y) :: r) hp) := xVe _ _ _ _ _ _
theorem s_So_summer_75 (x y : Int32) (C : xCx) (L r : List Value) (hp : xHp) : (xV k_So_summer C 75 L (.int y :: .int x :: r) hp) = (((x < y → xV k_So_summer C 95 L r hp) ∧ (¬ x < y → xV k_So_summer C 78 L r hp))) := xVe _ _ _ _ _ _
theorem s_So_summer_78 (C : xCx) (r : List Value) (hp : xHp) (x : Int32) (a0 a1 a2 a4 a5 a6 : Value) : (xV k_So_summer C 78 [a0, a1, a2, .int x, a4, a5, a6] r hp) = (xV k_So_summer C 79 [a0, a1, a2, .int x, a4, a5, a6] (.int x :: r) hp) := xVe _ _ _ _ _ _
theorem s_So_summer_79 (C : xCx) (r : List Value) (hp : xHp) (x : Int32) (a0 a1 a2 a3 a5 a6 : Value) : (xV k_So_summer C 79 [a0, a1, a2, a3, .int x, a5, a6] r hp) = (xV k_So_summer C 81 [a0, a1, a2, a3, .int x, a5, a6] (.int x :: r) hp) := xVe _ _ _ _ _ _
theorem s_So_summer_81 (x y : Int32) (C : xCx) (L r : List Value) (hp : xHp) : (xV k_So_summer C 81 L (.int y :: .int x :: r) hp) = (((x ≤ y → xV k_So_summer C 95 L r hp) ∧ (¬ x ≤ y → xV k_So_summer C 84 L r hp))) := xVe _ _ _ _ _ _
theorem s_So_summer_84 (C : xCx) (r : List Value) (hp : xHp) (x : Int32) (a0 a1 a2 a4 a5 a6 : Value) : (xV k_So_summer C 84 [a0, a1, a2, .int x, a4, a5, a6] r hp) = (xV k_So_summer C 85 [a0, a1, a2, .int x, a4, a5, a6] (.int x :: r) hp) := xVe _ _ _ _ _ _
theorem s_So_summer_85 (C : xCx) (r : List Value) (hp : xHp) (x : Int32) (a0 a1 a2 a3 a4 a5 a6 : Value) : (xV k_So_summer C 85 [a0, a1, a2, a3, a4, a5, a6] (.int x :: r) hp) = (4 < 7 ∧ xNl [a0, a1, a2, a3, a4, a5, a6] 4 ∧ xV k_So_summer C 87 [a0, a1, a2, a3, .int x, a5, a6] r hp) := xVe _ _ _ _ _ _
theorem s_So_summer_87 (C : xCx) (r : List Value) (hp : xHp) (x : Int32) (a0 a1 a2 a3 a4 a5 : Value) : (xV k_So_summer C 87 [a0, a1, a2, a3, a4, a5, .int x] r hp) = (xV k_So_summer C 89 [a0, a1, a2, a3, a4, a5, .int x] (.int x :: r) hp) := xVe _ _ _ _ _ _
theorem s_So_summer_89 (C : xCx) (r : List Value) (hp : xHp) (x : Int32) (a0 a1 a3 a4 a5 a6 : Value) : (xV k_So_summer C 89 [a0, a1, .int x, a3, a4, a5, a6] r hp) = (xV k_So_summer C 90 [a0, a1, .int x, a3, a4, a5, a6] (.int x :: r) hp) := xVe _ _ _ _ _ _
theorem s_So_summer_90 (x y : Int32) (C : xCx) (L r : List Value) (hp : xHp) : (xV k_So_summer C 90 L (.int y :: .int x :: r) hp) = (xV k_So_summer C 91 L (.int (x - y) :: r) hp) := xVe _ _ _ _ _ _
theorem s_So_summer_91  (C : xCx) (L r : List Value) (hp : xHp) : (xV k_So_summer C 91 L (r) hp) = (xV k_So_summer C 92 L (.int (1) :: r) hp) := xVe _ _ _ _ _ _
theorem s_So_summer_92 (x y : Int32) (C : xCx) (L r : List Value) (hp : xHp) : (xV k_So_summer C 92 L (.int y :: .int x :: r) hp) = (xV k_So_summer C 93 L (.int (x + y) :: r) hp) := xVe _ _ _ _ _ _
theorem s_So_summer_93 (C : xCx) (r : List Value) (hp : xHp) (x : Int32) (a0 a1 a2 a3 a4 a5 a6 : Value) : (xV k_So_summer C 93 [a0, a1, a2, a3, a4, a5, a6] (.int x :: r) hp) = (5 < 7 ∧ xNl [a0, a1, a2, a3, a4, a5, a6] 5 ∧ xV k_So_summer C 95 [a0, a1, a2, a3, a4, .int x, a6] r hp) := xVe _ _ _ _ _ _
theorem s_So_summer_95 (C : xCx) (r : List Value) (hp : xHp) (x : Int32) (a0 a1 a2 a3 a4 a5 : Value) : (xV k_So_summer C 95 [a0, a1, a2, a3, a4, a5, .int x] r hp) = (xNl [a0, a1, a2, a3, a4, a5, .int x] 6 ∧ xV k_So_summer C 98 [a0, a1, a2, a3, a4, a5, .int (x + (1))] r hp) := xVe _ _ _ _ _ _
theorem s_So_summer_98 (C : xCx) (L r : List Value) (hp : xHp) : (xV k_So_summer C 98 L r hp) = (xV k_So_summer C 39 L r hp) := xVe _ _ _ _ _ _
theorem s_So_summer_101 (C : xCx) (r : List Value) (hp : xHp) (x : Nat) (a1 a2 a3 a4 a5 a6 : Value) : (xV k_So_summer C 101 [.ref x, a1, a2, a3, a4, a5, a6] r hp) = (True ∧ xV k_So_summer C 102 [.ref x, a1, a2, a3, a4, a5, a6] (.ref x :: r) hp) := xVe _ _ _ _ _ _
theorem s_So_summer_102 (a : Nat) (C : xCx) (L r : List Value) (hp : xHp) : (xV k_So_summer C 102 L (.ref a :: r) hp) = (xF hp a 0 1 (fun v => xV k_So_summer C 105 L (v :: r) hp)) := xVe _ _ _ _ _ _
theorem s_So_summer_105 (C : xCx) (r : List Value) (hp : xHp) (x : Int32) (a0 a1 a2 a3 a4 a6 : Value) : (xV k_So_summer C 105 [a0, a1, a2, a3, a4, .int x, a6] r hp) = (xV k_So_summer C 107 [a0, a1, a2, a3, a4, .int x, a6] (.int x :: r) hp) := xVe _ _ _ _ _ _
theorem s_So_summer_107 (x : Int32) (C : xCx) (L r : List Value) (hp : xHp) : (xV k_So_summer C 107 L (.int x :: r) hp) = (xV k_So_summer C 108 L (.long x.toInt64 :: r) hp) := xVe _ _ _ _ _ _
theorem s_So_summer_108 (x0 : Int64) (a : Nat) (l : Launch) (d b lo gz n0 s0 : Nat) (Po : Option Value → xHp → Prop) (L r : List Value) (hp : xHp) : (xV k_So_summer (l, d + 1, b, lo, gz, n0, s0, m_So_summer, Po) 108 L (.long x0 :: .ref a :: r) hp) = (xO hp a 7 ∧ xcs r 8 ∧ xMv l d b lo gz m_Row_tell1 [.ref a, .long x0] hp (fun hp' => xV k_So_summer (l, d + 1, b, lo, gz, n0, s0, m_So_summer, Po) 111 L r hp')) := xVe _ _ _ _ _ _
theorem s_So_summer_111 (C : xCx) (r : List Value) (hp : xHp) (x : Int32) (a0 a1 a2 a3 a5 a6 : Value) : (xV k_So_summer C 111 [a0, a1, a2, a3, .int x, a5, a6] r hp) = (xV k_So_summer C 113 [a0, a1, a2, a3, .int x, a5, a6] (.int x :: r) hp) := xVe _ _ _ _ _ _
theorem s_So_summer_113 (v : Int32) (l : Launch) (d b lo gz n0 s0 : Nat) (Po : Option Value → xHp → Prop) (L : List Value) (hp : xHp) : (xV k_So_summer (l, d, b, lo, gz, n0, s0, m_So_summer, Po) 113 L [.int v] hp) = (Po (some (.int v)) hp) := xVe _ _ _ _ _ _
theorem ml_So_312 : xLk "SunnyOnes" 312 m_So_put := Or.inl (wg4 35 (by decide +kernel) rfl)
def k_So_tallyHours : List xEC := [
  (0, .aload_n 0, 1, 0, 0, 0, m_x),
  (1, .getfield 58, 4, 0, 7, 0, m_x),
  (4, .aload_n 0, 5, 0, 0, 0, m_x),
  (5, .getfield 54, 8, 0, 6, 0, m_x),
  (8, .invokevirtual 215, 11, 3, 0, 0, m_Folk_copyFrom),
  (11, .iconst 0, 12, 0, 0, 0, m_x),
  (12, .istore_n 3, 13, 0, 0, 0, m_x),
  (13, .iload_n 3, 14, 0, 0, 0, m_x),
  (14, .iload_n 2, 15, 0, 0, 0, m_x),
  (15, .if_icmp .ge 29, 18, 0, 44, 0, m_x),
  (18, .aload_n 0, 19, 0, 0, 0, m_x),
  (19, .getfield 110, 22, 0, 15, 0, m_x),
  (22, .iload_n 3, 23, 0, 0, 0, m_x),
  (23, .aload_n 0, 24, 0, 0, 0, m_x),
  (24, .getfield 47, 27, 0, 5, 0, m_x),
  (27, .aload_n 0, 28, 0, 0, 0, m_x),
  (28, .getfield 58, 31, 0, 7, 0, m_x),
  (31, .iload_n 1, 32, 0, 0, 0, m_x),
  (32, .invokevirtual 290, 35, 9, 0, 0, m_Sun_dayFor),
  (35, .invokestatic 312, 38, 0, 0, 0, m_So_put),
  (38, .iinc 3 1, 41, 0, 0, 0, m_x),
  (41, .goto (-28), 44, 0, 13, 0, m_x),
  (44, .return_, 45, 0, 0, 0, m_x)]
theorem dc_So_tallyHours : ∀ E ∈ k_So_tallyHours, xDc m_So_tallyHours E := by decide +kernel
set_option maxRecDepth 20000 in
theorem ok_So_tallyHours : ∀ E ∈ k_So_tallyHours, xOk m_So_tallyHours E := xok_of dc_So_tallyHours (xfc trivial (xfc fl_So_58 (xfc trivial (xfc fl_So_54 (xfc ⟨ml_So_215, kd_Folk_copyFrom⟩ (xfc trivial (xfc trivial (xfc trivial (xfc trivial (xfc (show ((15 : Nat) : Int) + (29) = ((44 : Nat) : Int) from by decide) (xfc trivial (xfc fl_So_110 (xfc trivial (xfc trivial (xfc fl_So_47 (xfc trivial (xfc fl_So_58 (xfc trivial (xfc ⟨ml_So_290, kd_Sun_dayFor⟩ (xfc ⟨ml_So_312, kd_So_put⟩ (xfc trivial (xfc (show ((41 : Nat) : Int) + (-28) = ((13 : Nat) : Int) from by decide) (xfc trivial (xfn))))))))))))))))))))))))
theorem s_So_tallyHours_0 (C : xCx) (r : List Value) (hp : xHp) (x : Nat) (a1 a2 a3 : Value) : (xV k_So_tallyHours C 0 [.ref x, a1, a2, a3] r hp) = (True ∧ xV k_So_tallyHours C 1 [.ref x, a1, a2, a3] (.ref x :: r) hp) := xVe _ _ _ _ _ _
theorem s_So_tallyHours_1 (a : Nat) (C : xCx) (L r : List Value) (hp : xHp) : (xV k_So_tallyHours C 1 L (.ref a :: r) hp) = (xF hp a 0 7 (fun v => xV k_So_tallyHours C 4 L (v :: r) hp)) := xVe _ _ _ _ _ _
theorem s_So_tallyHours_4 (C : xCx) (r : List Value) (hp : xHp) (x : Nat) (a1 a2 a3 : Value) : (xV k_So_tallyHours C 4 [.ref x, a1, a2, a3] r hp) = (True ∧ xV k_So_tallyHours C 5 [.ref x, a1, a2, a3] (.ref x :: r) hp) := xVe _ _ _ _ _ _
theorem s_So_tallyHours_5 (a : Nat) (C : xCx) (L r : List Value) (hp : xHp) : (xV k_So_tallyHours C 5 L (.ref a :: r) hp) = (xF hp a 0 6 (fun v => xV k_So_tallyHours C 8 L (v :: r) hp)) := xVe _ _ _ _ _ _
theorem s_So_tallyHours_8 (x0 : Nat) (a : Nat) (l : Launch) (d b lo gz n0 s0 : Nat) (Po : Option Value → xHp → Prop) (L r : List Value) (hp : xHp) : (xV k_So_tallyHours (l, d + 1, b, lo, gz, n0, s0, m_So_tallyHours, Po) 8 L (.ref x0 :: .ref a :: r) hp) = (xO hp a 3 ∧ xcs r 8 ∧ xMv l d b lo gz m_Folk_copyFrom [.ref a, .ref x0] hp (fun hp' => xV k_So_tallyHours (l, d + 1, b, lo, gz, n0, s0, m_So_tallyHours, Po) 11 L r hp')) := xVe _ _ _ _ _ _
theorem s_So_tallyHours_11  (C : xCx) (L r : List Value) (hp : xHp) : (xV k_So_tallyHours C 11 L (r) hp) = (xV k_So_tallyHours C 12 L (.int (0) :: r) hp) := xVe _ _ _ _ _ _
theorem s_So_tallyHours_12 (C : xCx) (r : List Value) (hp : xHp) (x : Int32) (a0 a1 a2 a3 : Value) : (xV k_So_tallyHours C 12 [a0, a1, a2, a3] (.int x :: r) hp) = (3 < 4 ∧ xNl [a0, a1, a2, a3] 3 ∧ xV k_So_tallyHours C 13 [a0, a1, a2, .int x] r hp) := xVe _ _ _ _ _ _
theorem s_So_tallyHours_13 (C : xCx) (r : List Value) (hp : xHp) (x : Int32) (a0 a1 a2 : Value) : (xV k_So_tallyHours C 13 [a0, a1, a2, .int x] r hp) = (xV k_So_tallyHours C 14 [a0, a1, a2, .int x] (.int x :: r) hp) := xVe _ _ _ _ _ _
theorem s_So_tallyHours_14 (C : xCx) (r : List Value) (hp : xHp) (x : Int32) (a0 a1 a3 : Value) : (xV k_So_tallyHours C 14 [a0, a1, .int x, a3] r hp) = (xV k_So_tallyHours C 15 [a0, a1, .int x, a3] (.int x :: r) hp) := xVe _ _ _ _ _ _
theorem s_So_tallyHours_15 (x y : Int32) (C : xCx) (L r : List Value) (hp : xHp) : (xV k_So_tallyHours C 15 L (.int y :: .int x :: r) hp) = (((y ≤ x → xV k_So_tallyHours C 44 L r hp) ∧ (¬ y ≤ x → xV k_So_tallyHours C 18 L r hp))) := xVe _ _ _ _ _ _
theorem s_So_tallyHours_18 (C : xCx) (r : List Value) (hp : xHp) (x : Nat) (a1 a2 a3 : Value) : (xV k_So_tallyHours C 18 [.ref x, a1, a2, a3] r hp) = (True ∧ xV k_So_tallyHours C 19 [.ref x, a1, a2, a3] (.ref x :: r) hp) := xVe _ _ _ _ _ _
theorem s_So_tallyHours_19 (a : Nat) (C : xCx) (L r : List Value) (hp : xHp) : (xV k_So_tallyHours C 19 L (.ref a :: r) hp) = (xF hp a 0 15 (fun v => xV k_So_tallyHours C 22 L (v :: r) hp)) := xVe _ _ _ _ _ _
theorem s_So_tallyHours_22 (C : xCx) (r : List Value) (hp : xHp) (x : Int32) (a0 a1 a2 : Value) : (xV k_So_tallyHours C 22 [a0, a1, a2, .int x] r hp) = (xV k_So_tallyHours C 23 [a0, a1, a2, .int x] (.int x :: r) hp) := xVe _ _ _ _ _ _
theorem s_So_tallyHours_23 (C : xCx) (r : List Value) (hp : xHp) (x : Nat) (a1 a2 a3 : Value) : (xV k_So_tallyHours C 23 [.ref x, a1, a2, a3] r hp) = (True ∧ xV k_So_tallyHours C 24 [.ref x, a1, a2, a3] (.ref x :: r) hp) := xVe _ _ _ _ _ _
theorem s_So_tallyHours_24 (a : Nat) (C : xCx) (L r : List Value) (hp : xHp) : (xV k_So_tallyHours C 24 L (.ref a :: r) hp) = (xF hp a 0 5 (fun v => xV k_So_tallyHours C 27 L (v :: r) hp)) := xVe _ _ _ _ _ _
theorem s_So_tallyHours_27 (C : xCx) (r : List Value) (hp : xHp) (x : Nat) (a1 a2 a3 : Value) : (xV k_So_tallyHours C 27 [.ref x, a1, a2, a3] r hp) = (True ∧ xV k_So_tallyHours C 28 [.ref x, a1, a2, a3] (.ref x :: r) hp) := xVe _ _ _ _ _ _
theorem s_So_tallyHours_28 (a : Nat) (C : xCx) (L r : List Value) (hp : xHp) : (xV k_So_tallyHours C 28 L (.ref a :: r) hp) = (xF hp a 0 7 (fun v => xV k_So_tallyHours C 31 L (v :: r) hp)) := xVe _ _ _ _ _ _
theorem s_So_tallyHours_31 (C : xCx) (r : List Value) (hp : xHp) (x : Int32) (a0 a2 a3 : Value) : (xV k_So_tallyHours C 31 [a0, .int x, a2, a3] r hp) = (xV k_So_tallyHours C 32 [a0, .int x, a2, a3] (.int x :: r) hp) := xVe _ _ _ _ _ _
theorem s_So_tallyHours_32 (x0 : Nat) (x1 : Int32) (a : Nat) (l : Launch) (d b lo gz n0 s0 : Nat) (Po : Option Value → xHp → Prop) (L r : List Value) (hp : xHp) : (xV k_So_tallyHours (l, d + 1, b, lo, gz, n0, s0, m_So_tallyHours, Po) 32 L (.int x1 :: .ref x0 :: .ref a :: r) hp) = (xO hp a 9 ∧ xcs r 8 ∧ xMi l d b lo gz m_Sun_dayFor [.ref a, .ref x0, .int x1] hp (fun x hp' => xV k_So_tallyHours (l, d + 1, b, lo, gz, n0, s0, m_So_tallyHours, Po) 35 L (.int x :: r) hp')) := xVe _ _ _ _ _ _
theorem s_So_tallyHours_35 (x0 : Nat) (x1 : Int32) (x2 : Int32) (l : Launch) (d b lo gz n0 s0 : Nat) (Po : Option Value → xHp → Prop) (L r : List Value) (hp : xHp) : (xV k_So_tallyHours (l, d + 1, b, lo, gz, n0, s0, m_So_tallyHours, Po) 35 L (.int x2 :: .int x1 :: .ref x0 :: r) hp) = (3 ≤ List.length (.int x2 :: .int x1 :: .ref x0 :: r) ∧ xcs r 8 ∧ xMv l d b lo gz m_So_put [.ref x0, .int x1, .int x2] hp (fun hp' => xV k_So_tallyHours (l, d + 1, b, lo, gz, n0, s0, m_So_tallyHours, Po) 38 L r hp')) := xVe _ _ _ _ _ _
theorem s_So_tallyHours_38 (C : xCx) (r : List Value) (hp : xHp) (x : Int32) (a0 a1 a2 : Value) : (xV k_So_tallyHours C 38 [a0, a1, a2, .int x] r hp) = (xNl [a0, a1, a2, .int x] 3 ∧ xV k_So_tallyHours C 41 [a0, a1, a2, .int (x + (1))] r hp) := xVe _ _ _ _ _ _
theorem s_So_tallyHours_41 (C : xCx) (L r : List Value) (hp : xHp) : (xV k_So_tallyHours C 41 L r hp) = (xV k_So_tallyHours C 13 L r hp) := xVe _ _ _ _ _ _
theorem s_So_tallyHours_44 (l : Launch) (d b lo gz n0 s0 : Nat) (Po : Option Value → xHp → Prop) (L : List Value) (hp : xHp) : (xV k_So_tallyHours (l, d, b, lo, gz, n0, s0, m_So_tallyHours, Po) 44 L [] hp) = (Po (none) hp) := xVe _ _ _ _ _ _
def k_So_nights : List xEC := [
  (0, .aload_n 0, 1, 0, 0, 0, m_x),
  (1, .iload_n 1, 2, 0, 0, 0, m_x),
  (2, .invokevirtual 179, 5, 0, 0, 0, m_So_has),
  (5, .ifCond .eq 14, 8, 0, 19, 0, m_x),
  (8, .iload_n 2, 9, 0, 0, 0, m_x),
  (9, .iconst 1, 10, 0, 0, 0, m_x),
  (10, .if_icmp .lt 9, 13, 0, 19, 0, m_x),
  (13, .iload_n 2, 14, 0, 0, 0, m_x),
  (14, .bipush 99, 16, 0, 0, 0, m_x),
  (16, .if_icmp .le 5, 19, 0, 21, 0, m_x),
  (19, .iconst (-1), 20, 0, 0, 0, m_x),
  (20, .ireturn, 21, 0, 0, 0, m_x),
  (21, .aload_n 0, 22, 0, 0, 0, m_x),
  (22, .iload_n 1, 23, 0, 0, 0, m_x),
  (23, .iload_n 2, 24, 0, 0, 0, m_x),
  (24, .invokevirtual 306, 27, 0, 0, 0, m_So_tallyHours),
  (27, .iconst 0, 28, 0, 0, 0, m_x),
  (28, .istore_n 3, 29, 0, 0, 0, m_x),
  (29, .iconst 0, 30, 0, 0, 0, m_x),
  (30, .istore 4, 32, 0, 0, 0, m_x),
  (32, .iconst 0, 33, 0, 0, 0, m_x),
  (33, .istore 5, 35, 0, 0, 0, m_x),
  (35, .iconst 0, 36, 0, 0, 0, m_x),
  (36, .istore 6, 38, 0, 0, 0, m_x),
  (38, .iconst 0, 39, 0, 0, 0, m_x),
  (39, .istore 7, 41, 0, 0, 0, m_x),
  (41, .iload 7, 43, 0, 0, 0, m_x),
  (43, .iload_n 2, 44, 0, 0, 0, m_x),
  (44, .if_icmp .ge 76, 47, 0, 120, 0, m_x),
  (47, .aload_n 0, 48, 0, 0, 0, m_x),
  (48, .getfield 110, 51, 0, 15, 0, m_x),
  (51, .iload 7, 53, 0, 0, 0, m_x),
  (53, .invokestatic 309, 56, 0, 0, 0, m_So_at),
  (56, .ifCond .ne 7, 59, 0, 63, 0, m_x),
  (59, .iconst 1, 60, 0, 0, 0, m_x),
  (60, .goto 4, 63, 0, 64, 0, m_x),
  (63, .iconst 0, 64, 0, 0, 0, m_x),
  (64, .istore 8, 66, 0, 0, 0, m_x),
  (66, .iload 8, 68, 0, 0, 0, m_x),
  (68, .ifCond .eq 10, 71, 0, 78, 0, m_x),
  (71, .iload 4, 73, 0, 0, 0, m_x),
  (73, .iconst 1, 74, 0, 0, 0, m_x),
  (74, .iadd, 75, 0, 0, 0, m_x),
  (75, .goto 4, 78, 0, 79, 0, m_x),
  (78, .iconst 0, 79, 0, 0, 0, m_x),
  (79, .istore 4, 81, 0, 0, 0, m_x),
  (81, .iload_n 3, 82, 0, 0, 0, m_x),
  (82, .iload 8, 84, 0, 0, 0, m_x),
  (84, .ifCond .eq 7, 87, 0, 91, 0, m_x),
  (87, .iconst 1, 88, 0, 0, 0, m_x),
  (88, .goto 4, 91, 0, 92, 0, m_x),
  (91, .iconst 0, 92, 0, 0, 0, m_x),
  (92, .iadd, 93, 0, 0, 0, m_x),
  (93, .istore_n 3, 94, 0, 0, 0, m_x),
  (94, .iload 4, 96, 0, 0, 0, m_x),
  (96, .iload 5, 98, 0, 0, 0, m_x),
  (98, .if_icmp .le 16, 101, 0, 114, 0, m_x),
  (101, .iload 4, 103, 0, 0, 0, m_x),
  (103, .istore 5, 105, 0, 0, 0, m_x),
  (105, .iload 7, 107, 0, 0, 0, m_x),
  (107, .iload 4, 109, 0, 0, 0, m_x),
  (109, .isub, 110, 0, 0, 0, m_x),
  (110, .iconst 1, 111, 0, 0, 0, m_x),
  (111, .iadd, 112, 0, 0, 0, m_x),
  (112, .istore 6, 114, 0, 0, 0, m_x),
  (114, .iinc 7 1, 117, 0, 0, 0, m_x),
  (117, .goto (-76), 120, 0, 41, 0, m_x),
  (120, .aload_n 0, 121, 0, 0, 0, m_x),
  (121, .getfield 19, 124, 0, 1, 0, m_x),
  (124, .iload 5, 126, 0, 0, 0, m_x),
  (126, .i2l, 127, 0, 0, 0, m_x),
  (127, .iload 6, 129, 0, 0, 0, m_x),
  (129, .i2l, 130, 0, 0, 0, m_x),
  (130, .invokevirtual 225, 133, 7, 0, 0, m_Row_tell2),
  (133, .iload_n 3, 134, 0, 0, 0, m_x),
  (134, .ireturn, 135, 0, 0, 0, m_x)]
theorem dc_So_nights : ∀ E ∈ k_So_nights, xDc m_So_nights E := by decide +kernel
set_option maxRecDepth 20000 in
theorem ok_So_nights : ∀ E ∈ k_So_nights, xOk m_So_nights E := xok_of dc_So_nights (xfc trivial (xfc trivial (xfc ⟨ml_So_179, kd_So_has⟩ (xfc (show ((5 : Nat) : Int) + (14) = ((19 : Nat) : Int) from by decide) (xfc trivial (xfc trivial (xfc (show ((10 : Nat) : Int) + (9) = ((19 : Nat) : Int) from by decide) (xfc trivial (xfc trivial (xfc (show ((16 : Nat) : Int) + (5) = ((21 : Nat) : Int) from by decide) (xfc trivial (xfc trivial (xfc trivial (xfc trivial (xfc trivial (xfc ⟨ml_So_306, kd_So_tallyHours⟩ (xfc trivial (xfc trivial (xfc trivial (xfc trivial (xfc trivial (xfc trivial (xfc trivial (xfc trivial (xfc trivial (xfc trivial (xfc trivial (xfc trivial (xfc (show ((44 : Nat) : Int) + (76) = ((120 : Nat) : Int) from by decide) (xfc trivial (xfc fl_So_110 (xfc trivial (xfc ⟨ml_So_309, kd_So_at⟩ (xfc (show ((56 : Nat) : Int) + (7) = ((63 : Nat) : Int) from by decide) (xfc trivial (xfc (show ((60 : Nat) : Int) + (4) = ((64 : Nat) : Int) from by decide) (xfc trivial (xfc trivial (xfc trivial (xfc (show ((68 : Nat) : Int) + (10) = ((78 : Nat) : Int) from by decide) (xfc trivial (xfc trivial (xfc trivial (xfc (show ((75 : Nat) : Int) + (4) = ((79 : Nat) : Int) from by decide) (xfc trivial (xfc trivial (xfc trivial (xfc trivial (xfc (show ((84 : Nat) : Int) + (7) = ((91 : Nat) : Int) from by decide) (xfc trivial (xfc (show ((88 : Nat) : Int) + (4) = ((92 : Nat) : Int) from by decide) (xfc trivial (xfc trivial (xfc trivial (xfc trivial (xfc trivial (xfc (show ((98 : Nat) : Int) + (16) = ((114 : Nat) : Int) from by decide) (xfc trivial (xfc trivial (xfc trivial (xfc trivial (xfc trivial (xfc trivial (xfc trivial (xfc trivial (xfc trivial (xfc (show ((117 : Nat) : Int) + (-76) = ((41 : Nat) : Int) from by decide) (xfc trivial (xfc fl_So_19 (xfc trivial (xfc trivial (xfc trivial (xfc trivial (xfc ⟨ml_So_225, kd_Row_tell2⟩ (xfc trivial (xfc trivial (xfn)))))))))))))))))))))))))))))))))))))))))))))))))))))))))))))))))))))))))))))
theorem s_So_nights_0 (C : xCx) (r : List Value) (hp : xHp) (x : Nat) (a1 a2 a3 a4 a5 a6 a7 a8 : Value) : (xV k_So_nights C 0 [.ref x, a1, a2, a3, a4, a5, a6, a7, a8] r hp) = (True ∧ xV k_So_nights C 1 [.ref x, a1, a2, a3, a4, a5, a6, a7, a8] (.ref x :: r) hp) := xVe _ _ _ _ _ _
theorem s_So_nights_1 (C : xCx) (r : List Value) (hp : xHp) (x : Int32) (a0 a2 a3 a4 a5 a6 a7 a8 : Value) : (xV k_So_nights C 1 [a0, .int x, a2, a3, a4, a5, a6, a7, a8] r hp) = (xV k_So_nights C 2 [a0, .int x, a2, a3, a4, a5, a6, a7, a8] (.int x :: r) hp) := xVe _ _ _ _ _ _
theorem s_So_nights_2 (x0 : Int32) (a : Nat) (l : Launch) (d b lo gz n0 s0 : Nat) (Po : Option Value → xHp → Prop) (L r : List Value) (hp : xHp) : (xV k_So_nights (l, d + 1, b, lo, gz, n0, s0, m_So_nights, Po) 2 L (.int x0 :: .ref a :: r) hp) = (xO hp a 0 ∧ xcs r 8 ∧ xMi l d b lo gz m_So_has [.ref a, .int x0] hp (fun x hp' => xV k_So_nights (l, d + 1, b, lo, gz, n0, s0, m_So_nights, Po) 5 L (.int x :: r) hp')) := xVe _ _ _ _ _ _
theorem s_So_nights_5 (x : Int32) (C : xCx) (L r : List Value) (hp : xHp) : (xV k_So_nights C 5 L (.int x :: r) hp) = (((x = 0 → xV k_So_nights C 19 L r hp) ∧ (¬ x = 0 → xV k_So_nights C 8 L r hp))) := xVe _ _ _ _ _ _
theorem s_So_nights_8 (C : xCx) (r : List Value) (hp : xHp) (x : Int32) (a0 a1 a3 a4 a5 a6 a7 a8 : Value) : (xV k_So_nights C 8 [a0, a1, .int x, a3, a4, a5, a6, a7, a8] r hp) = (xV k_So_nights C 9 [a0, a1, .int x, a3, a4, a5, a6, a7, a8] (.int x :: r) hp) := xVe _ _ _ _ _ _
theorem s_So_nights_9  (C : xCx) (L r : List Value) (hp : xHp) : (xV k_So_nights C 9 L (r) hp) = (xV k_So_nights C 10 L (.int (1) :: r) hp) := xVe _ _ _ _ _ _
theorem s_So_nights_10 (x y : Int32) (C : xCx) (L r : List Value) (hp : xHp) : (xV k_So_nights C 10 L (.int y :: .int x :: r) hp) = (((x < y → xV k_So_nights C 19 L r hp) ∧ (¬ x < y → xV k_So_nights C 13 L r hp))) := xVe _ _ _ _ _ _
theorem s_So_nights_13 (C : xCx) (r : List Value) (hp : xHp) (x : Int32) (a0 a1 a3 a4 a5 a6 a7 a8 : Value) : (xV k_So_nights C 13 [a0, a1, .int x, a3, a4, a5, a6, a7, a8] r hp) = (xV k_So_nights C 14 [a0, a1, .int x, a3, a4, a5, a6, a7, a8] (.int x :: r) hp) := xVe _ _ _ _ _ _
theorem s_So_nights_14  (C : xCx) (L r : List Value) (hp : xHp) : (xV k_So_nights C 14 L (r) hp) = (xV k_So_nights C 16 L (.int (99) :: r) hp) := xVe _ _ _ _ _ _
theorem s_So_nights_16 (x y : Int32) (C : xCx) (L r : List Value) (hp : xHp) : (xV k_So_nights C 16 L (.int y :: .int x :: r) hp) = (((x ≤ y → xV k_So_nights C 21 L r hp) ∧ (¬ x ≤ y → xV k_So_nights C 19 L r hp))) := xVe _ _ _ _ _ _
theorem s_So_nights_19  (C : xCx) (L r : List Value) (hp : xHp) : (xV k_So_nights C 19 L (r) hp) = (xV k_So_nights C 20 L (.int (-1) :: r) hp) := xVe _ _ _ _ _ _
theorem s_So_nights_20 (v : Int32) (l : Launch) (d b lo gz n0 s0 : Nat) (Po : Option Value → xHp → Prop) (L : List Value) (hp : xHp) : (xV k_So_nights (l, d, b, lo, gz, n0, s0, m_So_nights, Po) 20 L [.int v] hp) = (Po (some (.int v)) hp) := xVe _ _ _ _ _ _
theorem s_So_nights_21 (C : xCx) (r : List Value) (hp : xHp) (x : Nat) (a1 a2 a3 a4 a5 a6 a7 a8 : Value) : (xV k_So_nights C 21 [.ref x, a1, a2, a3, a4, a5, a6, a7, a8] r hp) = (True ∧ xV k_So_nights C 22 [.ref x, a1, a2, a3, a4, a5, a6, a7, a8] (.ref x :: r) hp) := xVe _ _ _ _ _ _
theorem s_So_nights_22 (C : xCx) (r : List Value) (hp : xHp) (x : Int32) (a0 a2 a3 a4 a5 a6 a7 a8 : Value) : (xV k_So_nights C 22 [a0, .int x, a2, a3, a4, a5, a6, a7, a8] r hp) = (xV k_So_nights C 23 [a0, .int x, a2, a3, a4, a5, a6, a7, a8] (.int x :: r) hp) := xVe _ _ _ _ _ _
theorem s_So_nights_23 (C : xCx) (r : List Value) (hp : xHp) (x : Int32) (a0 a1 a3 a4 a5 a6 a7 a8 : Value) : (xV k_So_nights C 23 [a0, a1, .int x, a3, a4, a5, a6, a7, a8] r hp) = (xV k_So_nights C 24 [a0, a1, .int x, a3, a4, a5, a6, a7, a8] (.int x :: r) hp) := xVe _ _ _ _ _ _
theorem s_So_nights_24 (x0 : Int32) (x1 : Int32) (a : Nat) (l : Launch) (d b lo gz n0 s0 : Nat) (Po : Option Value → xHp → Prop) (L r : List Value) (hp : xHp) : (xV k_So_nights (l, d + 1, b, lo, gz, n0, s0, m_So_nights, Po) 24 L (.int x1 :: .int x0 :: .ref a :: r) hp) = (xO hp a 0 ∧ xcs r 8 ∧ xMv l d b lo gz m_So_tallyHours [.ref a, .int x0, .int x1] hp (fun hp' => xV k_So_nights (l, d + 1, b, lo, gz, n0, s0, m_So_nights, Po) 27 L r hp')) := xVe _ _ _ _ _ _
theorem s_So_nights_27  (C : xCx) (L r : List Value) (hp : xHp) : (xV k_So_nights C 27 L (r) hp) = (xV k_So_nights C 28 L (.int (0) :: r) hp) := xVe _ _ _ _ _ _
theorem s_So_nights_28 (C : xCx) (r : List Value) (hp : xHp) (x : Int32) (a0 a1 a2 a3 a4 a5 a6 a7 a8 : Value) : (xV k_So_nights C 28 [a0, a1, a2, a3, a4, a5, a6, a7, a8] (.int x :: r) hp) = (3 < 9 ∧ xNl [a0, a1, a2, a3, a4, a5, a6, a7, a8] 3 ∧ xV k_So_nights C 29 [a0, a1, a2, .int x, a4, a5, a6, a7, a8] r hp) := xVe _ _ _ _ _ _
theorem s_So_nights_29  (C : xCx) (L r : List Value) (hp : xHp) : (xV k_So_nights C 29 L (r) hp) = (xV k_So_nights C 30 L (.int (0) :: r) hp) := xVe _ _ _ _ _ _
theorem s_So_nights_30 (C : xCx) (r : List Value) (hp : xHp) (x : Int32) (a0 a1 a2 a3 a4 a5 a6 a7 a8 : Value) : (xV k_So_nights C 30 [a0, a1, a2, a3, a4, a5, a6, a7, a8] (.int x :: r) hp) = (4 < 9 ∧ xNl [a0, a1, a2, a3, a4, a5, a6, a7, a8] 4 ∧ xV k_So_nights C 32 [a0, a1, a2, a3, .int x, a5, a6, a7, a8] r hp) := xVe _ _ _ _ _ _
theorem s_So_nights_32  (C : xCx) (L r : List Value) (hp : xHp) : (xV k_So_nights C 32 L (r) hp) = (xV k_So_nights C 33 L (.int (0) :: r) hp) := xVe _ _ _ _ _ _
theorem s_So_nights_33 (C : xCx) (r : List Value) (hp : xHp) (x : Int32) (a0 a1 a2 a3 a4 a5 a6 a7 a8 : Value) : (xV k_So_nights C 33 [a0, a1, a2, a3, a4, a5, a6, a7, a8] (.int x :: r) hp) = (5 < 9 ∧ xNl [a0, a1, a2, a3, a4, a5, a6, a7, a8] 5 ∧ xV k_So_nights C 35 [a0, a1, a2, a3, a4, .int x, a6, a7, a8] r hp) := xVe _ _ _ _ _ _
theorem s_So_nights_35  (C : xCx) (L r : List Value) (hp : xHp) : (xV k_So_nights C 35 L (r) hp) = (xV k_So_nights C 36 L (.int (0) :: r) hp) := xVe _ _ _ _ _ _
theorem s_So_nights_36 (C : xCx) (r : List Value) (hp : xHp) (x : Int32) (a0 a1 a2 a3 a4 a5 a6 a7 a8 : Value) : (xV k_So_nights C 36 [a0, a1, a2, a3, a4, a5, a6, a7, a8] (.int x :: r) hp) = (6 < 9 ∧ xNl [a0, a1, a2, a3, a4, a5, a6, a7, a8] 6 ∧ xV k_So_nights C 38 [a0, a1, a2, a3, a4, a5, .int x, a7, a8] r hp) := xVe _ _ _ _ _ _
theorem s_So_nights_38  (C : xCx) (L r : List Value) (hp : xHp) : (xV k_So_nights C 38 L (r) hp) = (xV k_So_nights C 39 L (.int (0) :: r) hp) := xVe _ _ _ _ _ _
theorem s_So_nights_39 (C : xCx) (r : List Value) (hp : xHp) (x : Int32) (a0 a1 a2 a3 a4 a5 a6 a7 a8 : Value) : (xV k_So_nights C 39 [a0, a1, a2, a3, a4, a5, a6, a7, a8] (.int x :: r) hp) = (7 < 9 ∧ xNl [a0, a1, a2, a3, a4, a5, a6, a7, a8] 7 ∧ xV k_So_nights C 41 [a0, a1, a2, a3, a4, a5, a6, .int x, a8] r hp) := xVe _ _ _ _ _ _
theorem s_So_nights_41 (C : xCx) (r : List Value) (hp : xHp) (x : Int32) (a0 a1 a2 a3 a4 a5 a6 a8 : Value) : (xV k_So_nights C 41 [a0, a1, a2, a3, a4, a5, a6, .int x, a8] r hp) = (xV k_So_nights C 43 [a0, a1, a2, a3, a4, a5, a6, .int x, a8] (.int x :: r) hp) := xVe _ _ _ _ _ _
theorem s_So_nights_43 (C : xCx) (r : List Value) (hp : xHp) (x : Int32) (a0 a1 a3 a4 a5 a6 a7 a8 : Value) : (xV k_So_nights C 43 [a0, a1, .int x, a3, a4, a5, a6, a7, a8] r hp) = (xV k_So_nights C 44 [a0, a1, .int x, a3, a4, a5, a6, a7, a8] (.int x :: r) hp) := xVe _ _ _ _ _ _
theorem s_So_nights_44 (x y : Int32) (C : xCx) (L r : List Value) (hp : xHp) : (xV k_So_nights C 44 L (.int y :: .int x :: r) hp) = (((y ≤ x → xV k_So_nights C 120 L r hp) ∧ (¬ y ≤ x → xV k_So_nights C 47 L r hp))) := xVe _ _ _ _ _ _
theorem s_So_nights_47 (C : xCx) (r : List Value) (hp : xHp) (x : Nat) (a1 a2 a3 a4 a5 a6 a7 a8 : Value) : (xV k_So_nights C 47 [.ref x, a1, a2, a3, a4, a5, a6, a7, a8] r hp) = (True ∧ xV k_So_nights C 48 [.ref x, a1, a2, a3, a4, a5, a6, a7, a8] (.ref x :: r) hp) := xVe _ _ _ _ _ _
theorem s_So_nights_48 (a : Nat) (C : xCx) (L r : List Value) (hp : xHp) : (xV k_So_nights C 48 L (.ref a :: r) hp) = (xF hp a 0 15 (fun v => xV k_So_nights C 51 L (v :: r) hp)) := xVe _ _ _ _ _ _
theorem s_So_nights_51 (C : xCx) (r : List Value) (hp : xHp) (x : Int32) (a0 a1 a2 a3 a4 a5 a6 a8 : Value) : (xV k_So_nights C 51 [a0, a1, a2, a3, a4, a5, a6, .int x, a8] r hp) = (xV k_So_nights C 53 [a0, a1, a2, a3, a4, a5, a6, .int x, a8] (.int x :: r) hp) := xVe _ _ _ _ _ _
theorem s_So_nights_53 (x0 : Nat) (x1 : Int32) (l : Launch) (d b lo gz n0 s0 : Nat) (Po : Option Value → xHp → Prop) (L r : List Value) (hp : xHp) : (xV k_So_nights (l, d + 1, b, lo, gz, n0, s0, m_So_nights, Po) 53 L (.int x1 :: .ref x0 :: r) hp) = (2 ≤ List.length (.int x1 :: .ref x0 :: r) ∧ xcs r 8 ∧ xMi l d b lo gz m_So_at [.ref x0, .int x1] hp (fun x hp' => xV k_So_nights (l, d + 1, b, lo, gz, n0, s0, m_So_nights, Po) 56 L (.int x :: r) hp')) := xVe _ _ _ _ _ _
theorem s_So_nights_56 (x : Int32) (C : xCx) (L r : List Value) (hp : xHp) : (xV k_So_nights C 56 L (.int x :: r) hp) = (((¬ x = 0 → xV k_So_nights C 63 L r hp) ∧ (x = 0 → xV k_So_nights C 59 L r hp))) := xVe _ _ _ _ _ _
theorem s_So_nights_59  (C : xCx) (L r : List Value) (hp : xHp) : (xV k_So_nights C 59 L (r) hp) = (xV k_So_nights C 60 L (.int (1) :: r) hp) := xVe _ _ _ _ _ _
theorem s_So_nights_60 (C : xCx) (L r : List Value) (hp : xHp) : (xV k_So_nights C 60 L r hp) = (xV k_So_nights C 64 L r hp) := xVe _ _ _ _ _ _
theorem s_So_nights_63  (C : xCx) (L r : List Value) (hp : xHp) : (xV k_So_nights C 63 L (r) hp) = (xV k_So_nights C 64 L (.int (0) :: r) hp) := xVe _ _ _ _ _ _
theorem s_So_nights_64 (C : xCx) (r : List Value) (hp : xHp) (x : Int32) (a0 a1 a2 a3 a4 a5 a6 a7 a8 : Value) : (xV k_So_nights C 64 [a0, a1, a2, a3, a4, a5, a6, a7, a8] (.int x :: r) hp) = (8 < 9 ∧ xNl [a0, a1, a2, a3, a4, a5, a6, a7, a8] 8 ∧ xV k_So_nights C 66 [a0, a1, a2, a3, a4, a5, a6, a7, .int x] r hp) := xVe _ _ _ _ _ _
theorem s_So_nights_66 (C : xCx) (r : List Value) (hp : xHp) (x : Int32) (a0 a1 a2 a3 a4 a5 a6 a7 : Value) : (xV k_So_nights C 66 [a0, a1, a2, a3, a4, a5, a6, a7, .int x] r hp) = (xV k_So_nights C 68 [a0, a1, a2, a3, a4, a5, a6, a7, .int x] (.int x :: r) hp) := xVe _ _ _ _ _ _
theorem s_So_nights_68 (x : Int32) (C : xCx) (L r : List Value) (hp : xHp) : (xV k_So_nights C 68 L (.int x :: r) hp) = (((x = 0 → xV k_So_nights C 78 L r hp) ∧ (¬ x = 0 → xV k_So_nights C 71 L r hp))) := xVe _ _ _ _ _ _
theorem s_So_nights_71 (C : xCx) (r : List Value) (hp : xHp) (x : Int32) (a0 a1 a2 a3 a5 a6 a7 a8 : Value) : (xV k_So_nights C 71 [a0, a1, a2, a3, .int x, a5, a6, a7, a8] r hp) = (xV k_So_nights C 73 [a0, a1, a2, a3, .int x, a5, a6, a7, a8] (.int x :: r) hp) := xVe _ _ _ _ _ _
theorem s_So_nights_73  (C : xCx) (L r : List Value) (hp : xHp) : (xV k_So_nights C 73 L (r) hp) = (xV k_So_nights C 74 L (.int (1) :: r) hp) := xVe _ _ _ _ _ _
theorem s_So_nights_74 (x y : Int32) (C : xCx) (L r : List Value) (hp : xHp) : (xV k_So_nights C 74 L (.int y :: .int x :: r) hp) = (xV k_So_nights C 75 L (.int (x + y) :: r) hp) := xVe _ _ _ _ _ _
theorem s_So_nights_75 (C : xCx) (L r : List Value) (hp : xHp) : (xV k_So_nights C 75 L r hp) = (xV k_So_nights C 79 L r hp) := xVe _ _ _ _ _ _
theorem s_So_nights_78  (C : xCx) (L r : List Value) (hp : xHp) : (xV k_So_nights C 78 L (r) hp) = (xV k_So_nights C 79 L (.int (0) :: r) hp) := xVe _ _ _ _ _ _
theorem s_So_nights_79 (C : xCx) (r : List Value) (hp : xHp) (x : Int32) (a0 a1 a2 a3 a4 a5 a6 a7 a8 : Value) : (xV k_So_nights C 79 [a0, a1, a2, a3, a4, a5, a6, a7, a8] (.int x :: r) hp) = (4 < 9 ∧ xNl [a0, a1, a2, a3, a4, a5, a6, a7, a8] 4 ∧ xV k_So_nights C 81 [a0, a1, a2, a3, .int x, a5, a6, a7, a8] r hp) := xVe _ _ _ _ _ _
theorem s_So_nights_81 (C : xCx) (r : List Value) (hp : xHp) (x : Int32) (a0 a1 a2 a4 a5 a6 a7 a8 : Value) : (xV k_So_nights C 81 [a0, a1, a2, .int x, a4, a5, a6, a7, a8] r hp) = (xV k_So_nights C 82 [a0, a1, a2, .int x, a4, a5, a6, a7, a8] (.int x :: r) hp) := xVe _ _ _ _ _ _
theorem s_So_nights_82 (C : xCx) (r : List Value) (hp : xHp) (x : Int32) (a0 a1 a2 a3 a4 a5 a6 a7 : Value) : (xV k_So_nights C 82 [a0, a1, a2, a3, a4, a5, a6, a7, .int x] r hp) = (xV k_So_nights C 84 [a0, a1, a2, a3, a4, a5, a6, a7, .int x] (.int x :: r) hp) := xVe _ _ _ _ _ _
theorem s_So_nights_84 (x : Int32) (C : xCx) (L r : List Value) (hp : xHp) : (xV k_So_nights C 84 L (.int x :: r) hp) = (((x = 0 → xV k_So_nights C 91 L r hp) ∧ (¬ x = 0 → xV k_So_nights C 87 L r hp))) := xVe _ _ _ _ _ _
theorem s_So_nights_87  (C : xCx) (L r : List Value) (hp : xHp) : (xV k_So_nights C 87 L (r) hp) = (xV k_So_nights C 88 L (.int (1) :: r) hp) := xVe _ _ _ _ _ _
theorem s_So_nights_88 (C : xCx) (L r : List Value) (hp : xHp) : (xV k_So_nights C 88 L r hp) = (xV k_So_nights C 92 L r hp) := xVe _ _ _ _ _ _
theorem s_So_nights_91  (C : xCx) (L r : List Value) (hp : xHp) : (xV k_So_nights C 91 L (r) hp) = (xV k_So_nights C 92 L (.int (0) :: r) hp) := xVe _ _ _ _ _ _
theorem s_So_nights_92 (x y : Int32) (C : xCx) (L r : List Value) (hp : xHp) : (xV k_So_nights C 92 L (.int y :: .int x :: r) hp) = (xV k_So_nights C 93 L (.int (x + y) :: r) hp) := xVe _ _ _ _ _ _
theorem s_So_nights_93 (C : xCx) (r : List Value) (hp : xHp) (x : Int32) (a0 a1 a2 a3 a4 a5 a6 a7 a8 : Value) : (xV k_So_nights C 93 [a0, a1, a2, a3, a4, a5, a6, a7, a8] (.int x :: r) hp) = (3 < 9 ∧ xNl [a0, a1, a2, a3, a4, a5, a6, a7, a8] 3 ∧ xV k_So_nights C 94 [a0, a1, a2, .int x, a4, a5, a6, a7, a8] r hp) := xVe _ _ _ _ _ _
theorem s_So_nights_94 (C : xCx) (r : List Value) (hp : xHp) (x : Int32) (a0 a1 a2 a3 a5 a6 a7 a8 : Value) : (xV k_So_nights C 94 [a0, a1, a2, a3, .int x, a5, a6, a7, a8] r hp) = (xV k_So_nights C 96 [a0, a1, a2, a3, .int x, a5, a6, a7, a8] (.int x :: r) hp) := xVe _ _ _ _ _ _
theorem s_So_nights_96 (C : xCx) (r : List Value) (hp : xHp) (x : Int32) (a0 a1 a2 a3 a4 a6 a7 a8 : Value) : (xV k_So_nights C 96 [a0, a1, a2, a3, a4, .int x, a6, a7, a8] r hp) = (xV k_So_nights C 98 [a0, a1, a2, a3, a4, .int x, a6, a7, a8] (.int x :: r) hp) := xVe _ _ _ _ _ _
theorem s_So_nights_98 (x y : Int32) (C : xCx) (L r : List Value) (hp : xHp) : (xV k_So_nights C 98 L (.int y :: .int x :: r) hp) = (((x ≤ y → xV k_So_nights C 114 L r hp) ∧ (¬ x ≤ y → xV k_So_nights C 101 L r hp))) := xVe _ _ _ _ _ _
theorem s_So_nights_101 (C : xCx) (r : List Value) (hp : xHp) (x : Int32) (a0 a1 a2 a3 a5 a6 a7 a8 : Value) : (xV k_So_nights C 101 [a0, a1, a2, a3, .int x, a5, a6, a7, a8] r hp) = (xV k_So_nights C 103 [a0, a1, a2, a3, .int x, a5, a6, a7, a8] (.int x :: r) hp) := xVe _ _ _ _ _ _
theorem s_So_nights_103 (C : xCx) (r : List Value) (hp : xHp) (x : Int32) (a0 a1 a2 a3 a4 a5 a6 a7 a8 : Value) : (xV k_So_nights C 103 [a0, a1, a2, a3, a4, a5, a6, a7, a8] (.int x :: r) hp) = (5 < 9 ∧ xNl [a0, a1, a2, a3, a4, a5, a6, a7, a8] 5 ∧ xV k_So_nights C 105 [a0, a1, a2, a3, a4, .int x, a6, a7, a8] r hp) := xVe _ _ _ _ _ _
theorem s_So_nights_105 (C : xCx) (r : List Value) (hp : xHp) (x : Int32) (a0 a1 a2 a3 a4 a5 a6 a8 : Value) : (xV k_So_nights C 105 [a0, a1, a2, a3, a4, a5, a6, .int x, a8] r hp) = (xV k_So_nights C 107 [a0, a1, a2, a3, a4, a5, a6, .int x, a8] (.int x :: r) hp) := xVe _ _ _ _ _ _
theorem s_So_nights_107 (C : xCx) (r : List Value) (hp : xHp) (x : Int32) (a0 a1 a2 a3 a5 a6 a7 a8 : Value) : (xV k_So_nights C 107 [a0, a1, a2, a3, .int x, a5, a6, a7, a8] r hp) = (xV k_So_nights C 109 [a0, a1, a2, a3, .int x, a5, a6, a7, a8] (.int x :: r) hp) := xVe _ _ _ _ _ _
theorem s_So_nights_109 (x y : Int32) (C : xCx) (L r : List Value) (hp : xHp) : (xV k_So_nights C 109 L (.int y :: .int x :: r) hp) = (xV k_So_nights C 110 L (.int (x - y) :: r) hp) := xVe _ _ _ _ _ _
theorem s_So_nights_110  (C : xCx) (L r : List Value) (hp : xHp) : (xV k_So_nights C 110 L (r) hp) = (xV k_So_nights C 111 L (.int (1) :: r) hp) := xVe _ _ _ _ _ _
theorem s_So_nights_111 (x y : Int32) (C : xCx) (L r : List Value) (hp : xHp) : (xV k_So_nights C 111 L (.int y :: .int x :: r) hp) = (xV k_So_nights C 112 L (.int (x + y) :: r) hp) := xVe _ _ _ _ _ _
theorem s_So_nights_112 (C : xCx) (r : List Value) (hp : xHp) (x : Int32) (a0 a1 a2 a3 a4 a5 a6 a7 a8 : Value) : (xV k_So_nights C 112 [a0, a1, a2, a3, a4, a5, a6, a7, a8] (.int x :: r) hp) = (6 < 9 ∧ xNl [a0, a1, a2, a3, a4, a5, a6, a7, a8] 6 ∧ xV k_So_nights C 114 [a0, a1, a2, a3, a4, a5, .int x, a7, a8] r hp) := xVe _ _ _ _ _ _
theorem s_So_nights_114 (C : xCx) (r : List Value) (hp : xHp) (x : Int32) (a0 a1 a2 a3 a4 a5 a6 a8 : Value) : (xV k_So_nights C 114 [a0, a1, a2, a3, a4, a5, a6, .int x, a8] r hp) = (xNl [a0, a1, a2, a3, a4, a5, a6, .int x, a8] 7 ∧ xV k_So_nights C 117 [a0, a1, a2, a3, a4, a5, a6, .int (x + (1)), a8] r hp) := xVe _ _ _ _ _ _
theorem s_So_nights_117 (C : xCx) (L r : List Value) (hp : xHp) : (xV k_So_nights C 117 L r hp) = (xV k_So_nights C 41 L r hp) := xVe _ _ _ _ _ _
theorem s_So_nights_120 (C : xCx) (r : List Value) (hp : xHp) (x : Nat) (a1 a2 a3 a4 a5 a6 a7 a8 : Value) : (xV k_So_nights C 120 [.ref x, a1, a2, a3, a4, a5, a6, a7, a8] r hp) = (True ∧ xV k_So_nights C 121 [.ref x, a1, a2, a3, a4, a5, a6, a7, a8] (.ref x :: r) hp) := xVe _ _ _ _ _ _
theorem s_So_nights_121 (a : Nat) (C : xCx) (L r : List Value) (hp : xHp) : (xV k_So_nights C 121 L (.ref a :: r) hp) = (xF hp a 0 1 (fun v => xV k_So_nights C 124 L (v :: r) hp)) := xVe _ _ _ _ _ _
theorem s_So_nights_124 (C : xCx) (r : List Value) (hp : xHp) (x : Int32) (a0 a1 a2 a3 a4 a6 a7 a8 : Value) : (xV k_So_nights C 124 [a0, a1, a2, a3, a4, .int x, a6, a7, a8] r hp) = (xV k_So_nights C 126 [a0, a1, a2, a3, a4, .int x, a6, a7, a8] (.int x :: r) hp) := xVe _ _ _ _ _ _
theorem s_So_nights_126 (x : Int32) (C : xCx) (L r : List Value) (hp : xHp) : (xV k_So_nights C 126 L (.int x :: r) hp) = (xV k_So_nights C 127 L (.long x.toInt64 :: r) hp) := xVe _ _ _ _ _ _
theorem s_So_nights_127 (C : xCx) (r : List Value) (hp : xHp) (x : Int32) (a0 a1 a2 a3 a4 a5 a7 a8 : Value) : (xV k_So_nights C 127 [a0, a1, a2, a3, a4, a5, .int x, a7, a8] r hp) = (xV k_So_nights C 129 [a0, a1, a2, a3, a4, a5, .int x, a7, a8] (.int x :: r) hp) := xVe _ _ _ _ _ _
theorem s_So_nights_129 (x : Int32) (C : xCx) (L r : List Value) (hp : xHp) : (xV k_So_nights C 129 L (.int x :: r) hp) = (xV k_So_nights C 130 L (.long x.toInt64 :: r) hp) := xVe _ _ _ _ _ _
theorem s_So_nights_130 (x0 : Int64) (x1 : Int64) (a : Nat) (l : Launch) (d b lo gz n0 s0 : Nat) (Po : Option Value → xHp → Prop) (L r : List Value) (hp : xHp) : (xV k_So_nights (l, d + 1, b, lo, gz, n0, s0, m_So_nights, Po) 130 L (.long x1 :: .long x0 :: .ref a :: r) hp) = (xO hp a 7 ∧ xcs r 8 ∧ xMv l d b lo gz m_Row_tell2 [.ref a, .long x0, .long x1] hp (fun hp' => xV k_So_nights (l, d + 1, b, lo, gz, n0, s0, m_So_nights, Po) 133 L r hp')) := xVe _ _ _ _ _ _
theorem s_So_nights_133 (C : xCx) (r : List Value) (hp : xHp) (x : Int32) (a0 a1 a2 a4 a5 a6 a7 a8 : Value) : (xV k_So_nights C 133 [a0, a1, a2, .int x, a4, a5, a6, a7, a8] r hp) = (xV k_So_nights C 134 [a0, a1, a2, .int x, a4, a5, a6, a7, a8] (.int x :: r) hp) := xVe _ _ _ _ _ _
theorem s_So_nights_134 (v : Int32) (l : Launch) (d b lo gz n0 s0 : Nat) (Po : Option Value → xHp → Prop) (L : List Value) (hp : xHp) : (xV k_So_nights (l, d, b, lo, gz, n0, s0, m_So_nights, Po) 134 L [.int v] hp) = (Po (some (.int v)) hp) := xVe _ _ _ _ _ _
def k_So_apart : List xEC := [
  (0, .iload_n 1, 1, 0, 0, 0, m_x),
  (1, .ifCond .lt 9, 4, 0, 10, 0, m_x),
  (4, .iload_n 1, 5, 0, 0, 0, m_x),
  (5, .bipush 99, 7, 0, 0, 0, m_x),
  (7, .if_icmp .le 5, 10, 0, 12, 0, m_x),
  (10, .iconst (-1), 11, 0, 0, 0, m_x),
  (11, .ireturn, 12, 0, 0, 0, m_x),
  (12, .aload_n 0, 13, 0, 0, 0, m_x),
  (13, .getfield 54, 16, 0, 6, 0, m_x),
  (16, .invokevirtual 150, 19, 3, 0, 0, m_Folk_size),
  (19, .iconst 2, 20, 0, 0, 0, m_x),
  (20, .if_icmp .ge 6, 23, 0, 26, 0, m_x),
  (23, .bipush (-2), 25, 0, 0, 0, m_x),
  (25, .ireturn, 26, 0, 0, 0, m_x),
  (26, .aload_n 0, 27, 0, 0, 0, m_x),
  (27, .iload_n 1, 28, 0, 0, 0, m_x),
  (28, .invokevirtual 284, 31, 0, 0, 0, m_So_lookAhead),
  (31, .iconst (-1), 32, 0, 0, 0, m_x),
  (32, .istore_n 2, 33, 0, 0, 0, m_x),
  (33, .iconst 0, 34, 0, 0, 0, m_x),
  (34, .istore_n 3, 35, 0, 0, 0, m_x),
  (35, .iconst 0, 36, 0, 0, 0, m_x),
  (36, .istore 4, 38, 0, 0, 0, m_x),
  (38, .iconst 0, 39, 0, 0, 0, m_x),
  (39, .istore 5, 41, 0, 0, 0, m_x),
  (41, .iload 5, 43, 0, 0, 0, m_x),
  (43, .aload_n 0, 44, 0, 0, 0, m_x),
  (44, .getfield 58, 47, 0, 7, 0, m_x),
  (47, .invokevirtual 150, 50, 3, 0, 0, m_Folk_size),
  (50, .if_icmp .ge 73, 53, 0, 123, 0, m_x),
  (53, .iload 5, 55, 0, 0, 0, m_x),
  (55, .iconst 1, 56, 0, 0, 0, m_x),
  (56, .iadd, 57, 0, 0, 0, m_x),
  (57, .istore 6, 59, 0, 0, 0, m_x),
  (59, .iload 6, 61, 0, 0, 0, m_x),
  (61, .aload_n 0, 62, 0, 0, 0, m_x),
  (62, .getfield 58, 65, 0, 7, 0, m_x),
  (65, .invokevirtual 150, 68, 3, 0, 0, m_Folk_size),
  (68, .if_icmp .ge 49, 71, 0, 117, 0, m_x),
  (71, .aload_n 0, 72, 0, 0, 0, m_x),
  (72, .getfield 58, 75, 0, 7, 0, m_x),
  (75, .iload 5, 77, 0, 0, 0, m_x),
  (77, .invokevirtual 185, 80, 3, 0, 0, m_Folk_age),
  (80, .aload_n 0, 81, 0, 0, 0, m_x),
  (81, .getfield 58, 84, 0, 7, 0, m_x),
  (84, .iload 6, 86, 0, 0, 0, m_x),
  (86, .invokevirtual 185, 89, 3, 0, 0, m_Folk_age),
  (89, .isub, 90, 0, 0, 0, m_x),
  (90, .invokestatic 270, 93, 0, 0, 0, m_Math_abs),
  (93, .istore 7, 95, 0, 0, 0, m_x),
  (95, .iload 7, 97, 0, 0, 0, m_x),
  (97, .iload_n 2, 98, 0, 0, 0, m_x),
  (98, .if_icmp .le 13, 101, 0, 111, 0, m_x),
  (101, .iload 7, 103, 0, 0, 0, m_x),
  (103, .istore_n 2, 104, 0, 0, 0, m_x),
  (104, .iload 5, 106, 0, 0, 0, m_x),
  (106, .istore_n 3, 107, 0, 0, 0, m_x),
  (107, .iload 6, 109, 0, 0, 0, m_x),
  (109, .istore 4, 111, 0, 0, 0, m_x),
  (111, .iinc 6 1, 114, 0, 0, 0, m_x),
  (114, .goto (-55), 117, 0, 59, 0, m_x),
  (117, .iinc 5 1, 120, 0, 0, 0, m_x),
  (120, .goto (-79), 123, 0, 41, 0, m_x),
  (123, .aload_n 0, 124, 0, 0, 0, m_x),
  (124, .getfield 19, 127, 0, 1, 0, m_x),
  (127, .iload_n 3, 128, 0, 0, 0, m_x),
  (128, .i2l, 129, 0, 0, 0, m_x),
  (129, .iload 4, 131, 0, 0, 0, m_x),
  (131, .i2l, 132, 0, 0, 0, m_x),
  (132, .invokevirtual 225, 135, 7, 0, 0, m_Row_tell2),
  (135, .iload_n 2, 136, 0, 0, 0, m_x),
  (136, .ireturn, 137, 0, 0, 0, m_x)]
theorem dc_So_apart : ∀ E ∈ k_So_apart, xDc m_So_apart E := by decide +kernel
set_option maxRecDepth 20000 in
theorem ok_So_apart : ∀ E ∈ k_So_apart, xOk m_So_apart E := xok_of dc_So_apart (xfc trivial (xfc (show ((1 : Nat) : Int) + (9) = ((10 : Nat) : Int) from by decide) (xfc trivial (xfc trivial (xfc (show ((7 : Nat) : Int) + (5) = ((12 : Nat) : Int) from by decide) (xfc trivial (xfc trivial (xfc trivial (xfc fl_So_54 (xfc ⟨ml_So_150, kd_Folk_size⟩ (xfc trivial (xfc (show ((20 : Nat) : Int) + (6) = ((26 : Nat) : Int) from by decide) (xfc trivial (xfc trivial (xfc trivial (xfc trivial (xfc ⟨ml_So_284, kd_So_lookAhead⟩ (xfc trivial (xfc trivial (xfc trivial (xfc trivial (xfc trivial (xfc trivial (xfc trivial (xfc trivial (xfc trivial (xfc trivial (xfc fl_So_58 (xfc ⟨ml_So_150, kd_Folk_size⟩ (xfc (show ((50 : Nat) : Int) + (73) = ((123 : Nat) : Int) from by decide) (xfc trivial (xfc trivial (xfc trivial (xfc trivial (xfc trivial (xfc trivial (xfc fl_So_58 (xfc ⟨ml_So_150, kd_Folk_size⟩ (xfc (show ((68 : Nat) : Int) + (49) = ((117 : Nat) : Int) from by decide) (xfc trivial (xfc fl_So_58 (xfc trivial (xfc ⟨ml_So_185, kd_Folk_age⟩ (xfc trivial (xfc fl_So_58 (xfc trivial (xfc ⟨ml_So_185, kd_Folk_age⟩ (xfc trivial (xfc ⟨ml_So_270, kd_Math_abs⟩ (xfc trivial (xfc trivial (xfc trivial (xfc (show ((98 : Nat) : Int) + (13) = ((111 : Nat) : Int) from by decide) (xfc trivial (xfc trivial (xfc trivial (xfc trivial (xfc trivial (xfc trivial (xfc trivial (xfc (show ((114 : Nat) : Int) + (-55) = ((59 : Nat) : Int) from by decide) (xfc trivial (xfc (show ((120 : Nat) : Int) + (-79) = ((41 : Nat) : Int) from by decide) (xfc trivial (xfc fl_So_19 (xfc trivial (xfc trivial (xfc trivial (xfc trivial (xfc ⟨ml_So_225, kd_Row_tell2⟩ (xfc trivial (xfc trivial (xfn)))))))))))))))))))))))))))))))))))))))))))))))))))))))))))))))))))))))))
theorem s_So_apart_0 (C : xCx) (r : List Value) (hp : xHp) (x : Int32) (a0 a2 a3 a4 a5 a6 a7 : Value) : (xV k_So_apart C 0 [a0, .int x, a2, a3, a4, a5, a6, a7] r hp) = (xV k_So_apart C 1 [a0, .int x, a2, a3, a4, a5, a6, a7] (.int x :: r) hp) := xVe _ _ _ _ _ _
theorem s_So_apart_1 (x : Int32) (C : xCx) (L r : List Value) (hp : xHp) : (xV k_So_apart C 1 L (.int x :: r) hp) = (((x < 0 → xV k_So_apart C 10 L r hp) ∧ (¬ x < 0 → xV k_So_apart C 4 L r hp))) := xVe _ _ _ _ _ _
theorem s_So_apart_4 (C : xCx) (r : List Value) (hp : xHp) (x : Int32) (a0 a2 a3 a4 a5 a6 a7 : Value) : (xV k_So_apart C 4 [a0, .int x, a2, a3, a4, a5, a6, a7] r hp) = (xV k_So_apart C 5 [a0, .int x, a2, a3, a4, a5, a6, a7] (.int x :: r) hp) := xVe _ _ _ _ _ _
theorem s_So_apart_5  (C : xCx) (L r : List Value) (hp : xHp) : (xV k_So_apart C 5 L (r) hp) = (xV k_So_apart C 7 L (.int (99) :: r) hp) := xVe _ _ _ _ _ _
theorem s_So_apart_7 (x y : Int32) (C : xCx) (L r : List Value) (hp : xHp) : (xV k_So_apart C 7 L (.int y :: .int x :: r) hp) = (((x ≤ y → xV k_So_apart C 12 L r hp) ∧ (¬ x ≤ y → xV k_So_apart C 10 L r hp))) := xVe _ _ _ _ _ _
theorem s_So_apart_10  (C : xCx) (L r : List Value) (hp : xHp) : (xV k_So_apart C 10 L (r) hp) = (xV k_So_apart C 11 L (.int (-1) :: r) hp) := xVe _ _ _ _ _ _
theorem s_So_apart_11 (v : Int32) (l : Launch) (d b lo gz n0 s0 : Nat) (Po : Option Value → xHp → Prop) (L : List Value) (hp : xHp) : (xV k_So_apart (l, d, b, lo, gz, n0, s0, m_So_apart, Po) 11 L [.int v] hp) = (Po (some (.int v)) hp) := xVe _ _ _ _ _ _
theorem s_So_apart_12 (C : xCx) (r : List Value) (hp : xHp) (x : Nat) (a1 a2 a3 a4 a5 a6 a7 : Value) : (xV k_So_apart C 12 [.ref x, a1, a2, a3, a4, a5, a6, a7] r hp) = (True ∧ xV k_So_apart C 13 [.ref x, a1, a2, a3, a4, a5, a6, a7] (.ref x :: r) hp) := xVe _ _ _ _ _ _
theorem s_So_apart_13 (a : Nat) (C : xCx) (L r : List Value) (hp : xHp) : (xV k_So_apart C 13 L (.ref a :: r) hp) = (xF hp a 0 6 (fun v => xV k_So_apart C 16 L (v :: r) hp)) := xVe _ _ _ _ _ _
theorem s_So_apart_16 (a : Nat) (l : Launch) (d b lo gz n0 s0 : Nat) (Po : Option Value → xHp → Prop) (L r : List Value) (hp : xHp) : (xV k_So_apart (l, d + 1, b, lo, gz, n0, s0, m_So_apart, Po) 16 L (.ref a :: r) hp) = (xO hp a 3 ∧ xcs r 8 ∧ xMi l d b lo gz m_Folk_size [.ref a] hp (fun x hp' => xV k_So_apart (l, d + 1, b, lo, gz, n0, s0, m_So_apart, Po) 19 L (.int x :: r) hp')) := xVe _ _ _ _ _ _
theorem s_So_apart_19  (C : xCx) (L r : List Value) (hp : xHp) : (xV k_So_apart C 19 L (r) hp) = (xV k_So_apart C 20 L (.int (2) :: r) hp) := xVe _ _ _ _ _ _
theorem s_So_apart_20 (x y : Int32) (C : xCx) (L r : List Value) (hp : xHp) : (xV k_So_apart C 20 L (.int y :: .int x :: r) hp) = (((y ≤ x → xV k_So_apart C 26 L r hp) ∧ (¬ y ≤ x → xV k_So_apart C 23 L r hp))) := xVe _ _ _ _ _ _
theorem s_So_apart_23  (C : xCx) (L r : List Value) (hp : xHp) : (xV k_So_apart C 23 L (r) hp) = (xV k_So_apart C 25 L (.int (-2) :: r) hp) := xVe _ _ _ _ _ _
theorem s_So_apart_25 (v : Int32) (l : Launch) (d b lo gz n0 s0 : Nat) (Po : Option Value → xHp → Prop) (L : List Value) (hp : xHp) : (xV k_So_apart (l, d, b, lo, gz, n0, s0, m_So_apart, Po) 25 L [.int v] hp) = (Po (some (.int v)) hp) := xVe _ _ _ _ _ _
theorem s_So_apart_26 (C : xCx) (r : List Value) (hp : xHp) (x : Nat) (a1 a2 a3 a4 a5 a6 a7 : Value) : (xV k_So_apart C 26 [.ref x, a1, a2, a3, a4, a5, a6, a7] r hp) = (True ∧ xV k_So_apart C 27 [.ref x, a1, a2, a3, a4, a5, a6, a7] (.ref x :: r) hp) := xVe _ _ _ _ _ _
theorem s_So_apart_27 (C : xCx) (r : List Value) (hp : xHp) (x : Int32) (a0 a2 a3 a4 a5 a6 a7 : Value) : (xV k_So_apart C 27 [a0, .int x, a2, a3, a4, a5, a6, a7] r hp) = (xV k_So_apart C 28 [a0, .int x, a2, a3, a4, a5, a6, a7] (.int x :: r) hp) := xVe _ _ _ _ _ _
theorem s_So_apart_28 (x0 : Int32) (a : Nat) (l : Launch) (d b lo gz n0 s0 : Nat) (Po : Option Value → xHp → Prop) (L r : List Value) (hp : xHp) : (xV k_So_apart (l, d + 1, b, lo, gz, n0, s0, m_So_apart, Po) 28 L (.int x0 :: .ref a :: r) hp) = (xO hp a 0 ∧ xcs r 8 ∧ xMv l d b lo gz m_So_lookAhead [.ref a, .int x0] hp (fun hp' => xV k_So_apart (l, d + 1, b, lo, gz, n0, s0, m_So_apart, Po) 31 L r hp')) := xVe _ _ _ _ _ _
theorem s_So_apart_31  (C : xCx) (L r : List Value) (hp : xHp) : (xV k_So_apart C 31 L (r) hp) = (xV k_So_apart C 32 L (.int (-1) :: r) hp) := xVe _ _ _ _ _ _
theorem s_So_apart_32 (C : xCx) (r : List Value) (hp : xHp) (x : Int32) (a0 a1 a2 a3 a4 a5 a6 a7 : Value) : (xV k_So_apart C 32 [a0, a1, a2, a3, a4, a5, a6, a7] (.int x :: r) hp) = (2 < 8 ∧ xNl [a0, a1, a2, a3, a4, a5, a6, a7] 2 ∧ xV k_So_apart C 33 [a0, a1, .int x, a3, a4, a5, a6, a7] r hp) := xVe _ _ _ _ _ _
theorem s_So_apart_33  (C : xCx) (L r : List Value) (hp : xHp) : (xV k_So_apart C 33 L (r) hp) = (xV k_So_apart C 34 L (.int (0) :: r) hp) := xVe _ _ _ _ _ _
theorem s_So_apart_34 (C : xCx) (r : List Value) (hp : xHp) (x : Int32) (a0 a1 a2 a3 a4 a5 a6 a7 : Value) : (xV k_So_apart C 34 [a0, a1, a2, a3, a4, a5, a6, a7] (.int x :: r) hp) = (3 < 8 ∧ xNl [a0, a1, a2, a3, a4, a5, a6, a7] 3 ∧ xV k_So_apart C 35 [a0, a1, a2, .int x, a4, a5, a6, a7] r hp) := xVe _ _ _ _ _ _
theorem s_So_apart_35  (C : xCx) (L r : List Value) (hp : xHp) : (xV k_So_apart C 35 L (r) hp) = (xV k_So_apart C 36 L (.int (0) :: r) hp) := xVe _ _ _ _ _ _
theorem s_So_apart_36 (C : xCx) (r : List Value) (hp : xHp) (x : Int32) (a0 a1 a2 a3 a4 a5 a6 a7 : Value) : (xV k_So_apart C 36 [a0, a1, a2, a3, a4, a5, a6, a7] (.int x :: r) hp) = (4 < 8 ∧ xNl [a0, a1, a2, a3, a4, a5, a6, a7] 4 ∧ xV k_So_apart C 38 [a0, a1, a2, a3, .int x, a5, a6, a7] r hp) := xVe _ _ _ _ _ _
theorem s_So_apart_38  (C : xCx) (L r : List Value) (hp : xHp) : (xV k_So_apart C 38 L (r) hp) = (xV k_So_apart C 39 L (.int (0) :: r) hp) := xVe _ _ _ _ _ _
theorem s_So_apart_39 (C : xCx) (r : List Value) (hp : xHp) (x : Int32) (a0 a1 a2 a3 a4 a5 a6 a7 : Value) : (xV k_So_apart C 39 [a0, a1, a2, a3, a4, a5, a6, a7] (.int x :: r) hp) = (5 < 8 ∧ xNl [a0, a1, a2, a3, a4, a5, a6, a7] 5 ∧ xV k_So_apart C 41 [a0, a1, a2, a3, a4, .int x, a6, a7] r hp) := xVe _ _ _ _ _ _
theorem s_So_apart_41 (C : xCx) (r : List Value) (hp : xHp) (x : Int32) (a0 a1 a2 a3 a4 a6 a7 : Value) : (xV k_So_apart C 41 [a0, a1, a2, a3, a4, .int x, a6, a7] r hp) = (xV k_So_apart C 43 [a0, a1, a2, a3, a4, .int x, a6, a7] (.int x :: r) hp) := xVe _ _ _ _ _ _
theorem s_So_apart_43 (C : xCx) (r : List Value) (hp : xHp) (x : Nat) (a1 a2 a3 a4 a5 a6 a7 : Value) : (xV k_So_apart C 43 [.ref x, a1, a2, a3, a4, a5, a6, a7] r hp) = (True ∧ xV k_So_apart C 44 [.ref x, a1, a2, a3, a4, a5, a6, a7] (.ref x :: r) hp) := xVe _ _ _ _ _ _
theorem s_So_apart_44 (a : Nat) (C : xCx) (L r : List Value) (hp : xHp) : (xV k_So_apart C 44 L (.ref a :: r) hp) = (xF hp a 0 7 (fun v => xV k_So_apart C 47 L (v :: r) hp)) := xVe _ _ _ _ _ _
theorem s_So_apart_47 (a : Nat) (l : Launch) (d b lo gz n0 s0 : Nat) (Po : Option Value → xHp → Prop) (L r : List Value) (hp : xHp) : (xV k_So_apart (l, d + 1, b, lo, gz, n0, s0, m_So_apart, Po) 47 L (.ref a :: r) hp) = (xO hp a 3 ∧ xcs r 8 ∧ xMi l d b lo gz m_Folk_size [.ref a] hp (fun x hp' => xV k_So_apart (l, d + 1, b, lo, gz, n0, s0, m_So_apart, Po) 50 L (.int x :: r) hp')) := xVe _ _ _ _ _ _
theorem s_So_apart_50 (x y : Int32) (C : xCx) (L r : List Value) (hp : xHp) : (xV k_So_apart C 50 L (.int y :: .int x :: r) hp) = (((y ≤ x → xV k_So_apart C 123 L r hp) ∧ (¬ y ≤ x → xV k_So_apart C 53 L r hp))) := xVe _ _ _ _ _ _
theorem s_So_apart_53 (C : xCx) (r : List Value) (hp : xHp) (x : Int32) (a0 a1 a2 a3 a4 a6 a7 : Value) : (xV k_So_apart C 53 [a0, a1, a2, a3, a4, .int x, a6, a7] r hp) = (xV k_So_apart C 55 [a0, a1, a2, a3, a4, .int x, a6, a7] (.int x :: r) hp) := xVe _ _ _ _ _ _
theorem s_So_apart_55  (C : xCx) (L r : List Value) (hp : xHp) : (xV k_So_apart C 55 L (r) hp) = (xV k_So_apart C 56 L (.int (1) :: r) hp) := xVe _ _ _ _ _ _
theorem s_So_apart_56 (x y : Int32) (C : xCx) (L r : List Value) (hp : xHp) : (xV k_So_apart C 56 L (.int y :: .int x :: r) hp) = (xV k_So_apart C 57 L (.int (x + y) :: r) hp) := xVe _ _ _ _ _ _
theorem s_So_apart_57 (C : xCx) (r : List Value) (hp : xHp) (x : Int32) (a0 a1 a2 a3 a4 a5 a6 a7 : Value) : (xV k_So_apart C 57 [a0, a1, a2, a3, a4, a5, a6, a7] (.int x :: r) hp) = (6 < 8 ∧ xNl [a0, a1, a2, a3, a4, a5, a6, a7] 6 ∧ xV k_So_apart C 59 [a0, a1, a2, a3, a4, a5, .int x, a7] r hp) := xVe _ _ _ _ _ _
theorem s_So_apart_59 (C : xCx) (r : List Value) (hp : xHp) (x : Int32) (a0 a1 a2 a3 a4 a5 a7 : Value) : (xV k_So_apart C 59 [a0, a1, a2, a3, a4, a5, .int x, a7] r hp) = (xV k_So_apart C 61 [a0, a1, a2, a3, a4, a5, .int x, a7] (.int x :: r) hp) := xVe _ _ _ _ _ _
theorem s_So_apart_61 (C : xCx) (r : List Value) (hp : xHp) (x : Nat) (a1 a2 a3 a4 a5 a6 a7 : Value) : (xV k_So_apart C 61 [.ref x, a1, a2, a3, a4, a5, a6, a7] r hp) = (True ∧ xV k_So_apart C 62 [.ref x, a1, a2, a3, a4, a5, a6, a7] (.ref x :: r) hp) := xVe _ _ _ _ _ _
theorem s_So_apart_62 (a : Nat) (C : xCx) (L r : List Value) (hp : xHp) : (xV k_So_apart C 62 L (.ref a :: r) hp) = (xF hp a 0 7 (fun v => xV k_So_apart C 65 L (v :: r) hp)) := xVe _ _ _ _ _ _
theorem s_So_apart_65 (a : Nat) (l : Launch) (d b lo gz n0 s0 : Nat) (Po : Option Value → xHp → Prop) (L r : List Value) (hp : xHp) : (xV k_So_apart (l, d + 1, b, lo, gz, n0, s0, m_So_apart, Po) 65 L (.ref a :: r) hp) = (xO hp a 3 ∧ xcs r 8 ∧ xMi l d b lo gz m_Folk_size [.ref a] hp (fun x hp' => xV k_So_apart (l, d + 1, b, lo, gz, n0, s0, m_So_apart, Po) 68 L (.int x :: r) hp')) := xVe _ _ _ _ _ _
theorem s_So_apart_68 (x y : Int32) (C : xCx) (L r : List Value) (hp : xHp) : (xV k_So_apart C 68 L (.int y :: .int x :: r) hp) = (((y ≤ x → xV k_So_apart C 117 L r hp) ∧ (¬ y ≤ x → xV k_So_apart C 71 L r hp))) := xVe _ _ _ _ _ _
theorem s_So_apart_71 (C : xCx) (r : List Value) (hp : xHp) (x : Nat) (a1 a2 a3 a4 a5 a6 a7 : Value) : (xV k_So_apart C 71 [.ref x, a1, a2, a3, a4, a5, a6, a7] r hp) = (True ∧ xV k_So_apart C 72 [.ref x, a1, a2, a3, a4, a5, a6, a7] (.ref x :: r) hp) := xVe _ _ _ _ _ _
theorem s_So_apart_72 (a : Nat) (C : xCx) (L r : List Value) (hp : xHp) : (xV k_So_apart C 72 L (.ref a :: r) hp) = (xF hp a 0 7 (fun v => xV k_So_apart C 75 L (v :: r) hp)) := xVe _ _ _ _ _ _
theorem s_So_apart_75 (C : xCx) (r : List Value) (hp : xHp) (x : Int32) (a0 a1 a2 a3 a4 a6 a7 : Value) : (xV k_So_apart C 75 [a0, a1, a2, a3, a4, .int x, a6, a7] r hp) = (xV k_So_apart C 77 [a0, a1, a2, a3, a4, .int x, a6, a7] (.int x :: r) hp) := xVe _ _ _ _ _ _
theorem s_So_apart_77 (x0 : Int32) (a : Nat) (l : Launch) (d b lo gz n0 s0 : Nat) (Po : Option Value → xHp → Prop) (L r : List Value) (hp : xHp) : (xV k_So_apart (l, d + 1, b, lo, gz, n0, s0, m_So_apart, Po) 77 L (.int x0 :: .ref a :: r) hp) = (xO hp a 3 ∧ xcs r 8 ∧ xMi l d b lo gz m_Folk_age [.ref a, .int x0] hp (fun x hp' => xV k_So_apart (l, d + 1, b, lo, gz, n0, s0, m_So_apart, Po) 80 L (.int x :: r) hp')) := xVe _ _ _ _ _ _
theorem s_So_apart_80 (C : xCx) (r : List Value) (hp : xHp) (x : Nat) (a1 a2 a3 a4 a5 a6 a7 : Value) : (xV k_So_apart C 80 [.ref x, a1, a2, a3, a4, a5, a6, a7] r hp) = (True ∧ xV k_So_apart C 81 [.ref x, a1, a2, a3, a4, a5, a6, a7] (.ref x :: r) hp) := xVe _ _ _ _ _ _
theorem s_So_apart_81 (a : Nat) (C : xCx) (L r : List Value) (hp : xHp) : (xV k_So_apart C 81 L (.ref a :: r) hp) = (xF hp a 0 7 (fun v => xV k_So_apart C 84 L (v :: r) hp)) := xVe _ _ _ _ _ _
theorem s_So_apart_84 (C : xCx) (r : List Value) (hp : xHp) (x : Int32) (a0 a1 a2 a3 a4 a5 a7 : Value) : (xV k_So_apart C 84 [a0, a1, a2, a3, a4, a5, .int x, a7] r hp) = (xV k_So_apart C 86 [a0, a1, a2, a3, a4, a5, .int x, a7] (.int x :: r) hp) := xVe _ _ _ _ _ _
theorem s_So_apart_86 (x0 : Int32) (a : Nat) (l : Launch) (d b lo gz n0 s0 : Nat) (Po : Option Value → xHp → Prop) (L r : List Value) (hp : xHp) : (xV k_So_apart (l, d + 1, b, lo, gz, n0, s0, m_So_apart, Po) 86 L (.int x0 :: .ref a :: r) hp) = (xO hp a 3 ∧ xcs r 8 ∧ xMi l d b lo gz m_Folk_age [.ref a, .int x0] hp (fun x hp' => xV k_So_apart (l, d + 1, b, lo, gz, n0, s0, m_So_apart, Po) 89 L (.int x :: r) hp')) := xVe _ _ _ _ _ _
theorem s_So_apart_89 (x y : Int32) (C : xCx) (L r : List Value) (hp : xHp) : (xV k_So_apart C 89 L (.int y :: .int x :: r) hp) = (xV k_So_apart C 90 L (.int (x - y) :: r) hp) := xVe _ _ _ _ _ _
theorem s_So_apart_90 (x0 : Int32) (l : Launch) (d b lo gz n0 s0 : Nat) (Po : Option Value → xHp → Prop) (L r : List Value) (hp : xHp) : (xV k_So_apart (l, d + 1, b, lo, gz, n0, s0, m_So_apart, Po) 90 L (.int x0 :: r) hp) = (1 ≤ List.length (.int x0 :: r) ∧ xcs r 8 ∧ xMi l d b lo gz m_Math_abs [.int x0] hp (fun x hp' => xV k_So_apart (l, d + 1, b, lo, gz, n0, s0, m_So_apart, Po) 93 L (.int x :: r) hp')) := xVe _ _ _ _ _ _
theorem s_So_apart_93 (C : xCx) (r : List Value) (hp : xHp) (x : Int32) (a0 a1 a2 a3 a4 a5 a6 a7 : Value) : (xV k_So_apart C 93 [a0, a1, a2, a3, a4, a5, a6, a7] (.int x :: r) hp) = (7 < 8 ∧ xNl [a0, a1, a2, a3, a4, a5, a6, a7] 7 ∧ xV k_So_apart C 95 [a0, a1, a2, a3, a4, a5, a6, .int x] r hp) := xVe _ _ _ _ _ _
theorem s_So_apart_95 (C : xCx) (r : List Value) (hp : xHp) (x : Int32) (a0 a1 a2 a3 a4 a5 a6 : Value) : (xV k_So_apart C 95 [a0, a1, a2, a3, a4, a5, a6, .int x] r hp) = (xV k_So_apart C 97 [a0, a1, a2, a3, a4, a5, a6, .int x] (.int x :: r) hp) := xVe _ _ _ _ _ _
theorem s_So_apart_97 (C : xCx) (r : List Value) (hp : xHp) (x : Int32) (a0 a1 a3 a4 a5 a6 a7 : Value) : (xV k_So_apart C 97 [a0, a1, .int x, a3, a4, a5, a6, a7] r hp) = (xV k_So_apart C 98 [a0, a1, .int x, a3, a4, a5, a6, a7] (.int x :: r) hp) := xVe _ _ _ _ _ _
theorem s_So_apart_98 (x y : Int32) (C : xCx) (L r : List Value) (hp : xHp) : (xV k_So_apart C 98 L (.int y :: .int x :: r) hp) = (((x ≤ y → xV k_So_apart C 111 L r hp) ∧ (¬ x ≤ y → xV k_So_apart C 101 L r hp))) := xVe _ _ _ _ _ _
theorem s_So_apart_101 (C : xCx) (r : List Value) (hp : xHp) (x : Int32) (a0 a1 a2 a3 a4 a5 a6 : Value) : (xV k_So_apart C 101 [a0, a1, a2, a3, a4, a5, a6, .int x] r hp) = (xV k_So_apart C 103 [a0, a1, a2, a3, a4, a5, a6, .int x] (.int x :: r) hp) := xVe _ _ _ _ _ _
theorem s_So_apart_103 (C : xCx) (r : List Value) (hp : xHp) (x : Int32) (a0 a1 a2 a3 a4 a5 a6 a7 : Value) : (xV k_So_apart C 103 [a0, a1, a2, a3, a4, a5, a6, a7] (.int x :: r) hp) = (2 < 8 ∧ xNl [a0, a1, a2, a3, a4, a5, a6, a7] 2 ∧ xV k_So_apart C 104 [a0, a1, .int x, a3, a4, a5, a6, a7] r hp) := xVe _ _ _ _ _ _
theorem s_So_apart_104 (C : xCx) (r : List Value) (hp : xHp) (x : Int32) (a0 a1 a2 a3 a4 a6 a7 : Value) : (xV k_So_apart C 104 [a0, a1, a2, a3, a4, .int x, a6, a7] r hp) = (xV k_So_apart C 106 [a0, a1, a2, a3, a4, .int x, a6, a7] (.int x :: r) hp) := xVe _ _ _ _ _ _
theorem s_So_apart_106 (C : xCx) (r : List Value) (hp : xHp) (x : Int32) (a0 a1 a2 a3 a4 a5 a6 a7 : Value) : (xV k_So_apart C 106 [a0, a1, a2, a3, a4, a5, a6, a7] (.int x :: r) hp) = (3 < 8 ∧ xNl [a0, a1, a2, a3, a4, a5, a6, a7] 3 ∧ xV k_So_apart C 107 [a0, a1, a2, .int x, a4, a5, a6, a7] r hp) := xVe _ _ _ _ _ _
theorem s_So_apart_107 (C : xCx) (r : List Value) (hp : xHp) (x : Int32) (a0 a1 a2 a3 a4 a5 a7 : Value) : (xV k_So_apart C 107 [a0, a1, a2, a3, a4, a5, .int x, a7] r hp) = (xV k_So_apart C 109 [a0, a1, a2, a3, a4, a5, .int x, a7] (.int x :: r) hp) := xVe _ _ _ _ _ _
theorem s_So_apart_109 (C : xCx) (r : List Value) (hp : xHp) (x : Int32) (a0 a1 a2 a3 a4 a5 a6 a7 : Value) : (xV k_So_apart C 109 [a0, a1, a2, a3, a4, a5, a6, a7] (.int x :: r) hp) = (4 < 8 ∧ xNl [a0, a1, a2, a3, a4, a5, a6, a7] 4 ∧ xV k_So_apart C 111 [a0, a1, a2, a3, .int x, a5, a6, a7] r hp) := xVe _ _ _ _ _ _
theorem s_So_apart_111 (C : xCx) (r : List Value) (hp : xHp) (x : Int32) (a0 a1 a2 a3 a4 a5 a7 : Value) : (xV k_So_apart C 111 [a0, a1, a2, a3, a4, a5, .int x, a7] r hp) = (xNl [a0, a1, a2, a3, a4, a5, .int x, a7] 6 ∧ xV k_So_apart C 114 [a0, a1, a2, a3, a4, a5, .int (x + (1)), a7] r hp) := xVe _ _ _ _ _ _
theorem s_So_apart_114 (C : xCx) (L r : List Value) (hp : xHp) : (xV k_So_apart C 114 L r hp) = (xV k_So_apart C 59 L r hp) := xVe _ _ _ _ _ _
theorem s_So_apart_117 (C : xCx) (r : List Value) (hp : xHp) (x : Int32) (a0 a1 a2 a3 a4 a6 a7 : Value) : (xV k_So_apart C 117 [a0, a1, a2, a3, a4, .int x, a6, a7] r hp) = (xNl [a0, a1, a2, a3, a4, .int x, a6, a7] 5 ∧ xV k_So_apart C 120 [a0, a1, a2, a3, a4, .int (x + (1)), a6, a7] r hp) := xVe _ _ _ _ _ _
theorem s_So_apart_120 (C : xCx) (L r : List Value) (hp : xHp) : (xV k_So_apart C 120 L r hp) = (xV k_So_apart C 41 L r hp) := xVe _ _ _ _ _ _
theorem s_So_apart_123 (C : xCx) (r : List Value) (hp : xHp) (x : Nat) (a1 a2 a3 a4 a5 a6 a7 : Value) : (xV k_So_apart C 123 [.ref x, a1, a2, a3, a4, a5, a6, a7] r hp) = (True ∧ xV k_So_apart C 124 [.ref x, a1, a2, a3, a4, a5, a6, a7] (.ref x :: r) hp) := xVe _ _ _ _ _ _
theorem s_So_apart_124 (a : Nat) (C : xCx) (L r : List Value) (hp : xHp) : (xV k_So_apart C 124 L (.ref a :: r) hp) = (xF hp a 0 1 (fun v => xV k_So_apart C 127 L (v :: r) hp)) := xVe _ _ _ _ _ _
theorem s_So_apart_127 (C : xCx) (r : List Value) (hp : xHp) (x : Int32) (a0 a1 a2 a4 a5 a6 a7 : Value) : (xV k_So_apart C 127 [a0, a1, a2, .int x, a4, a5, a6, a7] r hp) = (xV k_So_apart C 128 [a0, a1, a2, .int x, a4, a5, a6, a7] (.int x :: r) hp) := xVe _ _ _ _ _ _
theorem s_So_apart_128 (x : Int32) (C : xCx) (L r : List Value) (hp : xHp) : (xV k_So_apart C 128 L (.int x :: r) hp) = (xV k_So_apart C 129 L (.long x.toInt64 :: r) hp) := xVe _ _ _ _ _ _
theorem s_So_apart_129 (C : xCx) (r : List Value) (hp : xHp) (x : Int32) (a0 a1 a2 a3 a5 a6 a7 : Value) : (xV k_So_apart C 129 [a0, a1, a2, a3, .int x, a5, a6, a7] r hp) = (xV k_So_apart C 131 [a0, a1, a2, a3, .int x, a5, a6, a7] (.int x :: r) hp) := xVe _ _ _ _ _ _
theorem s_So_apart_131 (x : Int32) (C : xCx) (L r : List Value) (hp : xHp) : (xV k_So_apart C 131 L (.int x :: r) hp) = (xV k_So_apart C 132 L (.long x.toInt64 :: r) hp) := xVe _ _ _ _ _ _
theorem s_So_apart_132 (x0 : Int64) (x1 : Int64) (a : Nat) (l : Launch) (d b lo gz n0 s0 : Nat) (Po : Option Value → xHp → Prop) (L r : List Value) (hp : xHp) : (xV k_So_apart (l, d + 1, b, lo, gz, n0, s0, m_So_apart, Po) 132 L (.long x1 :: .long x0 :: .ref a :: r) hp) = (xO hp a 7 ∧ xcs r 8 ∧ xMv l d b lo gz m_Row_tell2 [.ref a, .long x0, .long x1] hp (fun hp' => xV k_So_apart (l, d + 1, b, lo, gz, n0, s0, m_So_apart, Po) 135 L r hp')) := xVe _ _ _ _ _ _
theorem s_So_apart_135 (C : xCx) (r : List Value) (hp : xHp) (x : Int32) (a0 a1 a3 a4 a5 a6 a7 : Value) : (xV k_So_apart C 135 [a0, a1, .int x, a3, a4, a5, a6, a7] r hp) = (xV k_So_apart C 136 [a0, a1, .int x, a3, a4, a5, a6, a7] (.int x :: r) hp) := xVe _ _ _ _ _ _
theorem s_So_apart_136 (v : Int32) (l : Launch) (d b lo gz n0 s0 : Nat) (Po : Option Value → xHp → Prop) (L : List Value) (hp : xHp) : (xV k_So_apart (l, d, b, lo, gz, n0, s0, m_So_apart, Po) 136 L [.int v] hp) = (Po (some (.int v)) hp) := xVe _ _ _ _ _ _
def k_So_sunniest : List xEC := [
  (0, .aload_n 0, 1, 0, 0, 0, m_x),
  (1, .getfield 58, 4, 0, 7, 0, m_x),
  (4, .aload_n 0, 5, 0, 0, 0, m_x),
  (5, .getfield 54, 8, 0, 6, 0, m_x),
  (8, .invokevirtual 215, 11, 3, 0, 0, m_Folk_copyFrom),
  (11, .iconst 0, 12, 0, 0, 0, m_x),
  (12, .istore_n 1, 13, 0, 0, 0, m_x),
  (13, .iconst (-1), 14, 0, 0, 0, m_x),
  (14, .istore_n 2, 15, 0, 0, 0, m_x),
  (15, .iconst 0, 16, 0, 0, 0, m_x),
  (16, .istore_n 3, 17, 0, 0, 0, m_x),
  (17, .iload_n 3, 18, 0, 0, 0, m_x),
  (18, .bipush 60, 20, 0, 0, 0, m_x),
  (20, .if_icmp .ge 37, 23, 0, 57, 0, m_x),
  (23, .aload_n 0, 24, 0, 0, 0, m_x),
  (24, .getfield 47, 27, 0, 5, 0, m_x),
  (27, .aload_n 0, 28, 0, 0, 0, m_x),
  (28, .getfield 35, 31, 0, 3, 0, m_x),
  (31, .aload_n 0, 32, 0, 0, 0, m_x),
  (32, .getfield 58, 35, 0, 7, 0, m_x),
  (35, .invokevirtual 218, 38, 9, 0, 0, m_Sun_dayBy),
  (38, .istore 4, 40, 0, 0, 0, m_x),
  (40, .iload 4, 42, 0, 0, 0, m_x),
  (42, .iload_n 2, 43, 0, 0, 0, m_x),
  (43, .if_icmp .le 8, 46, 0, 51, 0, m_x),
  (46, .iload 4, 48, 0, 0, 0, m_x),
  (48, .istore_n 2, 49, 0, 0, 0, m_x),
  (49, .iload_n 3, 50, 0, 0, 0, m_x),
  (50, .istore_n 1, 51, 0, 0, 0, m_x),
  (51, .iinc 3 1, 54, 0, 0, 0, m_x),
  (54, .goto (-37), 57, 0, 17, 0, m_x),
  (57, .aload_n 0, 58, 0, 0, 0, m_x),
  (58, .getfield 19, 61, 0, 1, 0, m_x),
  (61, .iload_n 2, 62, 0, 0, 0, m_x),
  (62, .i2l, 63, 0, 0, 0, m_x),
  (63, .invokevirtual 287, 66, 7, 0, 0, m_Row_tell1),
  (66, .iload_n 1, 67, 0, 0, 0, m_x),
  (67, .ireturn, 68, 0, 0, 0, m_x)]
theorem dc_So_sunniest : ∀ E ∈ k_So_sunniest, xDc m_So_sunniest E := by decide +kernel
set_option maxRecDepth 20000 in
theorem ok_So_sunniest : ∀ E ∈ k_So_sunniest, xOk m_So_sunniest E := xok_of dc_So_sunniest (xfc trivial (xfc fl_So_58 (xfc trivial (xfc fl_So_54 (xfc ⟨ml_So_215, kd_Folk_copyFrom⟩ (xfc trivial (xfc trivial (xfc trivial (xfc trivial (xfc trivial (xfc trivial (xfc trivial (xfc trivial (xfc (show ((20 : Nat) : Int) + (37) = ((57 : Nat) : Int) from by decide) (xfc trivial (xfc fl_So_47 (xfc trivial (xfc fl_So_35 (xfc trivial (xfc fl_So_58 (xfc ⟨ml_So_218, kd_Sun_dayBy⟩ (xfc trivial (xfc trivial (xfc trivial (xfc (show ((43 : Nat) : Int) + (8) = ((51 : Nat) : Int) from by decide) (xfc trivial (xfc trivial (xfc trivial (xfc trivial (xfc trivial (xfc (show ((54 : Nat) : Int) + (-37) = ((17 : Nat) : Int) from by decide) (xfc trivial (xfc fl_So_19 (xfc trivial (xfc trivial (xfc ⟨ml_So_287, kd_Row_tell1⟩ (xfc trivial (xfc trivial (xfn)))))))))))))))))))))))))))))))))))))))
theorem s_So_sunniest_0 (C : xCx) (r : List Value) (hp : xHp) (x : Nat) (a1 a2 a3 a4 : Value) : (xV k_So_sunniest C 0 [.ref x, a1, a2, a3, a4] r hp) = (True ∧ xV k_So_sunniest C 1 [.ref x, a1, a2, a3, a4] (.ref x :: r) hp) := xVe _ _ _ _ _ _
theorem s_So_sunniest_1 (a : Nat) (C : xCx) (L r : List Value) (hp : xHp) : (xV k_So_sunniest C 1 L (.ref a :: r) hp) = (xF hp a 0 7 (fun v => xV k_So_sunniest C 4 L (v :: r) hp)) := xVe _ _ _ _ _ _
theorem s_So_sunniest_4 (C : xCx) (r : List Value) (hp : xHp) (x : Nat) (a1 a2 a3 a4 : Value) : (xV k_So_sunniest C 4 [.ref x, a1, a2, a3, a4] r hp) = (True ∧ xV k_So_sunniest C 5 [.ref x, a1, a2, a3, a4] (.ref x :: r) hp) := xVe _ _ _ _ _ _
theorem s_So_sunniest_5 (a : Nat) (C : xCx) (L r : List Value) (hp : xHp) : (xV k_So_sunniest C 5 L (.ref a :: r) hp) = (xF hp a 0 6 (fun v => xV k_So_sunniest C 8 L (v :: r) hp)) := xVe _ _ _ _ _ _
theorem s_So_sunniest_8 (x0 : Nat) (a : Nat) (l : Launch) (d b lo gz n0 s0 : Nat) (Po : Option Value → xHp → Prop) (L r : List Value) (hp : xHp) : (xV k_So_sunniest (l, d + 1, b, lo, gz, n0, s0, m_So_sunniest, Po) 8 L (.ref x0 :: .ref a :: r) hp) = (xO hp a 3 ∧ xcs r 8 ∧ xMv l d b lo gz m_Folk_copyFrom [.ref a, .ref x0] hp (fun hp' => xV k_So_sunniest (l, d + 1, b, lo, gz, n0, s0, m_So_sunniest, Po) 11 L r hp')) := xVe _ _ _ _ _ _
theorem s_So_sunniest_11  (C : xCx) (L r : List Value) (hp : xHp) : (xV k_So_sunniest C 11 L (r) hp) = (xV k_So_sunniest C 12 L (.int (0) :: r) hp) := xVe _ _ _ _ _ _
theorem s_So_sunniest_12 (C : xCx) (r : List Value) (hp : xHp) (x : Int32) (a0 a1 a2 a3 a4 : Value) : (xV k_So_sunniest C 12 [a0, a1, a2, a3, a4] (.int x :: r) hp) = (1 < 5 ∧ xNl [a0, a1, a2, a3, a4] 1 ∧ xV k_So_sunniest C 13 [a0, .int x, a2, a3, a4] r hp) := xVe _ _ _ _ _ _
theorem s_So_sunniest_13  (C : xCx) (L r : List Value) (hp : xHp) : (xV k_So_sunniest C 13 L (r) hp) = (xV k_So_sunniest C 14 L (.int (-1) :: r) hp) := xVe _ _ _ _ _ _
theorem s_So_sunniest_14 (C : xCx) (r : List Value) (hp : xHp) (x : Int32) (a0 a1 a2 a3 a4 : Value) : (xV k_So_sunniest C 14 [a0, a1, a2, a3, a4] (.int x :: r) hp) = (2 < 5 ∧ xNl [a0, a1, a2, a3, a4] 2 ∧ xV k_So_sunniest C 15 [a0, a1, .int x, a3, a4] r hp) := xVe _ _ _ _ _ _
theorem s_So_sunniest_15  (C : xCx) (L r : List Value) (hp : xHp) : (xV k_So_sunniest C 15 L (r) hp) = (xV k_So_sunniest C 16 L (.int (0) :: r) hp) := xVe _ _ _ _ _ _
theorem s_So_sunniest_16 (C : xCx) (r : List Value) (hp : xHp) (x : Int32) (a0 a1 a2 a3 a4 : Value) : (xV k_So_sunniest C 16 [a0, a1, a2, a3, a4] (.int x :: r) hp) = (3 < 5 ∧ xNl [a0, a1, a2, a3, a4] 3 ∧ xV k_So_sunniest C 17 [a0, a1, a2, .int x, a4] r hp) := xVe _ _ _ _ _ _
theorem s_So_sunniest_17 (C : xCx) (r : List Value) (hp : xHp) (x : Int32) (a0 a1 a2 a4 : Value) : (xV k_So_sunniest C 17 [a0, a1, a2, .int x, a4] r hp) = (xV k_So_sunniest C 18 [a0, a1, a2, .int x, a4] (.int x :: r) hp) := xVe _ _ _ _ _ _
theorem s_So_sunniest_18  (C : xCx) (L r : List Value) (hp : xHp) : (xV k_So_sunniest C 18 L (r) hp) = (xV k_So_sunniest C 20 L (.int (60) :: r) hp) := xVe _ _ _ _ _ _
theorem s_So_sunniest_20 (x y : Int32) (C : xCx) (L r : List Value) (hp : xHp) : (xV k_So_sunniest C 20 L (.int y :: .int x :: r) hp) = (((y ≤ x → xV k_So_sunniest C 57 L r hp) ∧ (¬ y ≤ x → xV k_So_sunniest C 23 L r hp))) := xVe _ _ _ _ _ _
theorem s_So_sunniest_23 (C : xCx) (r : List Value) (hp : xHp) (x : Nat) (a1 a2 a3 a4 : Value) : (xV k_So_sunniest C 23 [.ref x, a1, a2, a3, a4] r hp) = (True ∧ xV k_So_sunniest C 24 [.ref x, a1, a2, a3, a4] (.ref x :: r) hp) := xVe _ _ _ _ _ _
theorem s_So_sunniest_24 (a : Nat) (C : xCx) (L r : List Value) (hp : xHp) : (xV k_So_sunniest C 24 L (.ref a :: r) hp) = (xF hp a 0 5 (fun v => xV k_So_sunniest C 27 L (v :: r) hp)) := xVe _ _ _ _ _ _
theorem s_So_sunniest_27 (C : xCx) (r : List Value) (hp : xHp) (x : Nat) (a1 a2 a3 a4 : Value) : (xV k_So_sunniest C 27 [.ref x, a1, a2, a3, a4] r hp) = (True ∧ xV k_So_sunniest C 28 [.ref x, a1, a2, a3, a4] (.ref x :: r) hp) := xVe _ _ _ _ _ _
theorem s_So_sunniest_28 (a : Nat) (C : xCx) (L r : List Value) (hp : xHp) : (xV k_So_sunniest C 28 L (.ref a :: r) hp) = (xF hp a 0 3 (fun v => xV k_So_sunniest C 31 L (v :: r) hp)) := xVe _ _ _ _ _ _
theorem s_So_sunniest_31 (C : xCx) (r : List Value) (hp : xHp) (x : Nat) (a1 a2 a3 a4 : Value) : (xV k_So_sunniest C 31 [.ref x, a1, a2, a3, a4] r hp) = (True ∧ xV k_So_sunniest C 32 [.ref x, a1, a2, a3, a4] (.ref x :: r) hp) := xVe _ _ _ _ _ _
theorem s_So_sunniest_32 (a : Nat) (C : xCx) (L r : List Value) (hp : xHp) : (xV k_So_sunniest C 32 L (.ref a :: r) hp) = (xF hp a 0 7 (fun v => xV k_So_sunniest C 35 L (v :: r) hp)) := xVe _ _ _ _ _ _
theorem s_So_sunniest_35 (x0 : Nat) (x1 : Nat) (a : Nat) (l : Launch) (d b lo gz n0 s0 : Nat) (Po : Option Value → xHp → Prop) (L r : List Value) (hp : xHp) : (xV k_So_sunniest (l, d + 1, b, lo, gz, n0, s0, m_So_sunniest, Po) 35 L (.ref x1 :: .ref x0 :: .ref a :: r) hp) = (xO hp a 9 ∧ xcs r 8 ∧ xMi l d b lo gz m_Sun_dayBy [.ref a, .ref x0, .ref x1] hp (fun x hp' => xV k_So_sunniest (l, d + 1, b, lo, gz, n0, s0, m_So_sunniest, Po) 38 L (.int x :: r) hp')) := xVe _ _ _ _ _ _
theorem s_So_sunniest_38 (C : xCx) (r : List Value) (hp : xHp) (x : Int32) (a0 a1 a2 a3 a4 : Value) : (xV k_So_sunniest C 38 [a0, a1, a2, a3, a4] (.int x :: r) hp) = (4 < 5 ∧ xNl [a0, a1, a2, a3, a4] 4 ∧ xV k_So_sunniest C 40 [a0, a1, a2, a3, .int x] r hp) := xVe _ _ _ _ _ _
theorem s_So_sunniest_40 (C : xCx) (r : List Value) (hp : xHp) (x : Int32) (a0 a1 a2 a3 : Value) : (xV k_So_sunniest C 40 [a0, a1, a2, a3, .int x] r hp) = (xV k_So_sunniest C 42 [a0, a1, a2, a3, .int x] (.int x :: r) hp) := xVe _ _ _ _ _ _
theorem s_So_sunniest_42 (C : xCx) (r : List Value) (hp : xHp) (x : Int32) (a0 a1 a3 a4 : Value) : (xV k_So_sunniest C 42 [a0, a1, .int x, a3, a4] r hp) = (xV k_So_sunniest C 43 [a0, a1, .int x, a3, a4] (.int x :: r) hp) := xVe _ _ _ _ _ _
theorem s_So_sunniest_43 (x y : Int32) (C : xCx) (L r : List Value) (hp : xHp) : (xV k_So_sunniest C 43 L (.int y :: .int x :: r) hp) = (((x ≤ y → xV k_So_sunniest C 51 L r hp) ∧ (¬ x ≤ y → xV k_So_sunniest C 46 L r hp))) := xVe _ _ _ _ _ _
theorem s_So_sunniest_46 (C : xCx) (r : List Value) (hp : xHp) (x : Int32) (a0 a1 a2 a3 : Value) : (xV k_So_sunniest C 46 [a0, a1, a2, a3, .int x] r hp) = (xV k_So_sunniest C 48 [a0, a1, a2, a3, .int x] (.int x :: r) hp) := xVe _ _ _ _ _ _
theorem s_So_sunniest_48 (C : xCx) (r : List Value) (hp : xHp) (x : Int32) (a0 a1 a2 a3 a4 : Value) : (xV k_So_sunniest C 48 [a0, a1, a2, a3, a4] (.int x :: r) hp) = (2 < 5 ∧ xNl [a0, a1, a2, a3, a4] 2 ∧ xV k_So_sunniest C 49 [a0, a1, .int x, a3, a4] r hp) := xVe _ _ _ _ _ _
theorem s_So_sunniest_49 (C : xCx) (r : List Value) (hp : xHp) (x : Int32) (a0 a1 a2 a4 : Value) : (xV k_So_sunniest C 49 [a0, a1, a2, .int x, a4] r hp) = (xV k_So_sunniest C 50 [a0, a1, a2, .int x, a4] (.int x :: r) hp) := xVe _ _ _ _ _ _
theorem s_So_sunniest_50 (C : xCx) (r : List Value) (hp : xHp) (x : Int32) (a0 a1 a2 a3 a4 : Value) : (xV k_So_sunniest C 50 [a0, a1, a2, a3, a4] (.int x :: r) hp) = (1 < 5 ∧ xNl [a0, a1, a2, a3, a4] 1 ∧ xV k_So_sunniest C 51 [a0, .int x, a2, a3, a4] r hp) := xVe _ _ _ _ _ _
theorem s_So_sunniest_51 (C : xCx) (r : List Value) (hp : xHp) (x : Int32) (a0 a1 a2 a4 : Value) : (xV k_So_sunniest C 51 [a0, a1, a2, .int x, a4] r hp) = (xNl [a0, a1, a2, .int x, a4] 3 ∧ xV k_So_sunniest C 54 [a0, a1, a2, .int (x + (1)), a4] r hp) := xVe _ _ _ _ _ _
theorem s_So_sunniest_54 (C : xCx) (L r : List Value) (hp : xHp) : (xV k_So_sunniest C 54 L r hp) = (xV k_So_sunniest C 17 L r hp) := xVe _ _ _ _ _ _
theorem s_So_sunniest_57 (C : xCx) (r : List Value) (hp : xHp) (x : Nat) (a1 a2 a3 a4 : Value) : (xV k_So_sunniest C 57 [.ref x, a1, a2, a3, a4] r hp) = (True ∧ xV k_So_sunniest C 58 [.ref x, a1, a2, a3, a4] (.ref x :: r) hp) := xVe _ _ _ _ _ _
theorem s_So_sunniest_58 (a : Nat) (C : xCx) (L r : List Value) (hp : xHp) : (xV k_So_sunniest C 58 L (.ref a :: r) hp) = (xF hp a 0 1 (fun v => xV k_So_sunniest C 61 L (v :: r) hp)) := xVe _ _ _ _ _ _
theorem s_So_sunniest_61 (C : xCx) (r : List Value) (hp : xHp) (x : Int32) (a0 a1 a3 a4 : Value) : (xV k_So_sunniest C 61 [a0, a1, .int x, a3, a4] r hp) = (xV k_So_sunniest C 62 [a0, a1, .int x, a3, a4] (.int x :: r) hp) := xVe _ _ _ _ _ _
theorem s_So_sunniest_62 (x : Int32) (C : xCx) (L r : List Value) (hp : xHp) : (xV k_So_sunniest C 62 L (.int x :: r) hp) = (xV k_So_sunniest C 63 L (.long x.toInt64 :: r) hp) := xVe _ _ _ _ _ _
theorem s_So_sunniest_63 (x0 : Int64) (a : Nat) (l : Launch) (d b lo gz n0 s0 : Nat) (Po : Option Value → xHp → Prop) (L r : List Value) (hp : xHp) : (xV k_So_sunniest (l, d + 1, b, lo, gz, n0, s0, m_So_sunniest, Po) 63 L (.long x0 :: .ref a :: r) hp) = (xO hp a 7 ∧ xcs r 8 ∧ xMv l d b lo gz m_Row_tell1 [.ref a, .long x0] hp (fun hp' => xV k_So_sunniest (l, d + 1, b, lo, gz, n0, s0, m_So_sunniest, Po) 66 L r hp')) := xVe _ _ _ _ _ _
theorem s_So_sunniest_66 (C : xCx) (r : List Value) (hp : xHp) (x : Int32) (a0 a2 a3 a4 : Value) : (xV k_So_sunniest C 66 [a0, .int x, a2, a3, a4] r hp) = (xV k_So_sunniest C 67 [a0, .int x, a2, a3, a4] (.int x :: r) hp) := xVe _ _ _ _ _ _
theorem s_So_sunniest_67 (v : Int32) (l : Launch) (d b lo gz n0 s0 : Nat) (Po : Option Value → xHp → Prop) (L : List Value) (hp : xHp) : (xV k_So_sunniest (l, d, b, lo, gz, n0, s0, m_So_sunniest, Po) 67 L [.int v] hp) = (Po (some (.int v)) hp) := xVe _ _ _ _ _ _
theorem ml_So_316 : xLk "SunnyOnes" 316 m_Walk_comesTo := Or.inl (wg4 53 (by decide +kernel) rfl)
theorem ml_So_320 : xLk "SunnyOnes" 320 m_Walk_tellPath := Or.inl (wg4 88 (by decide +kernel) rfl)
def k_So_comes : List xEC := [
  (0, .aload_n 0, 1, 0, 0, 0, m_x),
  (1, .iload_n 1, 2, 0, 0, 0, m_x),
  (2, .invokevirtual 179, 5, 0, 0, 0, m_So_has),
  (5, .ifCond .eq 14, 8, 0, 19, 0, m_x),
  (8, .iload_n 2, 9, 0, 0, 0, m_x),
  (9, .ifCond .lt 10, 12, 0, 19, 0, m_x),
  (12, .iload_n 2, 13, 0, 0, 0, m_x),
  (13, .sipush 9999, 16, 0, 0, 0, m_x),
  (16, .if_icmp .le 5, 19, 0, 21, 0, m_x),
  (19, .iconst (-1), 20, 0, 0, 0, m_x),
  (20, .ireturn, 21, 0, 0, 0, m_x),
  (21, .aload_n 0, 22, 0, 0, 0, m_x),
  (22, .getfield 58, 25, 0, 7, 0, m_x),
  (25, .aload_n 0, 26, 0, 0, 0, m_x),
  (26, .getfield 54, 29, 0, 6, 0, m_x),
  (29, .invokevirtual 215, 32, 3, 0, 0, m_Folk_copyFrom),
  (32, .iconst 0, 33, 0, 0, 0, m_x),
  (33, .istore_n 3, 34, 0, 0, 0, m_x),
  (34, .iload_n 3, 35, 0, 0, 0, m_x),
  (35, .iconst 4, 36, 0, 0, 0, m_x),
  (36, .if_icmp .gt 35, 39, 0, 71, 0, m_x),
  (39, .aload_n 0, 40, 0, 0, 0, m_x),
  (40, .getfield 88, 43, 0, 12, 0, m_x),
  (43, .iload_n 1, 44, 0, 0, 0, m_x),
  (44, .iload_n 2, 45, 0, 0, 0, m_x),
  (45, .iload_n 3, 46, 0, 0, 0, m_x),
  (46, .invokevirtual 316, 49, 11, 0, 0, m_Walk_comesTo),
  (49, .ifCond .eq 16, 52, 0, 65, 0, m_x),
  (52, .aload_n 0, 53, 0, 0, 0, m_x),
  (53, .getfield 88, 56, 0, 12, 0, m_x),
  (56, .aload_n 0, 57, 0, 0, 0, m_x),
  (57, .getfield 19, 60, 0, 1, 0, m_x),
  (60, .invokevirtual 320, 63, 11, 0, 0, m_Walk_tellPath),
  (63, .iload_n 3, 64, 0, 0, 0, m_x),
  (64, .ireturn, 65, 0, 0, 0, m_x),
  (65, .iinc 3 1, 68, 0, 0, 0, m_x),
  (68, .goto (-34), 71, 0, 34, 0, m_x),
  (71, .bipush (-2), 73, 0, 0, 0, m_x),
  (73, .ireturn, 74, 0, 0, 0, m_x)]
theorem dc_So_comes : ∀ E ∈ k_So_comes, xDc m_So_comes E := by decide +kernel
set_option maxRecDepth 20000 in
theorem ok_So_comes : ∀ E ∈ k_So_comes, xOk m_So_comes E := xok_of dc_So_comes (xfc trivial (xfc trivial (xfc ⟨ml_So_179, kd_So_has⟩ (xfc (show ((5 : Nat) : Int) + (14) = ((19 : Nat) : Int) from by decide) (xfc trivial (xfc (show ((9 : Nat) : Int) + (10) = ((19 : Nat) : Int) from by decide) (xfc trivial (xfc trivial (xfc (show ((16 : Nat) : Int) + (5) = ((21 : Nat) : Int) from by decide) (xfc trivial (xfc trivial (xfc trivial (xfc fl_So_58 (xfc trivial (xfc fl_So_54 (xfc ⟨ml_So_215, kd_Folk_copyFrom⟩ (xfc trivial (xfc trivial (xfc trivial (xfc trivial (xfc (show ((36 : Nat) : Int) + (35) = ((71 : Nat) : Int) from by decide) (xfc trivial (xfc fl_So_88 (xfc trivial (xfc trivial (xfc trivial (xfc ⟨ml_So_316, kd_Walk_comesTo⟩ (xfc (show ((49 : Nat) : Int) + (16) = ((65 : Nat) : Int) from by decide) (xfc trivial (xfc fl_So_88 (xfc trivial (xfc fl_So_19 (xfc ⟨ml_So_320, kd_Walk_tellPath⟩ (xfc trivial (xfc trivial (xfc trivial (xfc (show ((68 : Nat) : Int) + (-34) = ((34 : Nat) : Int) from by decide) (xfc trivial (xfc trivial (xfn))))))))))))))))))))))))))))))))))))))))
theorem s_So_comes_0 (C : xCx) (r : List Value) (hp : xHp) (x : Nat) (a1 a2 a3 : Value) : (xV k_So_comes C 0 [.ref x, a1, a2, a3] r hp) = (True ∧ xV k_So_comes C 1 [.ref x, a1, a2, a3] (.ref x :: r) hp) := xVe _ _ _ _ _ _
theorem s_So_comes_1 (C : xCx) (r : List Value) (hp : xHp) (x : Int32) (a0 a2 a3 : Value) : (xV k_So_comes C 1 [a0, .int x, a2, a3] r hp) = (xV k_So_comes C 2 [a0, .int x, a2, a3] (.int x :: r) hp) := xVe _ _ _ _ _ _
theorem s_So_comes_2 (x0 : Int32) (a : Nat) (l : Launch) (d b lo gz n0 s0 : Nat) (Po : Option Value → xHp → Prop) (L r : List Value) (hp : xHp) : (xV k_So_comes (l, d + 1, b, lo, gz, n0, s0, m_So_comes, Po) 2 L (.int x0 :: .ref a :: r) hp) = (xO hp a 0 ∧ xcs r 8 ∧ xMi l d b lo gz m_So_has [.ref a, .int x0] hp (fun x hp' => xV k_So_comes (l, d + 1, b, lo, gz, n0, s0, m_So_comes, Po) 5 L (.int x :: r) hp')) := xVe _ _ _ _ _ _
theorem s_So_comes_5 (x : Int32) (C : xCx) (L r : List Value) (hp : xHp) : (xV k_So_comes C 5 L (.int x :: r) hp) = (((x = 0 → xV k_So_comes C 19 L r hp) ∧ (¬ x = 0 → xV k_So_comes C 8 L r hp))) := xVe _ _ _ _ _ _
theorem s_So_comes_8 (C : xCx) (r : List Value) (hp : xHp) (x : Int32) (a0 a1 a3 : Value) : (xV k_So_comes C 8 [a0, a1, .int x, a3] r hp) = (xV k_So_comes C 9 [a0, a1, .int x, a3] (.int x :: r) hp) := xVe _ _ _ _ _ _
theorem s_So_comes_9 (x : Int32) (C : xCx) (L r : List Value) (hp : xHp) : (xV k_So_comes C 9 L (.int x :: r) hp) = (((x < 0 → xV k_So_comes C 19 L r hp) ∧ (¬ x < 0 → xV k_So_comes C 12 L r hp))) := xVe _ _ _ _ _ _
theorem s_So_comes_12 (C : xCx) (r : List Value) (hp : xHp) (x : Int32) (a0 a1 a3 : Value) : (xV k_So_comes C 12 [a0, a1, .int x, a3] r hp) = (xV k_So_comes C 13 [a0, a1, .int x, a3] (.int x :: r) hp) := xVe _ _ _ _ _ _
theorem s_So_comes_13  (C : xCx) (L r : List Value) (hp : xHp) : (xV k_So_comes C 13 L (r) hp) = (xV k_So_comes C 16 L (.int (9999) :: r) hp) := xVe _ _ _ _ _ _
theorem s_So_comes_16 (x y : Int32) (C : xCx) (L r : List Value) (hp : xHp) : (xV k_So_comes C 16 L (.int y :: .int x :: r) hp) = (((x ≤ y → xV k_So_comes C 21 L r hp) ∧ (¬ x ≤ y → xV k_So_comes C 19 L r hp))) := xVe _ _ _ _ _ _
theorem s_So_comes_19  (C : xCx) (L r : List Value) (hp : xHp) : (xV k_So_comes C 19 L (r) hp) = (xV k_So_comes C 20 L (.int (-1) :: r) hp) := xVe _ _ _ _ _ _
theorem s_So_comes_20 (v : Int32) (l : Launch) (d b lo gz n0 s0 : Nat) (Po : Option Value → xHp → Prop) (L : List Value) (hp : xHp) : (xV k_So_comes (l, d, b, lo, gz, n0, s0, m_So_comes, Po) 20 L [.int v] hp) = (Po (some (.int v)) hp) := xVe _ _ _ _ _ _
theorem s_So_comes_21 (C : xCx) (r : List Value) (hp : xHp) (x : Nat) (a1 a2 a3 : Value) : (xV k_So_comes C 21 [.ref x, a1, a2, a3] r hp) = (True ∧ xV k_So_comes C 22 [.ref x, a1, a2, a3] (.ref x :: r) hp) := xVe _ _ _ _ _ _
theorem s_So_comes_22 (a : Nat) (C : xCx) (L r : List Value) (hp : xHp) : (xV k_So_comes C 22 L (.ref a :: r) hp) = (xF hp a 0 7 (fun v => xV k_So_comes C 25 L (v :: r) hp)) := xVe _ _ _ _ _ _
theorem s_So_comes_25 (C : xCx) (r : List Value) (hp : xHp) (x : Nat) (a1 a2 a3 : Value) : (xV k_So_comes C 25 [.ref x, a1, a2, a3] r hp) = (True ∧ xV k_So_comes C 26 [.ref x, a1, a2, a3] (.ref x :: r) hp) := xVe _ _ _ _ _ _
theorem s_So_comes_26 (a : Nat) (C : xCx) (L r : List Value) (hp : xHp) : (xV k_So_comes C 26 L (.ref a :: r) hp) = (xF hp a 0 6 (fun v => xV k_So_comes C 29 L (v :: r) hp)) := xVe _ _ _ _ _ _
theorem s_So_comes_29 (x0 : Nat) (a : Nat) (l : Launch) (d b lo gz n0 s0 : Nat) (Po : Option Value → xHp → Prop) (L r : List Value) (hp : xHp) : (xV k_So_comes (l, d + 1, b, lo, gz, n0, s0, m_So_comes, Po) 29 L (.ref x0 :: .ref a :: r) hp) = (xO hp a 3 ∧ xcs r 8 ∧ xMv l d b lo gz m_Folk_copyFrom [.ref a, .ref x0] hp (fun hp' => xV k_So_comes (l, d + 1, b, lo, gz, n0, s0, m_So_comes, Po) 32 L r hp')) := xVe _ _ _ _ _ _
theorem s_So_comes_32  (C : xCx) (L r : List Value) (hp : xHp) : (xV k_So_comes C 32 L (r) hp) = (xV k_So_comes C 33 L (.int (0) :: r) hp) := xVe _ _ _ _ _ _
theorem s_So_comes_33 (C : xCx) (r : List Value) (hp : xHp) (x : Int32) (a0 a1 a2 a3 : Value) : (xV k_So_comes C 33 [a0, a1, a2, a3] (.int x :: r) hp) = (3 < 4 ∧ xNl [a0, a1, a2, a3] 3 ∧ xV k_So_comes C 34 [a0, a1, a2, .int x] r hp) := xVe _ _ _ _ _ _
theorem s_So_comes_34 (C : xCx) (r : List Value) (hp : xHp) (x : Int32) (a0 a1 a2 : Value) : (xV k_So_comes C 34 [a0, a1, a2, .int x] r hp) = (xV k_So_comes C 35 [a0, a1, a2, .int x] (.int x :: r) hp) := xVe _ _ _ _ _ _
theorem s_So_comes_35  (C : xCx) (L r : List Value) (hp : xHp) : (xV k_So_comes C 35 L (r) hp) = (xV k_So_comes C 36 L (.int (4) :: r) hp) := xVe _ _ _ _ _ _
theorem s_So_comes_36 (x y : Int32) (C : xCx) (L r : List Value) (hp : xHp) : (xV k_So_comes C 36 L (.int y :: .int x :: r) hp) = (((y < x → xV k_So_comes C 71 L r hp) ∧ (¬ y < x → xV k_So_comes C 39 L r hp))) := xVe _ _ _ _ _ _
theorem s_So_comes_39 (C : xCx) (r : List Value) (hp : xHp) (x : Nat) (a1 a2 a3 : Value) : (xV k_So_comes C 39 [.ref x, a1, a2, a3] r hp) = (True ∧ xV k_So_comes C 40 [.ref x, a1, a2, a3] (.ref x :: r) hp) := xVe _ _ _ _ _ _
theorem s_So_comes_40 (a : Nat) (C : xCx) (L r : List Value) (hp : xHp) : (xV k_So_comes C 40 L (.ref a :: r) hp) = (xF hp a 0 12 (fun v => xV k_So_comes C 43 L (v :: r) hp)) := xVe _ _ _ _ _ _
theorem s_So_comes_43 (C : xCx) (r : List Value) (hp : xHp) (x : Int32) (a0 a2 a3 : Value) : (xV k_So_comes C 43 [a0, .int x, a2, a3] r hp) = (xV k_So_comes C 44 [a0, .int x, a2, a3] (.int x :: r) hp) := xVe _ _ _ _ _ _
theorem s_So_comes_44 (C : xCx) (r : List Value) (hp : xHp) (x : Int32) (a0 a1 a3 : Value) : (xV k_So_comes C 44 [a0, a1, .int x, a3] r hp) = (xV k_So_comes C 45 [a0, a1, .int x, a3] (.int x :: r) hp) := xVe _ _ _ _ _ _
theorem s_So_comes_45 (C : xCx) (r : List Value) (hp : xHp) (x : Int32) (a0 a1 a2 : Value) : (xV k_So_comes C 45 [a0, a1, a2, .int x] r hp) = (xV k_So_comes C 46 [a0, a1, a2, .int x] (.int x :: r) hp) := xVe _ _ _ _ _ _
theorem s_So_comes_46 (x0 : Int32) (x1 : Int32) (x2 : Int32) (a : Nat) (l : Launch) (d b lo gz n0 s0 : Nat) (Po : Option Value → xHp → Prop) (L r : List Value) (hp : xHp) : (xV k_So_comes (l, d + 1, b, lo, gz, n0, s0, m_So_comes, Po) 46 L (.int x2 :: .int x1 :: .int x0 :: .ref a :: r) hp) = (xO hp a 11 ∧ xcs r 8 ∧ xMi l d b lo gz m_Walk_comesTo [.ref a, .int x0, .int x1, .int x2] hp (fun x hp' => xV k_So_comes (l, d + 1, b, lo, gz, n0, s0, m_So_comes, Po) 49 L (.int x :: r) hp')) := xVe _ _ _ _ _ _
theorem s_So_comes_49 (x : Int32) (C : xCx) (L r : List Value) (hp : xHp) : (xV k_So_comes C 49 L (.int x :: r) hp) = (((x = 0 → xV k_So_comes C 65 L r hp) ∧ (¬ x = 0 → xV k_So_comes C 52 L r hp))) := xVe _ _ _ _ _ _
theorem s_So_comes_52 (C : xCx) (r : List Value) (hp : xHp) (x : Nat) (a1 a2 a3 : Value) : (xV k_So_comes C 52 [.ref x, a1, a2, a3] r hp) = (True ∧ xV k_So_comes C 53 [.ref x, a1, a2, a3] (.ref x :: r) hp) := xVe _ _ _ _ _ _
theorem s_So_comes_53 (a : Nat) (C : xCx) (L r : List Value) (hp : xHp) : (xV k_So_comes C 53 L (.ref a :: r) hp) = (xF hp a 0 12 (fun v => xV k_So_comes C 56 L (v :: r) hp)) := xVe _ _ _ _ _ _
theorem s_So_comes_56 (C : xCx) (r : List Value) (hp : xHp) (x : Nat) (a1 a2 a3 : Value) : (xV k_So_comes C 56 [.ref x, a1, a2, a3] r hp) = (True ∧ xV k_So_comes C 57 [.ref x, a1, a2, a3] (.ref x :: r) hp) := xVe _ _ _ _ _ _
theorem s_So_comes_57 (a : Nat) (C : xCx) (L r : List Value) (hp : xHp) : (xV k_So_comes C 57 L (.ref a :: r) hp) = (xF hp a 0 1 (fun v => xV k_So_comes C 60 L (v :: r) hp)) := xVe _ _ _ _ _ _
theorem s_So_comes_60 (x0 : Nat) (a : Nat) (l : Launch) (d b lo gz n0 s0 : Nat) (Po : Option Value → xHp → Prop) (L r : List Value) (hp : xHp) : (xV k_So_comes (l, d + 1, b, lo, gz, n0, s0, m_So_comes, Po) 60 L (.ref x0 :: .ref a :: r) hp) = (xO hp a 11 ∧ xcs r 8 ∧ xMv l d b lo gz m_Walk_tellPath [.ref a, .ref x0] hp (fun hp' => xV k_So_comes (l, d + 1, b, lo, gz, n0, s0, m_So_comes, Po) 63 L r hp')) := xVe _ _ _ _ _ _
theorem s_So_comes_63 (C : xCx) (r : List Value) (hp : xHp) (x : Int32) (a0 a1 a2 : Value) : (xV k_So_comes C 63 [a0, a1, a2, .int x] r hp) = (xV k_So_comes C 64 [a0, a1, a2, .int x] (.int x :: r) hp) := xVe _ _ _ _ _ _
theorem s_So_comes_64 (v : Int32) (l : Launch) (d b lo gz n0 s0 : Nat) (Po : Option Value → xHp → Prop) (L : List Value) (hp : xHp) : (xV k_So_comes (l, d, b, lo, gz, n0, s0, m_So_comes, Po) 64 L [.int v] hp) = (Po (some (.int v)) hp) := xVe _ _ _ _ _ _
theorem s_So_comes_65 (C : xCx) (r : List Value) (hp : xHp) (x : Int32) (a0 a1 a2 : Value) : (xV k_So_comes C 65 [a0, a1, a2, .int x] r hp) = (xNl [a0, a1, a2, .int x] 3 ∧ xV k_So_comes C 68 [a0, a1, a2, .int (x + (1))] r hp) := xVe _ _ _ _ _ _
theorem s_So_comes_68 (C : xCx) (L r : List Value) (hp : xHp) : (xV k_So_comes C 68 L r hp) = (xV k_So_comes C 34 L r hp) := xVe _ _ _ _ _ _
theorem s_So_comes_71  (C : xCx) (L r : List Value) (hp : xHp) : (xV k_So_comes C 71 L (r) hp) = (xV k_So_comes C 73 L (.int (-2) :: r) hp) := xVe _ _ _ _ _ _
theorem s_So_comes_73 (v : Int32) (l : Launch) (d b lo gz n0 s0 : Nat) (Po : Option Value → xHp → Prop) (L : List Value) (hp : xHp) : (xV k_So_comes (l, d, b, lo, gz, n0, s0, m_So_comes, Po) 73 L [.int v] hp) = (Po (some (.int v)) hp) := xVe _ _ _ _ _ _
theorem ml_So_324 : xLk "SunnyOnes" 324 m_Walk_waysTo := Or.inl (wg4 99 (by decide +kernel) rfl)
theorem ml_So_328 : xLk "SunnyOnes" 328 m_Walk_tellLeast := Or.inl (wg4 111 (by decide +kernel) rfl)
def k_So_ways : List xEC := [
  (0, .aload_n 0, 1, 0, 0, 0, m_x),
  (1, .iload_n 1, 2, 0, 0, 0, m_x),
  (2, .invokevirtual 179, 5, 0, 0, 0, m_So_has),
  (5, .ifCond .eq 22, 8, 0, 27, 0, m_x),
  (8, .iload_n 2, 9, 0, 0, 0, m_x),
  (9, .ifCond .lt 18, 12, 0, 27, 0, m_x),
  (12, .iload_n 2, 13, 0, 0, 0, m_x),
  (13, .bipush 36, 15, 0, 0, 0, m_x),
  (15, .if_icmp .gt 12, 18, 0, 27, 0, m_x),
  (18, .iload_n 3, 19, 0, 0, 0, m_x),
  (19, .ifCond .lt 8, 22, 0, 27, 0, m_x),
  (22, .iload_n 3, 23, 0, 0, 0, m_x),
  (23, .iconst 4, 24, 0, 0, 0, m_x),
  (24, .if_icmp .le 5, 27, 0, 29, 0, m_x),
  (27, .iconst (-1), 28, 0, 0, 0, m_x),
  (28, .ireturn, 29, 0, 0, 0, m_x),
  (29, .aload_n 0, 30, 0, 0, 0, m_x),
  (30, .getfield 58, 33, 0, 7, 0, m_x),
  (33, .aload_n 0, 34, 0, 0, 0, m_x),
  (34, .getfield 54, 37, 0, 6, 0, m_x),
  (37, .invokevirtual 215, 40, 3, 0, 0, m_Folk_copyFrom),
  (40, .aload_n 0, 41, 0, 0, 0, m_x),
  (41, .getfield 88, 44, 0, 12, 0, m_x),
  (44, .iload_n 1, 45, 0, 0, 0, m_x),
  (45, .iload_n 2, 46, 0, 0, 0, m_x),
  (46, .iload_n 3, 47, 0, 0, 0, m_x),
  (47, .invokevirtual 324, 50, 11, 0, 0, m_Walk_waysTo),
  (50, .istore 4, 52, 0, 0, 0, m_x),
  (52, .aload_n 0, 53, 0, 0, 0, m_x),
  (53, .getfield 19, 56, 0, 1, 0, m_x),
  (56, .invokevirtual 300, 59, 7, 0, 0, m_Row_clear),
  (59, .iload 4, 61, 0, 0, 0, m_x),
  (61, .ifCond .le 14, 64, 0, 75, 0, m_x),
  (64, .aload_n 0, 65, 0, 0, 0, m_x),
  (65, .getfield 88, 68, 0, 12, 0, m_x),
  (68, .aload_n 0, 69, 0, 0, 0, m_x),
  (69, .getfield 19, 72, 0, 1, 0, m_x),
  (72, .invokevirtual 328, 75, 11, 0, 0, m_Walk_tellLeast),
  (75, .iload 4, 77, 0, 0, 0, m_x),
  (77, .ireturn, 78, 0, 0, 0, m_x)]
theorem dc_So_ways : ∀ E ∈ k_So_ways, xDc m_So_ways E := by decide +kernel
set_option maxRecDepth 20000 in
theorem ok_So_ways : ∀ E ∈ k_So_ways, xOk m_So_ways E := xok_of dc_So_ways (xfc trivial (xfc trivial (xfc ⟨ml_So_179, kd_So_has⟩ (xfc (show ((5 : Nat) : Int) + (22) = ((27 : Nat) : Int) from by decide) (xfc trivial (xfc (show ((9 : Nat) : Int) + (18) = ((27 : Nat) : Int) from by decide) (xfc trivial (xfc trivial (xfc (show ((15 : Nat) : Int) + (12) = ((27 : Nat) : Int) from by decide) (xfc trivial (xfc (show ((19 : Nat) : Int) + (8) = ((27 : Nat) : Int) from by decide) (xfc trivial (xfc trivial (xfc (show ((24 : Nat) : Int) + (5) = ((29 : Nat) : Int) from by decide) (xfc trivial (xfc trivial (xfc trivial (xfc fl_So_58 (xfc trivial (xfc fl_So_54 (xfc ⟨ml_So_215, kd_Folk_copyFrom⟩ (xfc trivial (xfc fl_So_88 (xfc trivial (xfc trivial (xfc trivial (xfc ⟨ml_So_324, kd_Walk_waysTo⟩ (xfc trivial (xfc trivial (xfc fl_So_19 (xfc ⟨ml_So_300, kd_Row_clear⟩ (xfc trivial (xfc (show ((61 : Nat) : Int) + (14) = ((75 : Nat) : Int) from by decide) (xfc trivial (xfc fl_So_88 (xfc trivial (xfc fl_So_19 (xfc ⟨ml_So_328, kd_Walk_tellLeast⟩ (xfc trivial (xfc trivial (xfn)))))))))))))))))))))))))))))))))))))))))
theorem s_So_ways_0 (C : xCx) (r : List Value) (hp : xHp) (x : Nat) (a1 a2 a3 a4 : Value) : (xV k_So_ways C 0 [.ref x, a1, a2, a3, a4] r hp) = (True ∧ xV k_So_ways C 1 [.ref x, a1, a2, a3, a4] (.ref x :: r) hp) := xVe _ _ _ _ _ _
theorem s_So_ways_1 (C : xCx) (r : List Value) (hp : xHp) (x : Int32) (a0 a2 a3 a4 : Value) : (xV k_So_ways C 1 [a0, .int x, a2, a3, a4] r hp) = (xV k_So_ways C 2 [a0, .int x, a2, a3, a4] (.int x :: r) hp) := xVe _ _ _ _ _ _
theorem s_So_ways_2 (x0 : Int32) (a : Nat) (l : Launch) (d b lo gz n0 s0 : Nat) (Po : Option Value → xHp → Prop) (L r : List Value) (hp : xHp) : (xV k_So_ways (l, d + 1, b, lo, gz, n0, s0, m_So_ways, Po) 2 L (.int x0 :: .ref a :: r) hp) = (xO hp a 0 ∧ xcs r 8 ∧ xMi l d b lo gz m_So_has [.ref a, .int x0] hp (fun x hp' => xV k_So_ways (l, d + 1, b, lo, gz, n0, s0, m_So_ways, Po) 5 L (.int x :: r) hp')) := xVe _ _ _ _ _ _
theorem s_So_ways_5 (x : Int32) (C : xCx) (L r : List Value) (hp : xHp) : (xV k_So_ways C 5 L (.int x :: r) hp) = (((x = 0 → xV k_So_ways C 27 L r hp) ∧ (¬ x = 0 → xV k_So_ways C 8 L r hp))) := xVe _ _ _ _ _ _
theorem s_So_ways_8 (C : xCx) (r : List Value) (hp : xHp) (x : Int32) (a0 a1 a3 a4 : Value) : (xV k_So_ways C 8 [a0, a1, .int x, a3, a4] r hp) = (xV k_So_ways C 9 [a0, a1, .int x, a3, a4] (.int x :: r) hp) := xVe _ _ _ _ _ _
theorem s_So_ways_9 (x : Int32) (C : xCx) (L r : List Value) (hp : xHp) : (xV k_So_ways C 9 L (.int x :: r) hp) = (((x < 0 → xV k_So_ways C 27 L r hp) ∧ (¬ x < 0 → xV k_So_ways C 12 L r hp))) := xVe _ _ _ _ _ _
theorem s_So_ways_12 (C : xCx) (r : List Value) (hp : xHp) (x : Int32) (a0 a1 a3 a4 : Value) : (xV k_So_ways C 12 [a0, a1, .int x, a3, a4] r hp) = (xV k_So_ways C 13 [a0, a1, .int x, a3, a4] (.int x :: r) hp) := xVe _ _ _ _ _ _
theorem s_So_ways_13  (C : xCx) (L r : List Value) (hp : xHp) : (xV k_So_ways C 13 L (r) hp) = (xV k_So_ways C 15 L (.int (36) :: r) hp) := xVe _ _ _ _ _ _
theorem s_So_ways_15 (x y : Int32) (C : xCx) (L r : List Value) (hp : xHp) : (xV k_So_ways C 15 L (.int y :: .int x :: r) hp) = (((y < x → xV k_So_ways C 27 L r hp) ∧ (¬ y < x → xV k_So_ways C 18 L r hp))) := xVe _ _ _ _ _ _
theorem s_So_ways_18 (C : xCx) (r : List Value) (hp : xHp) (x : Int32) (a0 a1 a2 a4 : Value) : (xV k_So_ways C 18 [a0, a1, a2, .int x, a4] r hp) = (xV k_So_ways C 19 [a0, a1, a2, .int x, a4] (.int x :: r) hp) := xVe _ _ _ _ _ _
theorem s_So_ways_19 (x : Int32) (C : xCx) (L r : List Value) (hp : xHp) : (xV k_So_ways C 19 L (.int x :: r) hp) = (((x < 0 → xV k_So_ways C 27 L r hp) ∧ (¬ x < 0 → xV k_So_ways C 22 L r hp))) := xVe _ _ _ _ _ _
theorem s_So_ways_22 (C : xCx) (r : List Value) (hp : xHp) (x : Int32) (a0 a1 a2 a4 : Value) : (xV k_So_ways C 22 [a0, a1, a2, .int x, a4] r hp) = (xV k_So_ways C 23 [a0, a1, a2, .int x, a4] (.int x :: r) hp) := xVe _ _ _ _ _ _
theorem s_So_ways_23  (C : xCx) (L r : List Value) (hp : xHp) : (xV k_So_ways C 23 L (r) hp) = (xV k_So_ways C 24 L (.int (4) :: r) hp) := xVe _ _ _ _ _ _
theorem s_So_ways_24 (x y : Int32) (C : xCx) (L r : List Value) (hp : xHp) : (xV k_So_ways C 24 L (.int y :: .int x :: r) hp) = (((x ≤ y → xV k_So_ways C 29 L r hp) ∧ (¬ x ≤ y → xV k_So_ways C 27 L r hp))) := xVe _ _ _ _ _ _
theorem s_So_ways_27  (C : xCx) (L r : List Value) (hp : xHp) : (xV k_So_ways C 27 L (r) hp) = (xV k_So_ways C 28 L (.int (-1) :: r) hp) := xVe _ _ _ _ _ _
theorem s_So_ways_28 (v : Int32) (l : Launch) (d b lo gz n0 s0 : Nat) (Po : Option Value → xHp → Prop) (L : List Value) (hp : xHp) : (xV k_So_ways (l, d, b, lo, gz, n0, s0, m_So_ways, Po) 28 L [.int v] hp) = (Po (some (.int v)) hp) := xVe _ _ _ _ _ _
theorem s_So_ways_29 (C : xCx) (r : List Value) (hp : xHp) (x : Nat) (a1 a2 a3 a4 : Value) : (xV k_So_ways C 29 [.ref x, a1, a2, a3, a4] r hp) = (True ∧ xV k_So_ways C 30 [.ref x, a1, a2, a3, a4] (.ref x :: r) hp) := xVe _ _ _ _ _ _
theorem s_So_ways_30 (a : Nat) (C : xCx) (L r : List Value) (hp : xHp) : (xV k_So_ways C 30 L (.ref a :: r) hp) = (xF hp a 0 7 (fun v => xV k_So_ways C 33 L (v :: r) hp)) := xVe _ _ _ _ _ _
theorem s_So_ways_33 (C : xCx) (r : List Value) (hp : xHp) (x : Nat) (a1 a2 a3 a4 : Value) : (xV k_So_ways C 33 [.ref x, a1, a2, a3, a4] r hp) = (True ∧ xV k_So_ways C 34 [.ref x, a1, a2, a3, a4] (.ref x :: r) hp) := xVe _ _ _ _ _ _
theorem s_So_ways_34 (a : Nat) (C : xCx) (L r : List Value) (hp : xHp) : (xV k_So_ways C 34 L (.ref a :: r) hp) = (xF hp a 0 6 (fun v => xV k_So_ways C 37 L (v :: r) hp)) := xVe _ _ _ _ _ _
theorem s_So_ways_37 (x0 : Nat) (a : Nat) (l : Launch) (d b lo gz n0 s0 : Nat) (Po : Option Value → xHp → Prop) (L r : List Value) (hp : xHp) : (xV k_So_ways (l, d + 1, b, lo, gz, n0, s0, m_So_ways, Po) 37 L (.ref x0 :: .ref a :: r) hp) = (xO hp a 3 ∧ xcs r 8 ∧ xMv l d b lo gz m_Folk_copyFrom [.ref a, .ref x0] hp (fun hp' => xV k_So_ways (l, d + 1, b, lo, gz, n0, s0, m_So_ways, Po) 40 L r hp')) := xVe _ _ _ _ _ _
theorem s_So_ways_40 (C : xCx) (r : List Value) (hp : xHp) (x : Nat) (a1 a2 a3 a4 : Value) : (xV k_So_ways C 40 [.ref x, a1, a2, a3, a4] r hp) = (True ∧ xV k_So_ways C 41 [.ref x, a1, a2, a3, a4] (.ref x :: r) hp) := xVe _ _ _ _ _ _
theorem s_So_ways_41 (a : Nat) (C : xCx) (L r : List Value) (hp : xHp) : (xV k_So_ways C 41 L (.ref a :: r) hp) = (xF hp a 0 12 (fun v => xV k_So_ways C 44 L (v :: r) hp)) := xVe _ _ _ _ _ _
theorem s_So_ways_44 (C : xCx) (r : List Value) (hp : xHp) (x : Int32) (a0 a2 a3 a4 : Value) : (xV k_So_ways C 44 [a0, .int x, a2, a3, a4] r hp) = (xV k_So_ways C 45 [a0, .int x, a2, a3, a4] (.int x :: r) hp) := xVe _ _ _ _ _ _
theorem s_So_ways_45 (C : xCx) (r : List Value) (hp : xHp) (x : Int32) (a0 a1 a3 a4 : Value) : (xV k_So_ways C 45 [a0, a1, .int x, a3, a4] r hp) = (xV k_So_ways C 46 [a0, a1, .int x, a3, a4] (.int x :: r) hp) := xVe _ _ _ _ _ _
theorem s_So_ways_46 (C : xCx) (r : List Value) (hp : xHp) (x : Int32) (a0 a1 a2 a4 : Value) : (xV k_So_ways C 46 [a0, a1, a2, .int x, a4] r hp) = (xV k_So_ways C 47 [a0, a1, a2, .int x, a4] (.int x :: r) hp) := xVe _ _ _ _ _ _
theorem s_So_ways_47 (x0 : Int32) (x1 : Int32) (x2 : Int32) (a : Nat) (l : Launch) (d b lo gz n0 s0 : Nat) (Po : Option Value → xHp → Prop) (L r : List Value) (hp : xHp) : (xV k_So_ways (l, d + 1, b, lo, gz, n0, s0, m_So_ways, Po) 47 L (.int x2 :: .int x1 :: .int x0 :: .ref a :: r) hp) = (xO hp a 11 ∧ xcs r 8 ∧ xMi l d b lo gz m_Walk_waysTo [.ref a, .int x0, .int x1, .int x2] hp (fun x hp' => xV k_So_ways (l, d + 1, b, lo, gz, n0, s0, m_So_ways, Po) 50 L (.int x :: r) hp')) := xVe _ _ _ _ _ _
theorem s_So_ways_50 (C : xCx) (r : List Value) (hp : xHp) (x : Int32) (a0 a1 a2 a3 a4 : Value) : (xV k_So_ways C 50 [a0, a1, a2, a3, a4] (.int x :: r) hp) = (4 < 5 ∧ xNl [a0, a1, a2, a3, a4] 4 ∧ xV k_So_ways C 52 [a0, a1, a2, a3, .int x] r hp) := xVe _ _ _ _ _ _
theorem s_So_ways_52 (C : xCx) (r : List Value) (hp : xHp) (x : Nat) (a1 a2 a3 a4 : Value) : (xV k_So_ways C 52 [.ref x, a1, a2, a3, a4] r hp) = (True ∧ xV k_So_ways C 53 [.ref x, a1, a2, a3, a4] (.ref x :: r) hp) := xVe _ _ _ _ _ _
theorem s_So_ways_53 (a : Nat) (C : xCx) (L r : List Value) (hp : xHp) : (xV k_So_ways C 53 L (.ref a :: r) hp) = (xF hp a 0 1 (fun v => xV k_So_ways C 56 L (v :: r) hp)) := xVe _ _ _ _ _ _
theorem s_So_ways_56 (a : Nat) (l : Launch) (d b lo gz n0 s0 : Nat) (Po : Option Value → xHp → Prop) (L r : List Value) (hp : xHp) : (xV k_So_ways (l, d + 1, b, lo, gz, n0, s0, m_So_ways, Po) 56 L (.ref a :: r) hp) = (xO hp a 7 ∧ xcs r 8 ∧ xMv l d b lo gz m_Row_clear [.ref a] hp (fun hp' => xV k_So_ways (l, d + 1, b, lo, gz, n0, s0, m_So_ways, Po) 59 L r hp')) := xVe _ _ _ _ _ _
theorem s_So_ways_59 (C : xCx) (r : List Value) (hp : xHp) (x : Int32) (a0 a1 a2 a3 : Value) : (xV k_So_ways C 59 [a0, a1, a2, a3, .int x] r hp) = (xV k_So_ways C 61 [a0, a1, a2, a3, .int x] (.int x :: r) hp) := xVe _ _ _ _ _ _
theorem s_So_ways_61 (x : Int32) (C : xCx) (L r : List Value) (hp : xHp) : (xV k_So_ways C 61 L (.int x :: r) hp) = (((x ≤ 0 → xV k_So_ways C 75 L r hp) ∧ (¬ x ≤ 0 → xV k_So_ways C 64 L r hp))) := xVe _ _ _ _ _ _
theorem s_So_ways_64 (C : xCx) (r : List Value) (hp : xHp) (x : Nat) (a1 a2 a3 a4 : Value) : (xV k_So_ways C 64 [.ref x, a1, a2, a3, a4] r hp) = (True ∧ xV k_So_ways C 65 [.ref x, a1, a2, a3, a4] (.ref x :: r) hp) := xVe _ _ _ _ _ _
theorem s_So_ways_65 (a : Nat) (C : xCx) (L r : List Value) (hp : xHp) : (xV k_So_ways C 65 L (.ref a :: r) hp) = (xF hp a 0 12 (fun v => xV k_So_ways C 68 L (v :: r) hp)) := xVe _ _ _ _ _ _
theorem s_So_ways_68 (C : xCx) (r : List Value) (hp : xHp) (x : Nat) (a1 a2 a3 a4 : Value) : (xV k_So_ways C 68 [.ref x, a1, a2, a3, a4] r hp) = (True ∧ xV k_So_ways C 69 [.ref x, a1, a2, a3, a4] (.ref x :: r) hp) := xVe _ _ _ _ _ _
theorem s_So_ways_69 (a : Nat) (C : xCx) (L r : List Value) (hp : xHp) : (xV k_So_ways C 69 L (.ref a :: r) hp) = (xF hp a 0 1 (fun v => xV k_So_ways C 72 L (v :: r) hp)) := xVe _ _ _ _ _ _
theorem s_So_ways_72 (x0 : Nat) (a : Nat) (l : Launch) (d b lo gz n0 s0 : Nat) (Po : Option Value → xHp → Prop) (L r : List Value) (hp : xHp) : (xV k_So_ways (l, d + 1, b, lo, gz, n0, s0, m_So_ways, Po) 72 L (.ref x0 :: .ref a :: r) hp) = (xO hp a 11 ∧ xcs r 8 ∧ xMv l d b lo gz m_Walk_tellLeast [.ref a, .ref x0] hp (fun hp' => xV k_So_ways (l, d + 1, b, lo, gz, n0, s0, m_So_ways, Po) 75 L r hp')) := xVe _ _ _ _ _ _
theorem s_So_ways_75 (C : xCx) (r : List Value) (hp : xHp) (x : Int32) (a0 a1 a2 a3 : Value) : (xV k_So_ways C 75 [a0, a1, a2, a3, .int x] r hp) = (xV k_So_ways C 77 [a0, a1, a2, a3, .int x] (.int x :: r) hp) := xVe _ _ _ _ _ _
theorem s_So_ways_77 (v : Int32) (l : Launch) (d b lo gz n0 s0 : Nat) (Po : Option Value → xHp → Prop) (L : List Value) (hp : xHp) : (xV k_So_ways (l, d, b, lo, gz, n0, s0, m_So_ways, Po) 77 L [.int v] hp) = (Po (some (.int v)) hp) := xVe _ _ _ _ _ _
def k_So_hides : List xEC := [
  (0, .aload_n 0, 1, 0, 0, 0, m_x),
  (1, .iload_n 1, 2, 0, 0, 0, m_x),
  (2, .invokevirtual 179, 5, 0, 0, 0, m_So_has),
  (5, .ifCond .eq 14, 8, 0, 19, 0, m_x),
  (8, .iload_n 2, 9, 0, 0, 0, m_x),
  (9, .iconst 1, 10, 0, 0, 0, m_x),
  (10, .if_icmp .lt 9, 13, 0, 19, 0, m_x),
  (13, .iload_n 2, 14, 0, 0, 0, m_x),
  (14, .bipush 60, 16, 0, 0, 0, m_x),
  (16, .if_icmp .le 5, 19, 0, 21, 0, m_x),
  (19, .iconst (-1), 20, 0, 0, 0, m_x),
  (20, .ireturn, 21, 0, 0, 0, m_x),
  (21, .iconst 0, 22, 0, 0, 0, m_x),
  (22, .istore_n 3, 23, 0, 0, 0, m_x),
  (23, .sipush 10000, 26, 0, 0, 0, m_x),
  (26, .istore 4, 28, 0, 0, 0, m_x),
  (28, .iconst 0, 29, 0, 0, 0, m_x),
  (29, .istore 5, 31, 0, 0, 0, m_x),
  (31, .iconst 0, 32, 0, 0, 0, m_x),
  (32, .istore 6, 34, 0, 0, 0, m_x),
  (34, .iload 6, 36, 0, 0, 0, m_x),
  (36, .aload_n 0, 37, 0, 0, 0, m_x),
  (37, .getfield 26, 40, 0, 2, 0, m_x),
  (40, .invokevirtual 129, 43, 4, 0, 0, m_Land_size),
  (43, .if_icmp .ge 91, 46, 0, 134, 0, m_x),
  (46, .aload_n 0, 47, 0, 0, 0, m_x),
  (47, .getfield 58, 50, 0, 7, 0, m_x),
  (50, .aload_n 0, 51, 0, 0, 0, m_x),
  (51, .getfield 54, 54, 0, 6, 0, m_x),
  (54, .invokevirtual 215, 57, 3, 0, 0, m_Folk_copyFrom),
  (57, .aload_n 0, 58, 0, 0, 0, m_x),
  (58, .getfield 58, 61, 0, 7, 0, m_x),
  (61, .iload_n 1, 62, 0, 0, 0, m_x),
  (62, .iload 6, 64, 0, 0, 0, m_x),
  (64, .invokevirtual 267, 67, 3, 0, 0, m_Folk_setSpot),
  (67, .iconst 0, 68, 0, 0, 0, m_x),
  (68, .istore 7, 70, 0, 0, 0, m_x),
  (70, .iload 7, 72, 0, 0, 0, m_x),
  (72, .iload_n 2, 73, 0, 0, 0, m_x),
  (73, .if_icmp .ge 22, 76, 0, 95, 0, m_x),
  (76, .aload_n 0, 77, 0, 0, 0, m_x),
  (77, .getfield 47, 80, 0, 5, 0, m_x),
  (80, .aload_n 0, 81, 0, 0, 0, m_x),
  (81, .getfield 58, 84, 0, 7, 0, m_x),
  (84, .iload_n 1, 85, 0, 0, 0, m_x),
  (85, .invokevirtual 290, 88, 9, 0, 0, m_Sun_dayFor),
  (88, .pop, 89, 0, 0, 0, m_x),
  (89, .iinc 7 1, 92, 0, 0, 0, m_x),
  (92, .goto (-22), 95, 0, 70, 0, m_x),
  (95, .aload_n 0, 96, 0, 0, 0, m_x),
  (96, .getfield 58, 99, 0, 7, 0, m_x),
  (99, .iload_n 1, 100, 0, 0, 0, m_x),
  (100, .invokevirtual 185, 103, 3, 0, 0, m_Folk_age),
  (103, .istore 7, 105, 0, 0, 0, m_x),
  (105, .iload 5, 107, 0, 0, 0, m_x),
  (107, .iload 7, 109, 0, 0, 0, m_x),
  (109, .invokestatic 278, 112, 0, 0, 0, m_Math_max),
  (112, .istore 5, 114, 0, 0, 0, m_x),
  (114, .iload 7, 116, 0, 0, 0, m_x),
  (116, .iload 4, 118, 0, 0, 0, m_x),
  (118, .if_icmp .ge 10, 121, 0, 128, 0, m_x),
  (121, .iload 7, 123, 0, 0, 0, m_x),
  (123, .istore 4, 125, 0, 0, 0, m_x),
  (125, .iload 6, 127, 0, 0, 0, m_x),
  (127, .istore_n 3, 128, 0, 0, 0, m_x),
  (128, .iinc 6 1, 131, 0, 0, 0, m_x),
  (131, .goto (-97), 134, 0, 34, 0, m_x),
  (134, .aload_n 0, 135, 0, 0, 0, m_x),
  (135, .getfield 19, 138, 0, 1, 0, m_x),
  (138, .iload 4, 140, 0, 0, 0, m_x),
  (140, .i2l, 141, 0, 0, 0, m_x),
  (141, .iload 5, 143, 0, 0, 0, m_x),
  (143, .i2l, 144, 0, 0, 0, m_x),
  (144, .invokevirtual 225, 147, 7, 0, 0, m_Row_tell2),
  (147, .iload_n 3, 148, 0, 0, 0, m_x),
  (148, .ireturn, 149, 0, 0, 0, m_x)]
theorem dc_So_hides : ∀ E ∈ k_So_hides, xDc m_So_hides E := by decide +kernel
set_option maxRecDepth 20000 in
theorem ok_So_hides : ∀ E ∈ k_So_hides, xOk m_So_hides E := xok_of dc_So_hides (xfc trivial (xfc trivial (xfc ⟨ml_So_179, kd_So_has⟩ (xfc (show ((5 : Nat) : Int) + (14) = ((19 : Nat) : Int) from by decide) (xfc trivial (xfc trivial (xfc (show ((10 : Nat) : Int) + (9) = ((19 : Nat) : Int) from by decide) (xfc trivial (xfc trivial (xfc (show ((16 : Nat) : Int) + (5) = ((21 : Nat) : Int) from by decide) (xfc trivial (xfc trivial (xfc trivial (xfc trivial (xfc trivial (xfc trivial (xfc trivial (xfc trivial (xfc trivial (xfc trivial (xfc trivial (xfc trivial (xfc fl_So_26 (xfc ⟨ml_So_129, kd_Land_size⟩ (xfc (show ((43 : Nat) : Int) + (91) = ((134 : Nat) : Int) from by decide) (xfc trivial (xfc fl_So_58 (xfc trivial (xfc fl_So_54 (xfc ⟨ml_So_215, kd_Folk_copyFrom⟩ (xfc trivial (xfc fl_So_58 (xfc trivial (xfc trivial (xfc ⟨ml_So_267, kd_Folk_setSpot⟩ (xfc trivial (xfc trivial (xfc trivial (xfc trivial (xfc (show ((73 : Nat) : Int) + (22) = ((95 : Nat) : Int) from by decide) (xfc trivial (xfc fl_So_47 (xfc trivial (xfc fl_So_58 (xfc trivial (xfc ⟨ml_So_290, kd_Sun_dayFor⟩ (xfc trivial (xfc trivial (xfc (show ((92 : Nat) : Int) + (-22) = ((70 : Nat) : Int) from by decide) (xfc trivial (xfc fl_So_58 (xfc trivial (xfc ⟨ml_So_185, kd_Folk_age⟩ (xfc trivial (xfc trivial (xfc trivial (xfc ⟨ml_So_278, kd_Math_max⟩ (xfc trivial (xfc trivial (xfc trivial (xfc (show ((118 : Nat) : Int) + (10) = ((128 : Nat) : Int) from by decide) (xfc trivial (xfc trivial (xfc trivial (xfc trivial (xfc trivial (xfc (show ((131 : Nat) : Int) + (-97) = ((34 : Nat) : Int) from by decide) (xfc trivial (xfc fl_So_19 (xfc trivial (xfc trivial (xfc trivial (xfc trivial (xfc ⟨ml_So_225, kd_Row_tell2⟩ (xfc trivial (xfc trivial (xfn)))))))))))))))))))))))))))))))))))))))))))))))))))))))))))))))))))))))))))))
theorem s_So_hides_0 (C : xCx) (r : List Value) (hp : xHp) (x : Nat) (a1 a2 a3 a4 a5 a6 a7 : Value) : (xV k_So_hides C 0 [.ref x, a1, a2, a3, a4, a5, a6, a7] r hp) = (True ∧ xV k_So_hides C 1 [.ref x, a1, a2, a3, a4, a5, a6, a7] (.ref x :: r) hp) := xVe _ _ _ _ _ _
theorem s_So_hides_1 (C : xCx) (r : List Value) (hp : xHp) (x : Int32) (a0 a2 a3 a4 a5 a6 a7 : Value) : (xV k_So_hides C 1 [a0, .int x, a2, a3, a4, a5, a6, a7] r hp) = (xV k_So_hides C 2 [a0, .int x, a2, a3, a4, a5, a6, a7] (.int x :: r) hp) := xVe _ _ _ _ _ _
theorem s_So_hides_2 (x0 : Int32) (a : Nat) (l : Launch) (d b lo gz n0 s0 : Nat) (Po : Option Value → xHp → Prop) (L r : List Value) (hp : xHp) : (xV k_So_hides (l, d + 1, b, lo, gz, n0, s0, m_So_hides, Po) 2 L (.int x0 :: .ref a :: r) hp) = (xO hp a 0 ∧ xcs r 8 ∧ xMi l d b lo gz m_So_has [.ref a, .int x0] hp (fun x hp' => xV k_So_hides (l, d + 1, b, lo, gz, n0, s0, m_So_hides, Po) 5 L (.int x :: r) hp')) := xVe _ _ _ _ _ _
theorem s_So_hides_5 (x : Int32) (C : xCx) (L r : List Value) (hp : xHp) : (xV k_So_hides C 5 L (.int x :: r) hp) = (((x = 0 → xV k_So_hides C 19 L r hp) ∧ (¬ x = 0 → xV k_So_hides C 8 L r hp))) := xVe _ _ _ _ _ _
theorem s_So_hides_8 (C : xCx) (r : List Value) (hp : xHp) (x : Int32) (a0 a1 a3 a4 a5 a6 a7 : Value) : (xV k_So_hides C 8 [a0, a1, .int x, a3, a4, a5, a6, a7] r hp) = (xV k_So_hides C 9 [a0, a1, .int x, a3, a4, a5, a6, a7] (.int x :: r) hp) := xVe _ _ _ _ _ _
theorem s_So_hides_9  (C : xCx) (L r : List Value) (hp : xHp) : (xV k_So_hides C 9 L (r) hp) = (xV k_So_hides C 10 L (.int (1) :: r) hp) := xVe _ _ _ _ _ _
theorem s_So_hides_10 (x y : Int32) (C : xCx) (L r : List Value) (hp : xHp) : (xV k_So_hides C 10 L (.int y :: .int x :: r) hp) = (((x < y → xV k_So_hides C 19 L r hp) ∧ (¬ x < y → xV k_So_hides C 13 L r hp))) := xVe _ _ _ _ _ _
theorem s_So_hides_13 (C : xCx) (r : List Value) (hp : xHp) (x : Int32) (a0 a1 a3 a4 a5 a6 a7 : Value) : (xV k_So_hides C 13 [a0, a1, .int x, a3, a4, a5, a6, a7] r hp) = (xV k_So_hides C 14 [a0, a1, .int x, a3, a4, a5, a6, a7] (.int x :: r) hp) := xVe _ _ _ _ _ _
theorem s_So_hides_14  (C : xCx) (L r : List Value) (hp : xHp) : (xV k_So_hides C 14 L (r) hp) = (xV k_So_hides C 16 L (.int (60) :: r) hp) := xVe _ _ _ _ _ _
theorem s_So_hides_16 (x y : Int32) (C : xCx) (L r : List Value) (hp : xHp) : (xV k_So_hides C 16 L (.int y :: .int x :: r) hp) = (((x ≤ y → xV k_So_hides C 21 L r hp) ∧ (¬ x ≤ y → xV k_So_hides C 19 L r hp))) := xVe _ _ _ _ _ _
theorem s_So_hides_19  (C : xCx) (L r : List Value) (hp : xHp) : (xV k_So_hides C 19 L (r) hp) = (xV k_So_hides C 20 L (.int (-1) :: r) hp) := xVe _ _ _ _ _ _
theorem s_So_hides_20 (v : Int32) (l : Launch) (d b lo gz n0 s0 : Nat) (Po : Option Value → xHp → Prop) (L : List Value) (hp : xHp) : (xV k_So_hides (l, d, b, lo, gz, n0, s0, m_So_hides, Po) 20 L [.int v] hp) = (Po (some (.int v)) hp) := xVe _ _ _ _ _ _
theorem s_So_hides_21  (C : xCx) (L r : List Value) (hp : xHp) : (xV k_So_hides C 21 L (r) hp) = (xV k_So_hides C 22 L (.int (0) :: r) hp) := xVe _ _ _ _ _ _
theorem s_So_hides_22 (C : xCx) (r : List Value) (hp : xHp) (x : Int32) (a0 a1 a2 a3 a4 a5 a6 a7 : Value) : (xV k_So_hides C 22 [a0, a1, a2, a3, a4, a5, a6, a7] (.int x :: r) hp) = (3 < 8 ∧ xNl [a0, a1, a2, a3, a4, a5, a6, a7] 3 ∧ xV k_So_hides C 23 [a0, a1, a2, .int x, a4, a5, a6, a7] r hp) := xVe _ _ _ _ _ _
theorem s_So_hides_23  (C : xCx) (L r : List Value) (hp : xHp) : (xV k_So_hides C 23 L (r) hp) = (xV k_So_hides C 26 L (.int (10000) :: r) hp) := xVe _ _ _ _ _ _
theorem s_So_hides_26 (C : xCx) (r : List Value) (hp : xHp) (x : Int32) (a0 a1 a2 a3 a4 a5 a6 a7 : Value) : (xV k_So_hides C 26 [a0, a1, a2, a3, a4, a5, a6, a7] (.int x :: r) hp) = (4 < 8 ∧ xNl [a0, a1, a2, a3, a4, a5, a6, a7] 4 ∧ xV k_So_hides C 28 [a0, a1, a2, a3, .int x, a5, a6, a7] r hp) := xVe _ _ _ _ _ _
theorem s_So_hides_28  (C : xCx) (L r : List Value) (hp : xHp) : (xV k_So_hides C 28 L (r) hp) = (xV k_So_hides C 29 L (.int (0) :: r) hp) := xVe _ _ _ _ _ _
theorem s_So_hides_29 (C : xCx) (r : List Value) (hp : xHp) (x : Int32) (a0 a1 a2 a3 a4 a5 a6 a7 : Value) : (xV k_So_hides C 29 [a0, a1, a2, a3, a4, a5, a6, a7] (.int x :: r) hp) = (5 < 8 ∧ xNl [a0, a1, a2, a3, a4, a5, a6, a7] 5 ∧ xV k_So_hides C 31 [a0, a1, a2, a3, a4, .int x, a6, a7] r hp) := xVe _ _ _ _ _ _
theorem s_So_hides_31  (C : xCx) (L r : List Value) (hp : xHp) : (xV k_So_hides C 31 L (r) hp) = (xV k_So_hides C 32 L (.int (0) :: r) hp) := xVe _ _ _ _ _ _
theorem s_So_hides_32 (C : xCx) (r : List Value) (hp : xHp) (x : Int32) (a0 a1 a2 a3 a4 a5 a6 a7 : Value) : (xV k_So_hides C 32 [a0, a1, a2, a3, a4, a5, a6, a7] (.int x :: r) hp) = (6 < 8 ∧ xNl [a0, a1, a2, a3, a4, a5, a6, a7] 6 ∧ xV k_So_hides C 34 [a0, a1, a2, a3, a4, a5, .int x, a7] r hp) := xVe _ _ _ _ _ _
theorem s_So_hides_34 (C : xCx) (r : List Value) (hp : xHp) (x : Int32) (a0 a1 a2 a3 a4 a5 a7 : Value) : (xV k_So_hides C 34 [a0, a1, a2, a3, a4, a5, .int x, a7] r hp) = (xV k_So_hides C 36 [a0, a1, a2, a3, a4, a5, .int x, a7] (.int x :: r) hp) := xVe _ _ _ _ _ _
theorem s_So_hides_36 (C : xCx) (r : List Value) (hp : xHp) (x : Nat) (a1 a2 a3 a4 a5 a6 a7 : Value) : (xV k_So_hides C 36 [.ref x, a1, a2, a3, a4, a5, a6, a7] r hp) = (True ∧ xV k_So_hides C 37 [.ref x, a1, a2, a3, a4, a5, a6, a7] (.ref x :: r) hp) := xVe _ _ _ _ _ _
theorem s_So_hides_37 (a : Nat) (C : xCx) (L r : List Value) (hp : xHp) : (xV k_So_hides C 37 L (.ref a :: r) hp) = (xF hp a 0 2 (fun v => xV k_So_hides C 40 L (v :: r) hp)) := xVe _ _ _ _ _ _
theorem s_So_hides_40 (a : Nat) (l : Launch) (d b lo gz n0 s0 : Nat) (Po : Option Value → xHp → Prop) (L r : List Value) (hp : xHp) : (xV k_So_hides (l, d + 1, b, lo, gz, n0, s0, m_So_hides, Po) 40 L (.ref a :: r) hp) = (xO hp a 4 ∧ xcs r 8 ∧ xMi l d b lo gz m_Land_size [.ref a] hp (fun x hp' => xV k_So_hides (l, d + 1, b, lo, gz, n0, s0, m_So_hides, Po) 43 L (.int x :: r) hp')) := xVe _ _ _ _ _ _
theorem s_So_hides_43 (x y : Int32) (C : xCx) (L r : List Value) (hp : xHp) : (xV k_So_hides C 43 L (.int y :: .int x :: r) hp) = (((y ≤ x → xV k_So_hides C 134 L r hp) ∧ (¬ y ≤ x → xV k_So_hides C 46 L r hp))) := xVe _ _ _ _ _ _
theorem s_So_hides_46 (C : xCx) (r : List Value) (hp : xHp) (x : Nat) (a1 a2 a3 a4 a5 a6 a7 : Value) : (xV k_So_hides C 46 [.ref x, a1, a2, a3, a4, a5, a6, a7] r hp) = (True ∧ xV k_So_hides C 47 [.ref x, a1, a2, a3, a4, a5, a6, a7] (.ref x :: r) hp) := xVe _ _ _ _ _ _
theorem s_So_hides_47 (a : Nat) (C : xCx) (L r : List Value) (hp : xHp) : (xV k_So_hides C 47 L (.ref a :: r) hp) = (xF hp a 0 7 (fun v => xV k_So_hides C 50 L (v :: r) hp)) := xVe _ _ _ _ _ _
theorem s_So_hides_50 (C : xCx) (r : List Value) (hp : xHp) (x : Nat) (a1 a2 a3 a4 a5 a6 a7 : Value) : (xV k_So_hides C 50 [.ref x, a1, a2, a3, a4, a5, a6, a7] r hp) = (True ∧ xV k_So_hides C 51 [.ref x, a1, a2, a3, a4, a5, a6, a7] (.ref x :: r) hp) := xVe _ _ _ _ _ _
theorem s_So_hides_51 (a : Nat) (C : xCx) (L r : List Value) (hp : xHp) : (xV k_So_hides C 51 L (.ref a :: r) hp) = (xF hp a 0 6 (fun v => xV k_So_hides C 54 L (v :: r) hp)) := xVe _ _ _ _ _ _
theorem s_So_hides_54 (x0 : Nat) (a : Nat) (l : Launch) (d b lo gz n0 s0 : Nat) (Po : Option Value → xHp → Prop) (L r : List Value) (hp : xHp) : (xV k_So_hides (l, d + 1, b, lo, gz, n0, s0, m_So_hides, Po) 54 L (.ref x0 :: .ref a :: r) hp) = (xO hp a 3 ∧ xcs r 8 ∧ xMv l d b lo gz m_Folk_copyFrom [.ref a, .ref x0] hp (fun hp' => xV k_So_hides (l, d + 1, b, lo, gz, n0, s0, m_So_hides, Po) 57 L r hp')) := xVe _ _ _ _ _ _
theorem s_So_hides_57 (C : xCx) (r : List Value) (hp : xHp) (x : Nat) (a1 a2 a3 a4 a5 a6 a7 : Value) : (xV k_So_hides C 57 [.ref x, a1, a2, a3, a4, a5, a6, a7] r hp) = (True ∧ xV k_So_hides C 58 [.ref x, a1, a2, a3, a4, a5, a6, a7] (.ref x :: r) hp) := xVe _ _ _ _ _ _
theorem s_So_hides_58 (a : Nat) (C : xCx) (L r : List Value) (hp : xHp) : (xV k_So_hides C 58 L (.ref a :: r) hp) = (xF hp a 0 7 (fun v => xV k_So_hides C 61 L (v :: r) hp)) := xVe _ _ _ _ _ _
theorem s_So_hides_61 (C : xCx) (r : List Value) (hp : xHp) (x : Int32) (a0 a2 a3 a4 a5 a6 a7 : Value) : (xV k_So_hides C 61 [a0, .int x, a2, a3, a4, a5, a6, a7] r hp) = (xV k_So_hides C 62 [a0, .int x, a2, a3, a4, a5, a6, a7] (.int x :: r) hp) := xVe _ _ _ _ _ _
theorem s_So_hides_62 (C : xCx) (r : List Value) (hp : xHp) (x : Int32) (a0 a1 a2 a3 a4 a5 a7 : Value) : (xV k_So_hides C 62 [a0, a1, a2, a3, a4, a5, .int x, a7] r hp) = (xV k_So_hides C 64 [a0, a1, a2, a3, a4, a5, .int x, a7] (.int x :: r) hp) := xVe _ _ _ _ _ _
theorem s_So_hides_64 (x0 : Int32) (x1 : Int32) (a : Nat) (l : Launch) (d b lo gz n0 s0 : Nat) (Po : Option Value → xHp → Prop) (L r : List Value) (hp : xHp) : (xV k_So_hides (l, d + 1, b, lo, gz, n0, s0, m_So_hides, Po) 64 L (.int x1 :: .int x0 :: .ref a :: r) hp) = (xO hp a 3 ∧ xcs r 8 ∧ xMv l d b lo gz m_Folk_setSpot [.ref a, .int x0, .int x1] hp (fun hp' => xV k_So_hides (l, d + 1, b, lo, gz, n0, s0, m_So_hides, Po) 67 L r hp')) := xVe _ _ _ _ _ _
theorem s_So_hides_67  (C : xCx) (L r : List Value) (hp : xHp) : (xV k_So_hides C 67 L (r) hp) = (xV k_So_hides C 68 L (.int (0) :: r) hp) := xVe _ _ _ _ _ _
theorem s_So_hides_68 (C : xCx) (r : List Value) (hp : xHp) (x : Int32) (a0 a1 a2 a3 a4 a5 a6 a7 : Value) : (xV k_So_hides C 68 [a0, a1, a2, a3, a4, a5, a6, a7] (.int x :: r) hp) = (7 < 8 ∧ xNl [a0, a1, a2, a3, a4, a5, a6, a7] 7 ∧ xV k_So_hides C 70 [a0, a1, a2, a3, a4, a5, a6, .int x] r hp) := xVe _ _ _ _ _ _
theorem s_So_hides_70 (C : xCx) (r : List Value) (hp : xHp) (x : Int32) (a0 a1 a2 a3 a4 a5 a6 : Value) : (xV k_So_hides C 70 [a0, a1, a2, a3, a4, a5, a6, .int x] r hp) = (xV k_So_hides C 72 [a0, a1, a2, a3, a4, a5, a6, .int x] (.int x :: r) hp) := xVe _ _ _ _ _ _
theorem s_So_hides_72 (C : xCx) (r : List Value) (hp : xHp) (x : Int32) (a0 a1 a3 a4 a5 a6 a7 : Value) : (xV k_So_hides C 72 [a0, a1, .int x, a3, a4, a5, a6, a7] r hp) = (xV k_So_hides C 73 [a0, a1, .int x, a3, a4, a5, a6, a7] (.int x :: r) hp) := xVe _ _ _ _ _ _
theorem s_So_hides_73 (x y : Int32) (C : xCx) (L r : List Value) (hp : xHp) : (xV k_So_hides C 73 L (.int y :: .int x :: r) hp) = (((y ≤ x → xV k_So_hides C 95 L r hp) ∧ (¬ y ≤ x → xV k_So_hides C 76 L r hp))) := xVe _ _ _ _ _ _
theorem s_So_hides_76 (C : xCx) (r : List Value) (hp : xHp) (x : Nat) (a1 a2 a3 a4 a5 a6 a7 : Value) : (xV k_So_hides C 76 [.ref x, a1, a2, a3, a4, a5, a6, a7] r hp) = (True ∧ xV k_So_hides C 77 [.ref x, a1, a2, a3, a4, a5, a6, a7] (.ref x :: r) hp) := xVe _ _ _ _ _ _
theorem s_So_hides_77 (a : Nat) (C : xCx) (L r : List Value) (hp : xHp) : (xV k_So_hides C 77 L (.ref a :: r) hp) = (xF hp a 0 5 (fun v => xV k_So_hides C 80 L (v :: r) hp)) := xVe _ _ _ _ _ _
theorem s_So_hides_80 (C : xCx) (r : List Value) (hp : xHp) (x : Nat) (a1 a2 a3 a4 a5 a6 a7 : Value) : (xV k_So_hides C 80 [.ref x, a1, a2, a3, a4, a5, a6, a7] r hp) = (True ∧ xV k_So_hides C 81 [.ref x, a1, a2, a3, a4, a5, a6, a7] (.ref x :: r) hp) := xVe _ _ _ _ _ _
theorem s_So_hides_81 (a : Nat) (C : xCx) (L r : List Value) (hp : xHp) : (xV k_So_hides C 81 L (.ref a :: r) hp) = (xF hp a 0 7 (fun v => xV k_So_hides C 84 L (v :: r) hp)) := xVe _ _ _ _ _ _
theorem s_So_hides_84 (C : xCx) (r : List Value) (hp : xHp) (x : Int32) (a0 a2 a3 a4 a5 a6 a7 : Value) : (xV k_So_hides C 84 [a0, .int x, a2, a3, a4, a5, a6, a7] r hp) = (xV k_So_hides C 85 [a0, .int x, a2, a3, a4, a5, a6, a7] (.int x :: r) hp) := xVe _ _ _ _ _ _
theorem s_So_hides_85 (x0 : Nat) (x1 : Int32) (a : Nat) (l : Launch) (d b lo gz n0 s0 : Nat) (Po : Option Value → xHp → Prop) (L r : List Value) (hp : xHp) : (xV k_So_hides (l, d + 1, b, lo, gz, n0, s0, m_So_hides, Po) 85 L (.int x1 :: .ref x0 :: .ref a :: r) hp) = (xO hp a 9 ∧ xcs r 8 ∧ xMi l d b lo gz m_Sun_dayFor [.ref a, .ref x0, .int x1] hp (fun x hp' => xV k_So_hides (l, d + 1, b, lo, gz, n0, s0, m_So_hides, Po) 88 L (.int x :: r) hp')) := xVe _ _ _ _ _ _
theorem s_So_hides_88 (v : Value) (C : xCx) (L r : List Value) (hp : xHp) : (xV k_So_hides C 88 L (v :: r) hp) = (v.category = 1 ∧ xV k_So_hides C 89 L (r) hp) := xVe _ _ _ _ _ _
theorem s_So_hides_89 (C : xCx) (r : List Value) (hp : xHp) (x : Int32) (a0 a1 a2 a3 a4 a5 a6 : Value) : (xV k_So_hides C 89 [a0, a1, a2, a3, a4, a5, a6, .int x] r hp) = (xNl [a0, a1, a2, a3, a4, a5, a6, .int x] 7 ∧ xV k_So_hides C 92 [a0, a1, a2, a3, a4, a5, a6, .int (x + (1))] r hp) := xVe _ _ _ _ _ _
theorem s_So_hides_92 (C : xCx) (L r : List Value) (hp : xHp) : (xV k_So_hides C 92 L r hp) = (xV k_So_hides C 70 L r hp) := xVe _ _ _ _ _ _
theorem s_So_hides_95 (C : xCx) (r : List Value) (hp : xHp) (x : Nat) (a1 a2 a3 a4 a5 a6 a7 : Value) : (xV k_So_hides C 95 [.ref x, a1, a2, a3, a4, a5, a6, a7] r hp) = (True ∧ xV k_So_hides C 96 [.ref x, a1, a2, a3, a4, a5, a6, a7] (.ref x :: r) hp) := xVe _ _ _ _ _ _
theorem s_So_hides_96 (a : Nat) (C : xCx) (L r : List Value) (hp : xHp) : (xV k_So_hides C 96 L (.ref a :: r) hp) = (xF hp a 0 7 (fun v => xV k_So_hides C 99 L (v :: r) hp)) := xVe _ _ _ _ _ _
theorem s_So_hides_99 (C : xCx) (r : List Value) (hp : xHp) (x : Int32) (a0 a2 a3 a4 a5 a6 a7 : Value) : (xV k_So_hides C 99 [a0, .int x, a2, a3, a4, a5, a6, a7] r hp) = (xV k_So_hides C 100 [a0, .int x, a2, a3, a4, a5, a6, a7] (.int x :: r) hp) := xVe _ _ _ _ _ _
theorem s_So_hides_100 (x0 : Int32) (a : Nat) (l : Launch) (d b lo gz n0 s0 : Nat) (Po : Option Value → xHp → Prop) (L r : List Value) (hp : xHp) : (xV k_So_hides (l, d + 1, b, lo, gz, n0, s0, m_So_hides, Po) 100 L (.int x0 :: .ref a :: r) hp) = (xO hp a 3 ∧ xcs r 8 ∧ xMi l d b lo gz m_Folk_age [.ref a, .int x0] hp (fun x hp' => xV k_So_hides (l, d + 1, b, lo, gz, n0, s0, m_So_hides, Po) 103 L (.int x :: r) hp')) := xVe _ _ _ _ _ _
theorem s_So_hides_103 (C : xCx) (r : List Value) (hp : xHp) (x : Int32) (a0 a1 a2 a3 a4 a5 a6 a7 : Value) : (xV k_So_hides C 103 [a0, a1, a2, a3, a4, a5, a6, a7] (.int x :: r) hp) = (7 < 8 ∧ xNl [a0, a1, a2, a3, a4, a5, a6, a7] 7 ∧ xV k_So_hides C 105 [a0, a1, a2, a3, a4, a5, a6, .int x] r hp) := xVe _ _ _ _ _ _
theorem s_So_hides_105 (C : xCx) (r : List Value) (hp : xHp) (x : Int32) (a0 a1 a2 a3 a4 a6 a7 : Value) : (xV k_So_hides C 105 [a0, a1, a2, a3, a4, .int x, a6, a7] r hp) = (xV k_So_hides C 107 [a0, a1, a2, a3, a4, .int x, a6, a7] (.int x :: r) hp) := xVe _ _ _ _ _ _
theorem s_So_hides_107 (C : xCx) (r : List Value) (hp : xHp) (x : Int32) (a0 a1 a2 a3 a4 a5 a6 : Value) : (xV k_So_hides C 107 [a0, a1, a2, a3, a4, a5, a6, .int x] r hp) = (xV k_So_hides C 109 [a0, a1, a2, a3, a4, a5, a6, .int x] (.int x :: r) hp) := xVe _ _ _ _ _ _
theorem s_So_hides_109 (x0 : Int32) (x1 : Int32) (l : Launch) (d b lo gz n0 s0 : Nat) (Po : Option Value → xHp → Prop) (L r : List Value) (hp : xHp) : (xV k_So_hides (l, d + 1, b, lo, gz, n0, s0, m_So_hides, Po) 109 L (.int x1 :: .int x0 :: r) hp) = (2 ≤ List.length (.int x1 :: .int x0 :: r) ∧ xcs r 8 ∧ xMi l d b lo gz m_Math_max [.int x0, .int x1] hp (fun x hp' => xV k_So_hides (l, d + 1, b, lo, gz, n0, s0, m_So_hides, Po) 112 L (.int x :: r) hp')) := xVe _ _ _ _ _ _
theorem s_So_hides_112 (C : xCx) (r : List Value) (hp : xHp) (x : Int32) (a0 a1 a2 a3 a4 a5 a6 a7 : Value) : (xV k_So_hides C 112 [a0, a1, a2, a3, a4, a5, a6, a7] (.int x :: r) hp) = (5 < 8 ∧ xNl [a0, a1, a2, a3, a4, a5, a6, a7] 5 ∧ xV k_So_hides C 114 [a0, a1, a2, a3, a4, .int x, a6, a7] r hp) := xVe _ _ _ _ _ _
theorem s_So_hides_114 (C : xCx) (r : List Value) (hp : xHp) (x : Int32) (a0 a1 a2 a3 a4 a5 a6 : Value) : (xV k_So_hides C 114 [a0, a1, a2, a3, a4, a5, a6, .int x] r hp) = (xV k_So_hides C 116 [a0, a1, a2, a3, a4, a5, a6, .int x] (.int x :: r) hp) := xVe _ _ _ _ _ _
theorem s_So_hides_116 (C : xCx) (r : List Value) (hp : xHp) (x : Int32) (a0 a1 a2 a3 a5 a6 a7 : Value) : (xV k_So_hides C 116 [a0, a1, a2, a3, .int x, a5, a6, a7] r hp) = (xV k_So_hides C 118 [a0, a1, a2, a3, .int x, a5, a6, a7] (.int x :: r) hp) := xVe _ _ _ _ _ _
theorem s_So_hides_118 (x y : Int32) (C : xCx) (L r : List Value) (hp : xHp) : (xV k_So_hides C 118 L (.int y :: .int x :: r) hp) = (((y ≤ x → xV k_So_hides C 128 L r hp) ∧ (¬ y ≤ x → xV k_So_hides C 121 L r hp))) := xVe _ _ _ _ _ _
theorem s_So_hides_121 (C : xCx) (r : List Value) (hp : xHp) (x : Int32) (a0 a1 a2 a3 a4 a5 a6 : Value) : (xV k_So_hides C 121 [a0, a1, a2, a3, a4, a5, a6, .int x] r hp) = (xV k_So_hides C 123 [a0, a1, a2, a3, a4, a5, a6, .int x] (.int x :: r) hp) := xVe _ _ _ _ _ _
theorem s_So_hides_123 (C : xCx) (r : List Value) (hp : xHp) (x : Int32) (a0 a1 a2 a3 a4 a5 a6 a7 : Value) : (xV k_So_hides C 123 [a0, a1, a2, a3, a4, a5, a6, a7] (.int x :: r) hp) = (4 < 8 ∧ xNl [a0, a1, a2, a3, a4, a5, a6, a7] 4 ∧ xV k_So_hides C 125 [a0, a1, a2, a3, .int x, a5, a6, a7] r hp) := xVe _ _ _ _ _ _
theorem s_So_hides_125 (C : xCx) (r : List Value) (hp : xHp) (x : Int32) (a0 a1 a2 a3 a4 a5 a7 : Value) : (xV k_So_hides C 125 [a0, a1, a2, a3, a4, a5, .int x, a7] r hp) = (xV k_So_hides C 127 [a0, a1, a2, a3, a4, a5, .int x, a7] (.int x :: r) hp) := xVe _ _ _ _ _ _
theorem s_So_hides_127 (C : xCx) (r : List Value) (hp : xHp) (x : Int32) (a0 a1 a2 a3 a4 a5 a6 a7 : Value) : (xV k_So_hides C 127 [a0, a1, a2, a3, a4, a5, a6, a7] (.int x :: r) hp) = (3 < 8 ∧ xNl [a0, a1, a2, a3, a4, a5, a6, a7] 3 ∧ xV k_So_hides C 128 [a0, a1, a2, .int x, a4, a5, a6, a7] r hp) := xVe _ _ _ _ _ _
theorem s_So_hides_128 (C : xCx) (r : List Value) (hp : xHp) (x : Int32) (a0 a1 a2 a3 a4 a5 a7 : Value) : (xV k_So_hides C 128 [a0, a1, a2, a3, a4, a5, .int x, a7] r hp) = (xNl [a0, a1, a2, a3, a4, a5, .int x, a7] 6 ∧ xV k_So_hides C 131 [a0, a1, a2, a3, a4, a5, .int (x + (1)), a7] r hp) := xVe _ _ _ _ _ _
theorem s_So_hides_131 (C : xCx) (L r : List Value) (hp : xHp) : (xV k_So_hides C 131 L r hp) = (xV k_So_hides C 34 L r hp) := xVe _ _ _ _ _ _
theorem s_So_hides_134 (C : xCx) (r : List Value) (hp : xHp) (x : Nat) (a1 a2 a3 a4 a5 a6 a7 : Value) : (xV k_So_hides C 134 [.ref x, a1, a2, a3, a4, a5, a6, a7] r hp) = (True ∧ xV k_So_hides C 135 [.ref x, a1, a2, a3, a4, a5, a6, a7] (.ref x :: r) hp) := xVe _ _ _ _ _ _
theorem s_So_hides_135 (a : Nat) (C : xCx) (L r : List Value) (hp : xHp) : (xV k_So_hides C 135 L (.ref a :: r) hp) = (xF hp a 0 1 (fun v => xV k_So_hides C 138 L (v :: r) hp)) := xVe _ _ _ _ _ _
theorem s_So_hides_138 (C : xCx) (r : List Value) (hp : xHp) (x : Int32) (a0 a1 a2 a3 a5 a6 a7 : Value) : (xV k_So_hides C 138 [a0, a1, a2, a3, .int x, a5, a6, a7] r hp) = (xV k_So_hides C 140 [a0, a1, a2, a3, .int x, a5, a6, a7] (.int x :: r) hp) := xVe _ _ _ _ _ _
theorem s_So_hides_140 (x : Int32) (C : xCx) (L r : List Value) (hp : xHp) : (xV k_So_hides C 140 L (.int x :: r) hp) = (xV k_So_hides C 141 L (.long x.toInt64 :: r) hp) := xVe _ _ _ _ _ _
theorem s_So_hides_141 (C : xCx) (r : List Value) (hp : xHp) (x : Int32) (a0 a1 a2 a3 a4 a6 a7 : Value) : (xV k_So_hides C 141 [a0, a1, a2, a3, a4, .int x, a6, a7] r hp) = (xV k_So_hides C 143 [a0, a1, a2, a3, a4, .int x, a6, a7] (.int x :: r) hp) := xVe _ _ _ _ _ _
theorem s_So_hides_143 (x : Int32) (C : xCx) (L r : List Value) (hp : xHp) : (xV k_So_hides C 143 L (.int x :: r) hp) = (xV k_So_hides C 144 L (.long x.toInt64 :: r) hp) := xVe _ _ _ _ _ _
theorem s_So_hides_144 (x0 : Int64) (x1 : Int64) (a : Nat) (l : Launch) (d b lo gz n0 s0 : Nat) (Po : Option Value → xHp → Prop) (L r : List Value) (hp : xHp) : (xV k_So_hides (l, d + 1, b, lo, gz, n0, s0, m_So_hides, Po) 144 L (.long x1 :: .long x0 :: .ref a :: r) hp) = (xO hp a 7 ∧ xcs r 8 ∧ xMv l d b lo gz m_Row_tell2 [.ref a, .long x0, .long x1] hp (fun hp' => xV k_So_hides (l, d + 1, b, lo, gz, n0, s0, m_So_hides, Po) 147 L r hp')) := xVe _ _ _ _ _ _
theorem s_So_hides_147 (C : xCx) (r : List Value) (hp : xHp) (x : Int32) (a0 a1 a2 a4 a5 a6 a7 : Value) : (xV k_So_hides C 147 [a0, a1, a2, .int x, a4, a5, a6, a7] r hp) = (xV k_So_hides C 148 [a0, a1, a2, .int x, a4, a5, a6, a7] (.int x :: r) hp) := xVe _ _ _ _ _ _
theorem s_So_hides_148 (v : Int32) (l : Launch) (d b lo gz n0 s0 : Nat) (Po : Option Value → xHp → Prop) (L : List Value) (hp : xHp) : (xV k_So_hides (l, d, b, lo, gz, n0, s0, m_So_hides, Po) 148 L [.int v] hp) = (Po (some (.int v)) hp) := xVe _ _ _ _ _ _
def k_So_meets : List xEC := [
  (0, .aload_n 0, 1, 0, 0, 0, m_x),
  (1, .iload_n 1, 2, 0, 0, 0, m_x),
  (2, .invokevirtual 179, 5, 0, 0, 0, m_So_has),
  (5, .ifCond .eq 27, 8, 0, 32, 0, m_x),
  (8, .aload_n 0, 9, 0, 0, 0, m_x),
  (9, .iload_n 2, 10, 0, 0, 0, m_x),
  (10, .invokevirtual 179, 13, 0, 0, 0, m_So_has),
  (13, .ifCond .eq 19, 16, 0, 32, 0, m_x),
  (16, .iload_n 1, 17, 0, 0, 0, m_x),
  (17, .iload_n 2, 18, 0, 0, 0, m_x),
  (18, .if_icmp .eq 14, 21, 0, 32, 0, m_x),
  (21, .iload_n 3, 22, 0, 0, 0, m_x),
  (22, .iconst 1, 23, 0, 0, 0, m_x),
  (23, .if_icmp .lt 9, 26, 0, 32, 0, m_x),
  (26, .iload_n 3, 27, 0, 0, 0, m_x),
  (27, .bipush 60, 29, 0, 0, 0, m_x),
  (29, .if_icmp .le 5, 32, 0, 34, 0, m_x),
  (32, .iconst (-1), 33, 0, 0, 0, m_x),
  (33, .ireturn, 34, 0, 0, 0, m_x),
  (34, .iconst 0, 35, 0, 0, 0, m_x),
  (35, .istore 4, 37, 0, 0, 0, m_x),
  (37, .sipush 10000, 40, 0, 0, 0, m_x),
  (40, .istore 5, 42, 0, 0, 0, m_x),
  (42, .iconst 0, 43, 0, 0, 0, m_x),
  (43, .istore 6, 45, 0, 0, 0, m_x),
  (45, .iload 6, 47, 0, 0, 0, m_x),
  (47, .aload_n 0, 48, 0, 0, 0, m_x),
  (48, .getfield 26, 51, 0, 2, 0, m_x),
  (51, .invokevirtual 129, 54, 4, 0, 0, m_Land_size),
  (54, .if_icmp .ge 95, 57, 0, 149, 0, m_x),
  (57, .aload_n 0, 58, 0, 0, 0, m_x),
  (58, .getfield 58, 61, 0, 7, 0, m_x),
  (61, .aload_n 0, 62, 0, 0, 0, m_x),
  (62, .getfield 54, 65, 0, 6, 0, m_x),
  (65, .invokevirtual 215, 68, 3, 0, 0, m_Folk_copyFrom),
  (68, .aload_n 0, 69, 0, 0, 0, m_x),
  (69, .getfield 58, 72, 0, 7, 0, m_x),
  (72, .iload_n 1, 73, 0, 0, 0, m_x),
  (73, .iload 6, 75, 0, 0, 0, m_x),
  (75, .invokevirtual 267, 78, 3, 0, 0, m_Folk_setSpot),
  (78, .iconst 0, 79, 0, 0, 0, m_x),
  (79, .istore 7, 81, 0, 0, 0, m_x),
  (81, .iload 7, 83, 0, 0, 0, m_x),
  (83, .iload_n 3, 84, 0, 0, 0, m_x),
  (84, .if_icmp .ge 22, 87, 0, 106, 0, m_x),
  (87, .aload_n 0, 88, 0, 0, 0, m_x),
  (88, .getfield 47, 91, 0, 5, 0, m_x),
  (91, .aload_n 0, 92, 0, 0, 0, m_x),
  (92, .getfield 58, 95, 0, 7, 0, m_x),
  (95, .iload_n 1, 96, 0, 0, 0, m_x),
  (96, .iload_n 2, 97, 0, 0, 0, m_x),
  (97, .invokevirtual 293, 100, 9, 0, 0, m_Sun_dayForTwo),
  (100, .iinc 7 1, 103, 0, 0, 0, m_x),
  (103, .goto (-22), 106, 0, 81, 0, m_x),
  (106, .aload_n 0, 107, 0, 0, 0, m_x),
  (107, .getfield 58, 110, 0, 7, 0, m_x),
  (110, .iload_n 1, 111, 0, 0, 0, m_x),
  (111, .invokevirtual 185, 114, 3, 0, 0, m_Folk_age),
  (114, .aload_n 0, 115, 0, 0, 0, m_x),
  (115, .getfield 58, 118, 0, 7, 0, m_x),
  (118, .iload_n 2, 119, 0, 0, 0, m_x),
  (119, .invokevirtual 185, 122, 3, 0, 0, m_Folk_age),
  (122, .isub, 123, 0, 0, 0, m_x),
  (123, .invokestatic 270, 126, 0, 0, 0, m_Math_abs),
  (126, .istore 7, 128, 0, 0, 0, m_x),
  (128, .iload 7, 130, 0, 0, 0, m_x),
  (130, .iload 5, 132, 0, 0, 0, m_x),
  (132, .if_icmp .ge 11, 135, 0, 143, 0, m_x),
  (135, .iload 7, 137, 0, 0, 0, m_x),
  (137, .istore 5, 139, 0, 0, 0, m_x),
  (139, .iload 6, 141, 0, 0, 0, m_x),
  (141, .istore 4, 143, 0, 0, 0, m_x),
  (143, .iinc 6 1, 146, 0, 0, 0, m_x),
  (146, .goto (-101), 149, 0, 45, 0, m_x),
  (149, .aload_n 0, 150, 0, 0, 0, m_x),
  (150, .getfield 19, 153, 0, 1, 0, m_x),
  (153, .iload 5, 155, 0, 0, 0, m_x),
  (155, .i2l, 156, 0, 0, 0, m_x),
  (156, .invokevirtual 287, 159, 7, 0, 0, m_Row_tell1),
  (159, .iload 4, 161, 0, 0, 0, m_x),
  (161, .ireturn, 162, 0, 0, 0, m_x)]
theorem dc_So_meets : ∀ E ∈ k_So_meets, xDc m_So_meets E := by decide +kernel
set_option maxRecDepth 20000 in
theorem ok_So_meets : ∀ E ∈ k_So_meets, xOk m_So_meets E := xok_of dc_So_meets (xfc trivial (xfc trivial (xfc ⟨ml_So_179, kd_So_has⟩ (xfc (show ((5 : Nat) : Int) + (27) = ((32 : Nat) : Int) from by decide) (xfc trivial (xfc trivial (xfc ⟨ml_So_179, kd_So_has⟩ (xfc (show ((13 : Nat) : Int) + (19) = ((32 : Nat) : Int) from by decide) (xfc trivial (xfc trivial (xfc (show ((18 : Nat) : Int) + (14) = ((32 : Nat) : Int) from by decide) (xfc trivial (xfc trivial (xfc (show ((23 : Nat) : Int) + (9) = ((32 : Nat) : Int) from by decide) (xfc trivial (xfc trivial (xfc (show ((29 : Nat) : Int) + (5) = ((34 : Nat) : Int) from by decide) (xfc trivial (xfc trivial (xfc trivial (xfc trivial (xfc trivial (xfc trivial (xfc trivial (xfc trivial (xfc trivial (xfc trivial (xfc fl_So_26 (xfc ⟨ml_So_129, kd_Land_size⟩ (xfc (show ((54 : Nat) : Int) + (95) = ((149 : Nat) : Int) from by decide) (xfc trivial (xfc fl_So_58 (xfc trivial (xfc fl_So_54 (xfc ⟨ml_So_215, kd_Folk_copyFrom⟩ (xfc trivial (xfc fl_So_58 (xfc trivial (xfc trivial (xfc ⟨ml_So_267, kd_Folk_setSpot⟩ (xfc trivial (xfc trivial (xfc trivial (xfc trivial (xfc (show ((84 : Nat) : Int) + (22) = ((106 : Nat) : Int) from by decide) (xfc trivial (xfc fl_So_47 (xfc trivial (xfc fl_So_58 (xfc trivial (xfc trivial (xfc ⟨ml_So_293, kd_Sun_dayForTwo⟩ (xfc trivial (xfc (show ((103 : Nat) : Int) + (-22) = ((81 : Nat) : Int) from by decide) (xfc trivial (xfc fl_So_58 (xfc trivial (xfc ⟨ml_So_185, kd_Folk_age⟩ (xfc trivial (xfc fl_So_58 (xfc trivial (xfc ⟨ml_So_185, kd_Folk_age⟩ (xfc trivial (xfc ⟨ml_So_270, kd_Math_abs⟩ (xfc trivial (xfc trivial (xfc trivial (xfc (show ((132 : Nat) : Int) + (11) = ((143 : Nat) : Int) from by decide) (xfc trivial (xfc trivial (xfc trivial (xfc trivial (xfc trivial (xfc (show ((146 : Nat) : Int) + (-101) = ((45 : Nat) : Int) from by decide) (xfc trivial (xfc fl_So_19 (xfc trivial (xfc trivial (xfc ⟨ml_So_287, kd_Row_tell1⟩ (xfc trivial (xfc trivial (xfn))))))))))))))))))))))))))))))))))))))))))))))))))))))))))))))))))))))))))))))))))
theorem s_So_meets_0 (C : xCx) (r : List Value) (hp : xHp) (x : Nat) (a1 a2 a3 a4 a5 a6 a7 : Value) : (xV k_So_meets C 0 [.ref x, a1, a2, a3, a4, a5, a6, a7] r hp) = (True ∧ xV k_So_meets C 1 [.ref x, a1, a2, a3, a4, a5, a6, a7] (.ref x :: r) hp) := xVe _ _ _ _ _ _
theorem s_So_meets_1 (C : xCx) (r : List Value) (hp : xHp) (x : Int32) (a0 a2 a3 a4 a5 a6 a7 : Value) : (xV k_So_meets C 1 [a0, .int x, a2, a3, a4, a5, a6, a7] r hp) = (xV k_So_meets C 2 [a0, .int x, a2, a3, a4, a5, a6, a7] (.int x :: r) hp) := xVe _ _ _ _ _ _
theorem s_So_meets_2 (x0 : Int32) (a : Nat) (l : Launch) (d b lo gz n0 s0 : Nat) (Po : Option Value → xHp → Prop) (L r : List Value) (hp : xHp) : (xV k_So_meets (l, d + 1, b, lo, gz, n0, s0, m_So_meets, Po) 2 L (.int x0 :: .ref a :: r) hp) = (xO hp a 0 ∧ xcs r 8 ∧ xMi l d b lo gz m_So_has [.ref a, .int x0] hp (fun x hp' => xV k_So_meets (l, d + 1, b, lo, gz, n0, s0, m_So_meets, Po) 5 L (.int x :: r) hp')) := xVe _ _ _ _ _ _
theorem s_So_meets_5 (x : Int32) (C : xCx) (L r : List Value) (hp : xHp) : (xV k_So_meets C 5 L (.int x :: r) hp) = (((x = 0 → xV k_So_meets C 32 L r hp) ∧ (¬ x = 0 → xV k_So_meets C 8 L r hp))) := xVe _ _ _ _ _ _
theorem s_So_meets_8 (C : xCx) (r : List Value) (hp : xHp) (x : Nat) (a1 a2 a3 a4 a5 a6 a7 : Value) : (xV k_So_meets C 8 [.ref x, a1, a2, a3, a4, a5, a6, a7] r hp) = (True ∧ xV k_So_meets C 9 [.ref x, a1, a2, a3, a4, a5, a6, a7] (.ref x :: r) hp) := xVe _ _ _ _ _ _
theorem s_So_meets_9 (C : xCx) (r : List Value) (hp : xHp) (x : Int32) (a0 a1 a3 a4 a5 a6 a7 : Value) : (xV k_So_meets C 9 [a0, a1, .int x, a3, a4, a5, a6, a7] r hp) = (xV k_So_meets C 10 [a0, a1, .int x, a3, a4, a5, a6, a7] (.int x :: r) hp) := xVe _ _ _ _ _ _
theorem s_So_meets_10 (x0 : Int32) (a : Nat) (l : Launch) (d b lo gz n0 s0 : Nat) (Po : Option Value → xHp → Prop) (L r : List Value) (hp : xHp) : (xV k_So_meets (l, d + 1, b, lo, gz, n0, s0, m_So_meets, Po) 10 L (.int x0 :: .ref a :: r) hp) = (xO hp a 0 ∧ xcs r 8 ∧ xMi l d b lo gz m_So_has [.ref a, .int x0] hp (fun x hp' => xV k_So_meets (l, d + 1, b, lo, gz, n0, s0, m_So_meets, Po) 13 L (.int x :: r) hp')) := xVe _ _ _ _ _ _
theorem s_So_meets_13 (x : Int32) (C : xCx) (L r : List Value) (hp : xHp) : (xV k_So_meets C 13 L (.int x :: r) hp) = (((x = 0 → xV k_So_meets C 32 L r hp) ∧ (¬ x = 0 → xV k_So_meets C 16 L r hp))) := xVe _ _ _ _ _ _
theorem s_So_meets_16 (C : xCx) (r : List Value) (hp : xHp) (x : Int32) (a0 a2 a3 a4 a5 a6 a7 : Value) : (xV k_So_meets C 16 [a0, .int x, a2, a3, a4, a5, a6, a7] r hp) = (xV k_So_meets C 17 [a0, .int x, a2, a3, a4, a5, a6, a7] (.int x :: r) hp) := xVe _ _ _ _ _ _
theorem s_So_meets_17 (C : xCx) (r : List Value) (hp : xHp) (x : Int32) (a0 a1 a3 a4 a5 a6 a7 : Value) : (xV k_So_meets C 17 [a0, a1, .int x, a3, a4, a5, a6, a7] r hp) = (xV k_So_meets C 18 [a0, a1, .int x, a3, a4, a5, a6, a7] (.int x :: r) hp) := xVe _ _ _ _ _ _
theorem s_So_meets_18 (x y : Int32) (C : xCx) (L r : List Value) (hp : xHp) : (xV k_So_meets C 18 L (.int y :: .int x :: r) hp) = (((x = y → xV k_So_meets C 32 L r hp) ∧ (¬ x = y → xV k_So_meets C 21 L r hp))) := xVe _ _ _ _ _ _
theorem s_So_meets_21 (C : xCx) (r : List Value) (hp : xHp) (x : Int32) (a0 a1 a2 a4 a5 a6 a7 : Value) : (xV k_So_meets C 21 [a0, a1, a2, .int x, a4, a5, a6, a7] r hp) = (xV k_So_meets C 22 [a0, a1, a2, .int x, a4, a5, a6, a7] (.int x :: r) hp) := xVe _ _ _ _ _ _
theorem s_So_meets_22  (C : xCx) (L r : List Value) (hp : xHp) : (xV k_So_meets C 22 L (r) hp) = (xV k_So_meets C 23 L (.int (1) :: r) hp) := xVe _ _ _ _ _ _
theorem s_So_meets_23 (x y : Int32) (C : xCx) (L r : List Value) (hp : xHp) : (xV k_So_meets C 23 L (.int y :: .int x :: r) hp) = (((x < y → xV k_So_meets C 32 L r hp) ∧ (¬ x < y → xV k_So_meets C 26 L r hp))) := xVe _ _ _ _ _ _
theorem s_So_meets_26 (C : xCx) (r : List Value) (hp : xHp) (x : Int32) (a0 a1 a2 a4 a5 a6 a7 : Value) : (xV k_So_meets C 26 [a0, a1, a2, .int x, a4, a5, a6, a7] r hp) = (xV k_So_meets C 27 [a0, a1, a2, .int x, a4, a5, a6, a7] (.int x :: r) hp) := xVe _ _ _ _ _ _
theorem s_So_meets_27  (C : xCx) (L r : List Value) (hp : xHp) : (xV k_So_meets C 27 L (r) hp) = (xV k_So_meets C 29 L (.int (60) :: r) hp) := xVe _ _ _ _ _ _
theorem s_So_meets_29 (x y : Int32) (C : xCx) (L r : List Value) (hp : xHp) : (xV k_So_meets C 29 L (.int y :: .int x :: r) hp) = (((x ≤ y → xV k_So_meets C 34 L r hp) ∧ (¬ x ≤ y → xV k_So_meets C 32 L r hp))) := xVe _ _ _ _ _ _
theorem s_So_meets_32  (C : xCx) (L r : List Value) (hp : xHp) : (xV k_So_meets C 32 L (r) hp) = (xV k_So_meets C 33 L (.int (-1) :: r) hp) := xVe _ _ _ _ _ _
theorem s_So_meets_33 (v : Int32) (l : Launch) (d b lo gz n0 s0 : Nat) (Po : Option Value → xHp → Prop) (L : List Value) (hp : xHp) : (xV k_So_meets (l, d, b, lo, gz, n0, s0, m_So_meets, Po) 33 L [.int v] hp) = (Po (some (.int v)) hp) := xVe _ _ _ _ _ _
theorem s_So_meets_34  (C : xCx) (L r : List Value) (hp : xHp) : (xV k_So_meets C 34 L (r) hp) = (xV k_So_meets C 35 L (.int (0) :: r) hp) := xVe _ _ _ _ _ _
theorem s_So_meets_35 (C : xCx) (r : List Value) (hp : xHp) (x : Int32) (a0 a1 a2 a3 a4 a5 a6 a7 : Value) : (xV k_So_meets C 35 [a0, a1, a2, a3, a4, a5, a6, a7] (.int x :: r) hp) = (4 < 8 ∧ xNl [a0, a1, a2, a3, a4, a5, a6, a7] 4 ∧ xV k_So_meets C 37 [a0, a1, a2, a3, .int x, a5, a6, a7] r hp) := xVe _ _ _ _ _ _
theorem s_So_meets_37  (C : xCx) (L r : List Value) (hp : xHp) : (xV k_So_meets C 37 L (r) hp) = (xV k_So_meets C 40 L (.int (10000) :: r) hp) := xVe _ _ _ _ _ _
theorem s_So_meets_40 (C : xCx) (r : List Value) (hp : xHp) (x : Int32) (a0 a1 a2 a3 a4 a5 a6 a7 : Value) : (xV k_So_meets C 40 [a0, a1, a2, a3, a4, a5, a6, a7] (.int x :: r) hp) = (5 < 8 ∧ xNl [a0, a1, a2, a3, a4, a5, a6, a7] 5 ∧ xV k_So_meets C 42 [a0, a1, a2, a3, a4, .int x, a6, a7] r hp) := xVe _ _ _ _ _ _
theorem s_So_meets_42  (C : xCx) (L r : List Value) (hp : xHp) : (xV k_So_meets C 42 L (r) hp) = (xV k_So_meets C 43 L (.int (0) :: r) hp) := xVe _ _ _ _ _ _
theorem s_So_meets_43 (C : xCx) (r : List Value) (hp : xHp) (x : Int32) (a0 a1 a2 a3 a4 a5 a6 a7 : Value) : (xV k_So_meets C 43 [a0, a1, a2, a3, a4, a5, a6, a7] (.int x :: r) hp) = (6 < 8 ∧ xNl [a0, a1, a2, a3, a4, a5, a6, a7] 6 ∧ xV k_So_meets C 45 [a0, a1, a2, a3, a4, a5, .int x, a7] r hp) := xVe _ _ _ _ _ _
theorem s_So_meets_45 (C : xCx) (r : List Value) (hp : xHp) (x : Int32) (a0 a1 a2 a3 a4 a5 a7 : Value) : (xV k_So_meets C 45 [a0, a1, a2, a3, a4, a5, .int x, a7] r hp) = (xV k_So_meets C 47 [a0, a1, a2, a3, a4, a5, .int x, a7] (.int x :: r) hp) := xVe _ _ _ _ _ _
theorem s_So_meets_47 (C : xCx) (r : List Value) (hp : xHp) (x : Nat) (a1 a2 a3 a4 a5 a6 a7 : Value) : (xV k_So_meets C 47 [.ref x, a1, a2, a3, a4, a5, a6, a7] r hp) = (True ∧ xV k_So_meets C 48 [.ref x, a1, a2, a3, a4, a5, a6, a7] (.ref x :: r) hp) := xVe _ _ _ _ _ _
theorem s_So_meets_48 (a : Nat) (C : xCx) (L r : List Value) (hp : xHp) : (xV k_So_meets C 48 L (.ref a :: r) hp) = (xF hp a 0 2 (fun v => xV k_So_meets C 51 L (v :: r) hp)) := xVe _ _ _ _ _ _
theorem s_So_meets_51 (a : Nat) (l : Launch) (d b lo gz n0 s0 : Nat) (Po : Option Value → xHp → Prop) (L r : List Value) (hp : xHp) : (xV k_So_meets (l, d + 1, b, lo, gz, n0, s0, m_So_meets, Po) 51 L (.ref a :: r) hp) = (xO hp a 4 ∧ xcs r 8 ∧ xMi l d b lo gz m_Land_size [.ref a] hp (fun x hp' => xV k_So_meets (l, d + 1, b, lo, gz, n0, s0, m_So_meets, Po) 54 L (.int x :: r) hp')) := xVe _ _ _ _ _ _
theorem s_So_meets_54 (x y : Int32) (C : xCx) (L r : List Value) (hp : xHp) : (xV k_So_meets C 54 L (.int y :: .int x :: r) hp) = (((y ≤ x → xV k_So_meets C 149 L r hp) ∧ (¬ y ≤ x → xV k_So_meets C 57 L r hp))) := xVe _ _ _ _ _ _
theorem s_So_meets_57 (C : xCx) (r : List Value) (hp : xHp) (x : Nat) (a1 a2 a3 a4 a5 a6 a7 : Value) : (xV k_So_meets C 57 [.ref x, a1, a2, a3, a4, a5, a6, a7] r hp) = (True ∧ xV k_So_meets C 58 [.ref x, a1, a2, a3, a4, a5, a6, a7] (.ref x :: r) hp) := xVe _ _ _ _ _ _
theorem s_So_meets_58 (a : Nat) (C : xCx) (L r : List Value) (hp : xHp) : (xV k_So_meets C 58 L (.ref a :: r) hp) = (xF hp a 0 7 (fun v => xV k_So_meets C 61 L (v :: r) hp)) := xVe _ _ _ _ _ _
theorem s_So_meets_61 (C : xCx) (r : List Value) (hp : xHp) (x : Nat) (a1 a2 a3 a4 a5 a6 a7 : Value) : (xV k_So_meets C 61 [.ref x, a1, a2, a3, a4, a5, a6, a7] r hp) = (True ∧ xV k_So_meets C 62 [.ref x, a1, a2, a3, a4, a5, a6, a7] (.ref x :: r) hp) := xVe _ _ _ _ _ _
theorem s_So_meets_62 (a : Nat) (C : xCx) (L r : List Value) (hp : xHp) : (xV k_So_meets C 62 L (.ref a :: r) hp) = (xF hp a 0 6 (fun v => xV k_So_meets C 65 L (v :: r) hp)) := xVe _ _ _ _ _ _
theorem s_So_meets_65 (x0 : Nat) (a : Nat) (l : Launch) (d b lo gz n0 s0 : Nat) (Po : Option Value → xHp → Prop) (L r : List Value) (hp : xHp) : (xV k_So_meets (l, d + 1, b, lo, gz, n0, s0, m_So_meets, Po) 65 L (.ref x0 :: .ref a :: r) hp) = (xO hp a 3 ∧ xcs r 8 ∧ xMv l d b lo gz m_Folk_copyFrom [.ref a, .ref x0] hp (fun hp' => xV k_So_meets (l, d + 1, b, lo, gz, n0, s0, m_So_meets, Po) 68 L r hp')) := xVe _ _ _ _ _ _
theorem s_So_meets_68 (C : xCx) (r : List Value) (hp : xHp) (x : Nat) (a1 a2 a3 a4 a5 a6 a7 : Value) : (xV k_So_meets C 68 [.ref x, a1, a2, a3, a4, a5, a6, a7] r hp) = (True ∧ xV k_So_meets C 69 [.ref x, a1, a2, a3, a4, a5, a6, a7] (.ref x :: r) hp) := xVe _ _ _ _ _ _
theorem s_So_meets_69 (a : Nat) (C : xCx) (L r : List Value) (hp : xHp) : (xV k_So_meets C 69 L (.ref a :: r) hp) = (xF hp a 0 7 (fun v => xV k_So_meets C 72 L (v :: r) hp)) := xVe _ _ _ _ _ _
theorem s_So_meets_72 (C : xCx) (r : List Value) (hp : xHp) (x : Int32) (a0 a2 a3 a4 a5 a6 a7 : Value) : (xV k_So_meets C 72 [a0, .int x, a2, a3, a4, a5, a6, a7] r hp) = (xV k_So_meets C 73 [a0, .int x, a2, a3, a4, a5, a6, a7] (.int x :: r) hp) := xVe _ _ _ _ _ _
theorem s_So_meets_73 (C : xCx) (r : List Value) (hp : xHp) (x : Int32) (a0 a1 a2 a3 a4 a5 a7 : Value) : (xV k_So_meets C 73 [a0, a1, a2, a3, a4, a5, .int x, a7] r hp) = (xV k_So_meets C 75 [a0, a1, a2, a3, a4, a5, .int x, a7] (.int x :: r) hp) := xVe _ _ _ _ _ _
theorem s_So_meets_75 (x0 : Int32) (x1 : Int32) (a : Nat) (l : Launch) (d b lo gz n0 s0 : Nat) (Po : Option Value → xHp → Prop) (L r : List Value) (hp : xHp) : (xV k_So_meets (l, d + 1, b, lo, gz, n0, s0, m_So_meets, Po) 75 L (.int x1 :: .int x0 :: .ref a :: r) hp) = (xO hp a 3 ∧ xcs r 8 ∧ xMv l d b lo gz m_Folk_setSpot [.ref a, .int x0, .int x1] hp (fun hp' => xV k_So_meets (l, d + 1, b, lo, gz, n0, s0, m_So_meets, Po) 78 L r hp')) := xVe _ _ _ _ _ _
theorem s_So_meets_78  (C : xCx) (L r : List Value) (hp : xHp) : (xV k_So_meets C 78 L (r) hp) = (xV k_So_meets C 79 L (.int (0) :: r) hp) := xVe _ _ _ _ _ _
theorem s_So_meets_79 (C : xCx) (r : List Value) (hp : xHp) (x : Int32) (a0 a1 a2 a3 a4 a5 a6 a7 : Value) : (xV k_So_meets C 79 [a0, a1, a2, a3, a4, a5, a6, a7] (.int x :: r) hp) = (7 < 8 ∧ xNl [a0, a1, a2, a3, a4, a5, a6, a7] 7 ∧ xV k_So_meets C 81 [a0, a1, a2, a3, a4, a5, a6, .int x] r hp) := xVe _ _ _ _ _ _
theorem s_So_meets_81 (C : xCx) (r : List Value) (hp : xHp) (x : Int32) (a0 a1 a2 a3 a4 a5 a6 : Value) : (xV k_So_meets C 81 [a0, a1, a2, a3, a4, a5, a6, .int x] r hp) = (xV k_So_meets C 83 [a0, a1, a2, a3, a4, a5, a6, .int x] (.int x :: r) hp) := xVe _ _ _ _ _ _
theorem s_So_meets_83 (C : xCx) (r : List Value) (hp : xHp) (x : Int32) (a0 a1 a2 a4 a5 a6 a7 : Value) : (xV k_So_meets C 83 [a0, a1, a2, .int x, a4, a5, a6, a7] r hp) = (xV k_So_meets C 84 [a0, a1, a2, .int x, a4, a5, a6, a7] (.int x :: r) hp) := xVe _ _ _ _ _ _
theorem s_So_meets_84 (x y : Int32) (C : xCx) (L r : List Value) (hp : xHp) : (xV k_So_meets C 84 L (.int y :: .int x :: r) hp) = (((y ≤ x → xV k_So_meets C 106 L r hp) ∧ (¬ y ≤ x → xV k_So_meets C 87 L r hp))) := xVe _ _ _ _ _ _
theorem s_So_meets_87 (C : xCx) (r : List Value) (hp : xHp) (x : Nat) (a1 a2 a3 a4 a5 a6 a7 : Value) : (xV k_So_meets C 87 [.ref x, a1, a2, a3, a4, a5, a6, a7] r hp) = (True ∧ xV k_So_meets C 88 [.ref x, a1, a2, a3, a4, a5, a6, a7] (.ref x :: r) hp) := xVe _ _ _ _ _ _
theorem s_So_meets_88 (a : Nat) (C : xCx) (L r : List Value) (hp : xHp) : (xV k_So_meets C 88 L (.ref a :: r) hp) = (xF hp a 0 5 (fun v => xV k_So_meets C 91 L (v :: r) hp)) := xVe _ _ _ _ _ _
theorem s_So_meets_91 (C : xCx) (r : List Value) (hp : xHp) (x : Nat) (a1 a2 a3 a4 a5 a6 a7 : Value) : (xV k_So_meets C 91 [.ref x, a1, a2, a3, a4, a5, a6, a7] r hp) = (True ∧ xV k_So_meets C 92 [.ref x, a1, a2, a3, a4, a5, a6, a7] (.ref x :: r) hp) := xVe _ _ _ _ _ _
theorem s_So_meets_92 (a : Nat) (C : xCx) (L r : List Value) (hp : xHp) : (xV k_So_meets C 92 L (.ref a :: r) hp) = (xF hp a 0 7 (fun v => xV k_So_meets C 95 L (v :: r) hp)) := xVe _ _ _ _ _ _
theorem s_So_meets_95 (C : xCx) (r : List Value) (hp : xHp) (x : Int32) (a0 a2 a3 a4 a5 a6 a7 : Value) : (xV k_So_meets C 95 [a0, .int x, a2, a3, a4, a5, a6, a7] r hp) = (xV k_So_meets C 96 [a0, .int x, a2, a3, a4, a5, a6, a7] (.int x :: r) hp) := xVe _ _ _ _ _ _
theorem s_So_meets_96 (C : xCx) (r : List Value) (hp : xHp) (x : Int32) (a0 a1 a3 a4 a5 a6 a7 : Value) : (xV k_So_meets C 96 [a0, a1, .int x, a3, a4, a5, a6, a7] r hp) = (xV k_So_meets C 97 [a0, a1, .int x, a3, a4, a5, a6, a7] (.int x :: r) hp) := xVe _ _ _ _ _ _
theorem s_So_meets_97 (x0 : Nat) (x1 : Int32) (x2 : Int32) (a : Nat) (l : Launch) (d b lo gz n0 s0 : Nat) (Po : Option Value → xHp → Prop) (L r : List Value) (hp : xHp) : (xV k_So_meets (l, d + 1, b, lo, gz, n0, s0, m_So_meets, Po) 97 L (.int x2 :: .int x1 :: .ref x0 :: .ref a :: r) hp) = (xO hp a 9 ∧ xcs r 8 ∧ xMv l d b lo gz m_Sun_dayForTwo [.ref a, .ref x0, .int x1, .int x2] hp (fun hp' => xV k_So_meets (l, d + 1, b, lo, gz, n0, s0, m_So_meets, Po) 100 L r hp')) := xVe _ _ _ _ _ _
theorem s_So_meets_100 (C : xCx) (r : List Value) (hp : xHp) (x : Int32) (a0 a1 a2 a3 a4 a5 a6 : Value) : (xV k_So_meets C 100 [a0, a1, a2, a3, a4, a5, a6, .int x] r hp) = (xNl [a0, a1, a2, a3, a4, a5, a6, .int x] 7 ∧ xV k_So_meets C 103 [a0, a1, a2, a3, a4, a5, a6, .int (x + (1))] r hp) := xVe _ _ _ _ _ _
theorem s_So_meets_103 (C : xCx) (L r : List Value) (hp : xHp) : (xV k_So_meets C 103 L r hp) = (xV k_So_meets C 81 L r hp) := xVe _ _ _ _ _ _
theorem s_So_meets_106 (C : xCx) (r : List Value) (hp : xHp) (x : Nat) (a1 a2 a3 a4 a5 a6 a7 : Value) : (xV k_So_meets C 106 [.ref x, a1, a2, a3, a4, a5, a6, a7] r hp) = (True ∧ xV k_So_meets C 107 [.ref x, a1, a2, a3, a4, a5, a6, a7] (.ref x :: r) hp) := xVe _ _ _ _ _ _
theorem s_So_meets_107 (a : Nat) (C : xCx) (L r : List Value) (hp : xHp) : (xV k_So_meets C 107 L (.ref a :: r) hp) = (xF hp a 0 7 (fun v => xV k_So_meets C 110 L (v :: r) hp)) := xVe _ _ _ _ _ _
theorem s_So_meets_110 (C : xCx) (r : List Value) (hp : xHp) (x : Int32) (a0 a2 a3 a4 a5 a6 a7 : Value) : (xV k_So_meets C 110 [a0, .int x, a2, a3, a4, a5, a6, a7] r hp) = (xV k_So_meets C 111 [a0, .int x, a2, a3, a4, a5, a6, a7] (.int x :: r) hp) := xVe _ _ _ _ _ _
theorem s_So_meets_111 (x0 : Int32) (a : Nat) (l : Launch) (d b lo gz n0 s0 : Nat) (Po : Option Value → xHp → Prop) (L r : List Value) (hp : xHp) : (xV k_So_meets (l, d + 1, b, lo, gz, n0, s0, m_So_meets, Po) 111 L (.int x0 :: .ref a :: r) hp) = (xO hp a 3 ∧ xcs r 8 ∧ xMi l d b lo gz m_Folk_age [.ref a, .int x0] hp (fun x hp' => xV k_So_meets (l, d + 1, b, lo, gz, n0, s0, m_So_meets, Po) 114 L (.int x :: r) hp')) := xVe _ _ _ _ _ _
theorem s_So_meets_114 (C : xCx) (r : List Value) (hp : xHp) (x : Nat) (a1 a2 a3 a4 a5 a6 a7 : Value) : (xV k_So_meets C 114 [.ref x, a1, a2, a3, a4, a5, a6, a7] r hp) = (True ∧ xV k_So_meets C 115 [.ref x, a1, a2, a3, a4, a5, a6, a7] (.ref x :: r) hp) := xVe _ _ _ _ _ _
theorem s_So_meets_115 (a : Nat) (C : xCx) (L r : List Value) (hp : xHp) : (xV k_So_meets C 115 L (.ref a :: r) hp) = (xF hp a 0 7 (fun v => xV k_So_meets C 118 L (v :: r) hp)) := xVe _ _ _ _ _ _
theorem s_So_meets_118 (C : xCx) (r : List Value) (hp : xHp) (x : Int32) (a0 a1 a3 a4 a5 a6 a7 : Value) : (xV k_So_meets C 118 [a0, a1, .int x, a3, a4, a5, a6, a7] r hp) = (xV k_So_meets C 119 [a0, a1, .int x, a3, a4, a5, a6, a7] (.int x :: r) hp) := xVe _ _ _ _ _ _
theorem s_So_meets_119 (x0 : Int32) (a : Nat) (l : Launch) (d b lo gz n0 s0 : Nat) (Po : Option Value → xHp → Prop) (L r : List Value) (hp : xHp) : (xV k_So_meets (l, d + 1, b, lo, gz, n0, s0, m_So_meets, Po) 119 L (.int x0 :: .ref a :: r) hp) = (xO hp a 3 ∧ xcs r 8 ∧ xMi l d b lo gz m_Folk_age [.ref a, .int x0] hp (fun x hp' => xV k_So_meets (l, d + 1, b, lo, gz, n0, s0, m_So_meets, Po) 122 L (.int x :: r) hp')) := xVe _ _ _ _ _ _
theorem s_So_meets_122 (x y : Int32) (C : xCx) (L r : List Value) (hp : xHp) : (xV k_So_meets C 122 L (.int y :: .int x :: r) hp) = (xV k_So_meets C 123 L (.int (x - y) :: r) hp) := xVe _ _ _ _ _ _
theorem s_So_meets_123 (x0 : Int32) (l : Launch) (d b lo gz n0 s0 : Nat) (Po : Option Value → xHp → Prop) (L r : List Value) (hp : xHp) : (xV k_So_meets (l, d + 1, b, lo, gz, n0, s0, m_So_meets, Po) 123 L (.int x0 :: r) hp) = (1 ≤ List.length (.int x0 :: r) ∧ xcs r 8 ∧ xMi l d b lo gz m_Math_abs [.int x0] hp (fun x hp' => xV k_So_meets (l, d + 1, b, lo, gz, n0, s0, m_So_meets, Po) 126 L (.int x :: r) hp')) := xVe _ _ _ _ _ _
theorem s_So_meets_126 (C : xCx) (r : List Value) (hp : xHp) (x : Int32) (a0 a1 a2 a3 a4 a5 a6 a7 : Value) : (xV k_So_meets C 126 [a0, a1, a2, a3, a4, a5, a6, a7] (.int x :: r) hp) = (7 < 8 ∧ xNl [a0, a1, a2, a3, a4, a5, a6, a7] 7 ∧ xV k_So_meets C 128 [a0, a1, a2, a3, a4, a5, a6, .int x] r hp) := xVe _ _ _ _ _ _
theorem s_So_meets_128 (C : xCx) (r : List Value) (hp : xHp) (x : Int32) (a0 a1 a2 a3 a4 a5 a6 : Value) : (xV k_So_meets C 128 [a0, a1, a2, a3, a4, a5, a6, .int x] r hp) = (xV k_So_meets C 130 [a0, a1, a2, a3, a4, a5, a6, .int x] (.int x :: r) hp) := xVe _ _ _ _ _ _
theorem s_So_meets_130 (C : xCx) (r : List Value) (hp : xHp) (x : Int32) (a0 a1 a2 a3 a4 a6 a7 : Value) : (xV k_So_meets C 130 [a0, a1, a2, a3, a4, .int x, a6, a7] r hp) = (xV k_So_meets C 132 [a0, a1, a2, a3, a4, .int x, a6, a7] (.int x :: r) hp) := xVe _ _ _ _ _ _
theorem s_So_meets_132 (x y : Int32) (C : xCx) (L r : List Value) (hp : xHp) : (xV k_So_meets C 132 L (.int y :: .int x :: r) hp) = (((y ≤ x → xV k_So_meets C 143 L r hp) ∧ (¬ y ≤ x → xV k_So_meets C 135 L r hp))) := xVe _ _ _ _ _ _
theorem s_So_meets_135 (C : xCx) (r : List Value) (hp : xHp) (x : Int32) (a0 a1 a2 a3 a4 a5 a6 : Value) : (xV k_So_meets C 135 [a0, a1, a2, a3, a4, a5, a6, .int x] r hp) = (xV k_So_meets C 137 [a0, a1, a2, a3, a4, a5, a6, .int x] (.int x :: r) hp) := xVe _ _ _ _ _ _
theorem s_So_meets_137 (C : xCx) (r : List Value) (hp : xHp) (x : Int32) (a0 a1 a2 a3 a4 a5 a6 a7 : Value) : (xV k_So_meets C 137 [a0, a1, a2, a3, a4, a5, a6, a7] (.int x :: r) hp) = (5 < 8 ∧ xNl [a0, a1, a2, a3, a4, a5, a6, a7] 5 ∧ xV k_So_meets C 139 [a0, a1, a2, a3, a4, .int x, a6, a7] r hp) := xVe _ _ _ _ _ _
theorem s_So_meets_139 (C : xCx) (r : List Value) (hp : xHp) (x : Int32) (a0 a1 a2 a3 a4 a5 a7 : Value) : (xV k_So_meets C 139 [a0, a1, a2, a3, a4, a5, .int x, a7] r hp) = (xV k_So_meets C 141 [a0, a1, a2, a3, a4, a5, .int x, a7] (.int x :: r) hp) := xVe _ _ _ _ _ _
theorem s_So_meets_141 (C : xCx) (r : List Value) (hp : xHp) (x : Int32) (a0 a1 a2 a3 a4 a5 a6 a7 : Value) : (xV k_So_meets C 141 [a0, a1, a2, a3, a4, a5, a6, a7] (.int x :: r) hp) = (4 < 8 ∧ xNl [a0, a1, a2, a3, a4, a5, a6, a7] 4 ∧ xV k_So_meets C 143 [a0, a1, a2, a3, .int x, a5, a6, a7] r hp) := xVe _ _ _ _ _ _
theorem s_So_meets_143 (C : xCx) (r : List Value) (hp : xHp) (x : Int32) (a0 a1 a2 a3 a4 a5 a7 : Value) : (xV k_So_meets C 143 [a0, a1, a2, a3, a4, a5, .int x, a7] r hp) = (xNl [a0, a1, a2, a3, a4, a5, .int x, a7] 6 ∧ xV k_So_meets C 146 [a0, a1, a2, a3, a4, a5, .int (x + (1)), a7] r hp) := xVe _ _ _ _ _ _
theorem s_So_meets_146 (C : xCx) (L r : List Value) (hp : xHp) : (xV k_So_meets C 146 L r hp) = (xV k_So_meets C 45 L r hp) := xVe _ _ _ _ _ _
theorem s_So_meets_149 (C : xCx) (r : List Value) (hp : xHp) (x : Nat) (a1 a2 a3 a4 a5 a6 a7 : Value) : (xV k_So_meets C 149 [.ref x, a1, a2, a3, a4, a5, a6, a7] r hp) = (True ∧ xV k_So_meets C 150 [.ref x, a1, a2, a3, a4, a5, a6, a7] (.ref x :: r) hp) := xVe _ _ _ _ _ _
theorem s_So_meets_150 (a : Nat) (C : xCx) (L r : List Value) (hp : xHp) : (xV k_So_meets C 150 L (.ref a :: r) hp) = (xF hp a 0 1 (fun v => xV k_So_meets C 153 L (v :: r) hp)) := xVe _ _ _ _ _ _
theorem s_So_meets_153 (C : xCx) (r : List Value) (hp : xHp) (x : Int32) (a0 a1 a2 a3 a4 a6 a7 : Value) : (xV k_So_meets C 153 [a0, a1, a2, a3, a4, .int x, a6, a7] r hp) = (xV k_So_meets C 155 [a0, a1, a2, a3, a4, .int x, a6, a7] (.int x :: r) hp) := xVe _ _ _ _ _ _
theorem s_So_meets_155 (x : Int32) (C : xCx) (L r : List Value) (hp : xHp) : (xV k_So_meets C 155 L (.int x :: r) hp) = (xV k_So_meets C 156 L (.long x.toInt64 :: r) hp) := xVe _ _ _ _ _ _
theorem s_So_meets_156 (x0 : Int64) (a : Nat) (l : Launch) (d b lo gz n0 s0 : Nat) (Po : Option Value → xHp → Prop) (L r : List Value) (hp : xHp) : (xV k_So_meets (l, d + 1, b, lo, gz, n0, s0, m_So_meets, Po) 156 L (.long x0 :: .ref a :: r) hp) = (xO hp a 7 ∧ xcs r 8 ∧ xMv l d b lo gz m_Row_tell1 [.ref a, .long x0] hp (fun hp' => xV k_So_meets (l, d + 1, b, lo, gz, n0, s0, m_So_meets, Po) 159 L r hp')) := xVe _ _ _ _ _ _
theorem s_So_meets_159 (C : xCx) (r : List Value) (hp : xHp) (x : Int32) (a0 a1 a2 a3 a5 a6 a7 : Value) : (xV k_So_meets C 159 [a0, a1, a2, a3, .int x, a5, a6, a7] r hp) = (xV k_So_meets C 161 [a0, a1, a2, a3, .int x, a5, a6, a7] (.int x :: r) hp) := xVe _ _ _ _ _ _
theorem s_So_meets_161 (v : Int32) (l : Launch) (d b lo gz n0 s0 : Nat) (Po : Option Value → xHp → Prop) (L : List Value) (hp : xHp) : (xV k_So_meets (l, d, b, lo, gz, n0, s0, m_So_meets, Po) 161 L [.int v] hp) = (Po (some (.int v)) hp) := xVe _ _ _ _ _ _
theorem ml_So_331 : xLk "SunnyOnes" 331 m_Rooms_fill := Or.inl (wg4 127 (by decide +kernel) rfl)
def k_So_rooms : List xEC := [
  (0, .aload_n 0, 1, 0, 0, 0, m_x),
  (1, .getfield 97, 4, 0, 13, 0, m_x),
  (4, .aload_n 0, 5, 0, 0, 0, m_x),
  (5, .getfield 54, 8, 0, 6, 0, m_x),
  (8, .iconst 1, 9, 0, 0, 0, m_x),
  (9, .aload_n 0, 10, 0, 0, 0, m_x),
  (10, .getfield 19, 13, 0, 1, 0, m_x),
  (13, .invokevirtual 331, 16, 6, 0, 0, m_Rooms_fill),
  (16, .ireturn, 17, 0, 0, 0, m_x)]
theorem dc_So_rooms : ∀ E ∈ k_So_rooms, xDc m_So_rooms E := by decide +kernel
set_option maxRecDepth 20000 in
theorem ok_So_rooms : ∀ E ∈ k_So_rooms, xOk m_So_rooms E := xok_of dc_So_rooms (xfc trivial (xfc fl_So_97 (xfc trivial (xfc fl_So_54 (xfc trivial (xfc trivial (xfc fl_So_19 (xfc ⟨ml_So_331, kd_Rooms_fill⟩ (xfc trivial (xfn))))))))))
theorem s_So_rooms_0 (C : xCx) (r : List Value) (hp : xHp) (x : Nat) : (xV k_So_rooms C 0 [.ref x] r hp) = (True ∧ xV k_So_rooms C 1 [.ref x] (.ref x :: r) hp) := xVe _ _ _ _ _ _
theorem s_So_rooms_1 (a : Nat) (C : xCx) (L r : List Value) (hp : xHp) : (xV k_So_rooms C 1 L (.ref a :: r) hp) = (xF hp a 0 13 (fun v => xV k_So_rooms C 4 L (v :: r) hp)) := xVe _ _ _ _ _ _
theorem s_So_rooms_4 (C : xCx) (r : List Value) (hp : xHp) (x : Nat) : (xV k_So_rooms C 4 [.ref x] r hp) = (True ∧ xV k_So_rooms C 5 [.ref x] (.ref x :: r) hp) := xVe _ _ _ _ _ _
theorem s_So_rooms_5 (a : Nat) (C : xCx) (L r : List Value) (hp : xHp) : (xV k_So_rooms C 5 L (.ref a :: r) hp) = (xF hp a 0 6 (fun v => xV k_So_rooms C 8 L (v :: r) hp)) := xVe _ _ _ _ _ _
theorem s_So_rooms_8  (C : xCx) (L r : List Value) (hp : xHp) : (xV k_So_rooms C 8 L (r) hp) = (xV k_So_rooms C 9 L (.int (1) :: r) hp) := xVe _ _ _ _ _ _
theorem s_So_rooms_9 (C : xCx) (r : List Value) (hp : xHp) (x : Nat) : (xV k_So_rooms C 9 [.ref x] r hp) = (True ∧ xV k_So_rooms C 10 [.ref x] (.ref x :: r) hp) := xVe _ _ _ _ _ _
theorem s_So_rooms_10 (a : Nat) (C : xCx) (L r : List Value) (hp : xHp) : (xV k_So_rooms C 10 L (.ref a :: r) hp) = (xF hp a 0 1 (fun v => xV k_So_rooms C 13 L (v :: r) hp)) := xVe _ _ _ _ _ _
theorem s_So_rooms_13 (x0 : Nat) (x1 : Int32) (x2 : Nat) (a : Nat) (l : Launch) (d b lo gz n0 s0 : Nat) (Po : Option Value → xHp → Prop) (L r : List Value) (hp : xHp) : (xV k_So_rooms (l, d + 1, b, lo, gz, n0, s0, m_So_rooms, Po) 13 L (.ref x2 :: .int x1 :: .ref x0 :: .ref a :: r) hp) = (xO hp a 6 ∧ xcs r 8 ∧ xMi l d b lo gz m_Rooms_fill [.ref a, .ref x0, .int x1, .ref x2] hp (fun x hp' => xV k_So_rooms (l, d + 1, b, lo, gz, n0, s0, m_So_rooms, Po) 16 L (.int x :: r) hp')) := xVe _ _ _ _ _ _
theorem s_So_rooms_16 (v : Int32) (l : Launch) (d b lo gz n0 s0 : Nat) (Po : Option Value → xHp → Prop) (L : List Value) (hp : xHp) : (xV k_So_rooms (l, d, b, lo, gz, n0, s0, m_So_rooms, Po) 16 L [.int v] hp) = (Po (some (.int v)) hp) := xVe _ _ _ _ _ _
def k_So_cellars : List xEC := [
  (0, .aload_n 0, 1, 0, 0, 0, m_x),
  (1, .getfield 97, 4, 0, 13, 0, m_x),
  (4, .aload_n 0, 5, 0, 0, 0, m_x),
  (5, .getfield 54, 8, 0, 6, 0, m_x),
  (8, .iconst 0, 9, 0, 0, 0, m_x),
  (9, .aload_n 0, 10, 0, 0, 0, m_x),
  (10, .getfield 19, 13, 0, 1, 0, m_x),
  (13, .invokevirtual 331, 16, 6, 0, 0, m_Rooms_fill),
  (16, .ireturn, 17, 0, 0, 0, m_x)]
theorem dc_So_cellars : ∀ E ∈ k_So_cellars, xDc m_So_cellars E := by decide +kernel
set_option maxRecDepth 20000 in
theorem ok_So_cellars : ∀ E ∈ k_So_cellars, xOk m_So_cellars E := xok_of dc_So_cellars (xfc trivial (xfc fl_So_97 (xfc trivial (xfc fl_So_54 (xfc trivial (xfc trivial (xfc fl_So_19 (xfc ⟨ml_So_331, kd_Rooms_fill⟩ (xfc trivial (xfn))))))))))
theorem s_So_cellars_0 (C : xCx) (r : List Value) (hp : xHp) (x : Nat) : (xV k_So_cellars C 0 [.ref x] r hp) = (True ∧ xV k_So_cellars C 1 [.ref x] (.ref x :: r) hp) := xVe _ _ _ _ _ _
theorem s_So_cellars_1 (a : Nat) (C : xCx) (L r : List Value) (hp : xHp) : (xV k_So_cellars C 1 L (.ref a :: r) hp) = (xF hp a 0 13 (fun v => xV k_So_cellars C 4 L (v :: r) hp)) := xVe _ _ _ _ _ _
theorem s_So_cellars_4 (C : xCx) (r : List Value) (hp : xHp) (x : Nat) : (xV k_So_cellars C 4 [.ref x] r hp) = (True ∧ xV k_So_cellars C 5 [.ref x] (.ref x :: r) hp) := xVe _ _ _ _ _ _
theorem s_So_cellars_5 (a : Nat) (C : xCx) (L r : List Value) (hp : xHp) : (xV k_So_cellars C 5 L (.ref a :: r) hp) = (xF hp a 0 6 (fun v => xV k_So_cellars C 8 L (v :: r) hp)) := xVe _ _ _ _ _ _
theorem s_So_cellars_8  (C : xCx) (L r : List Value) (hp : xHp) : (xV k_So_cellars C 8 L (r) hp) = (xV k_So_cellars C 9 L (.int (0) :: r) hp) := xVe _ _ _ _ _ _
theorem s_So_cellars_9 (C : xCx) (r : List Value) (hp : xHp) (x : Nat) : (xV k_So_cellars C 9 [.ref x] r hp) = (True ∧ xV k_So_cellars C 10 [.ref x] (.ref x :: r) hp) := xVe _ _ _ _ _ _
theorem s_So_cellars_10 (a : Nat) (C : xCx) (L r : List Value) (hp : xHp) : (xV k_So_cellars C 10 L (.ref a :: r) hp) = (xF hp a 0 1 (fun v => xV k_So_cellars C 13 L (v :: r) hp)) := xVe _ _ _ _ _ _
theorem s_So_cellars_13 (x0 : Nat) (x1 : Int32) (x2 : Nat) (a : Nat) (l : Launch) (d b lo gz n0 s0 : Nat) (Po : Option Value → xHp → Prop) (L r : List Value) (hp : xHp) : (xV k_So_cellars (l, d + 1, b, lo, gz, n0, s0, m_So_cellars, Po) 13 L (.ref x2 :: .int x1 :: .ref x0 :: .ref a :: r) hp) = (xO hp a 6 ∧ xcs r 8 ∧ xMi l d b lo gz m_Rooms_fill [.ref a, .ref x0, .int x1, .ref x2] hp (fun x hp' => xV k_So_cellars (l, d + 1, b, lo, gz, n0, s0, m_So_cellars, Po) 16 L (.int x :: r) hp')) := xVe _ _ _ _ _ _
theorem s_So_cellars_16 (v : Int32) (l : Launch) (d b lo gz n0 s0 : Nat) (Po : Option Value → xHp → Prop) (L : List Value) (hp : xHp) : (xV k_So_cellars (l, d, b, lo, gz, n0, s0, m_So_cellars, Po) 16 L [.int v] hp) = (Po (some (.int v)) hp) := xVe _ _ _ _ _ _
theorem ml_So_335 : xLk "SunnyOnes" 335 m_Sun_hoursAt := Or.inl (wg4 157 (by decide +kernel) rfl)
def k_So_brightest : List xEC := [
  (0, .aload_n 0, 1, 0, 0, 0, m_x),
  (1, .iload_n 1, 2, 0, 0, 0, m_x),
  (2, .invokevirtual 179, 5, 0, 0, 0, m_So_has),
  (5, .ifCond .ne 5, 8, 0, 10, 0, m_x),
  (8, .iconst (-1), 9, 0, 0, 0, m_x),
  (9, .ireturn, 10, 0, 0, 0, m_x),
  (10, .iconst (-1), 11, 0, 0, 0, m_x),
  (11, .istore_n 2, 12, 0, 0, 0, m_x),
  (12, .iconst 0, 13, 0, 0, 0, m_x),
  (13, .istore_n 3, 14, 0, 0, 0, m_x),
  (14, .iconst 0, 15, 0, 0, 0, m_x),
  (15, .istore 4, 17, 0, 0, 0, m_x),
  (17, .iload 4, 19, 0, 0, 0, m_x),
  (19, .aload_n 0, 20, 0, 0, 0, m_x),
  (20, .getfield 26, 23, 0, 2, 0, m_x),
  (23, .invokevirtual 129, 26, 4, 0, 0, m_Land_size),
  (26, .if_icmp .ge 53, 29, 0, 79, 0, m_x),
  (29, .aload_n 0, 30, 0, 0, 0, m_x),
  (30, .getfield 47, 33, 0, 5, 0, m_x),
  (33, .aload_n 0, 34, 0, 0, 0, m_x),
  (34, .getfield 54, 37, 0, 6, 0, m_x),
  (37, .iload_n 1, 38, 0, 0, 0, m_x),
  (38, .iload 4, 40, 0, 0, 0, m_x),
  (40, .invokevirtual 335, 43, 9, 0, 0, m_Sun_hoursAt),
  (43, .istore 5, 45, 0, 0, 0, m_x),
  (45, .iload 5, 47, 0, 0, 0, m_x),
  (47, .iload_n 2, 48, 0, 0, 0, m_x),
  (48, .if_icmp .le 8, 51, 0, 56, 0, m_x),
  (51, .iload 5, 53, 0, 0, 0, m_x),
  (53, .istore_n 2, 54, 0, 0, 0, m_x),
  (54, .iconst 0, 55, 0, 0, 0, m_x),
  (55, .istore_n 3, 56, 0, 0, 0, m_x),
  (56, .iload_n 3, 57, 0, 0, 0, m_x),
  (57, .iload 5, 59, 0, 0, 0, m_x),
  (59, .iload_n 2, 60, 0, 0, 0, m_x),
  (60, .if_icmp .ne 10, 63, 0, 70, 0, m_x),
  (63, .iconst 1, 64, 0, 0, 0, m_x),
  (64, .iload 4, 66, 0, 0, 0, m_x),
  (66, .ishl, 67, 0, 0, 0, m_x),
  (67, .goto 4, 70, 0, 71, 0, m_x),
  (70, .iconst 0, 71, 0, 0, 0, m_x),
  (71, .ior, 72, 0, 0, 0, m_x),
  (72, .istore_n 3, 73, 0, 0, 0, m_x),
  (73, .iinc 4 1, 76, 0, 0, 0, m_x),
  (76, .goto (-59), 79, 0, 17, 0, m_x),
  (79, .aload_n 0, 80, 0, 0, 0, m_x),
  (80, .getfield 19, 83, 0, 1, 0, m_x),
  (83, .iload_n 2, 84, 0, 0, 0, m_x),
  (84, .i2l, 85, 0, 0, 0, m_x),
  (85, .invokevirtual 287, 88, 7, 0, 0, m_Row_tell1),
  (88, .iload_n 3, 89, 0, 0, 0, m_x),
  (89, .ireturn, 90, 0, 0, 0, m_x)]
theorem dc_So_brightest : ∀ E ∈ k_So_brightest, xDc m_So_brightest E := by decide +kernel
set_option maxRecDepth 20000 in
theorem ok_So_brightest : ∀ E ∈ k_So_brightest, xOk m_So_brightest E := xok_of dc_So_brightest (xfc trivial (xfc trivial (xfc ⟨ml_So_179, kd_So_has⟩ (xfc (show ((5 : Nat) : Int) + (5) = ((10 : Nat) : Int) from by decide) (xfc trivial (xfc trivial (xfc trivial (xfc trivial (xfc trivial (xfc trivial (xfc trivial (xfc trivial (xfc trivial (xfc trivial (xfc fl_So_26 (xfc ⟨ml_So_129, kd_Land_size⟩ (xfc (show ((26 : Nat) : Int) + (53) = ((79 : Nat) : Int) from by decide) (xfc trivial (xfc fl_So_47 (xfc trivial (xfc fl_So_54 (xfc trivial (xfc trivial (xfc ⟨ml_So_335, kd_Sun_hoursAt⟩ (xfc trivial (xfc trivial (xfc trivial (xfc (show ((48 : Nat) : Int) + (8) = ((56 : Nat) : Int) from by decide) (xfc trivial (xfc trivial (xfc trivial (xfc trivial (xfc trivial (xfc trivial (xfc trivial (xfc (show ((60 : Nat) : Int) + (10) = ((70 : Nat) : Int) from by decide) (xfc trivial (xfc trivial (xfc trivial (xfc (show ((67 : Nat) : Int) + (4) = ((71 : Nat) : Int) from by decide) (xfc trivial (xfc trivial (xfc trivial (xfc trivial (xfc (show ((76 : Nat) : Int) + (-59) = ((17 : Nat) : Int) from by decide) (xfc trivial (xfc fl_So_19 (xfc trivial (xfc trivial (xfc ⟨ml_So_287, kd_Row_tell1⟩ (xfc trivial (xfc trivial (xfn)))))))))))))))))))))))))))))))))))))))))))))))))))))
theorem s_So_brightest_0 (C : xCx) (r : List Value) (hp : xHp) (x : Nat) (a1 a2 a3 a4 a5 : Value) : (xV k_So_brightest C 0 [.ref x, a1, a2, a3, a4, a5] r hp) = (True ∧ xV k_So_brightest C 1 [.ref x, a1, a2, a3, a4, a5] (.ref x :: r) hp) := xVe _ _ _ _ _ _
theorem s_So_brightest_1 (C : xCx) (r : List Value) (hp : xHp) (x : Int32) (a0 a2 a3 a4 a5 : Value) : (xV k_So_brightest C 1 [a0, .int x, a2, a3, a4, a5] r hp) = (xV k_So_brightest C 2 [a0, .int x, a2, a3, a4, a5] (.int x :: r) hp) := xVe _ _ _ _ _ _
theorem s_So_brightest_2 (x0 : Int32) (a : Nat) (l : Launch) (d b lo gz n0 s0 : Nat) (Po : Option Value → xHp → Prop) (L r : List Value) (hp : xHp) : (xV k_So_brightest (l, d + 1, b, lo, gz, n0, s0, m_So_brightest, Po) 2 L (.int x0 :: .ref a :: r) hp) = (xO hp a 0 ∧ xcs r 8 ∧ xMi l d b lo gz m_So_has [.ref a, .int x0] hp (fun x hp' => xV k_So_brightest (l, d + 1, b, lo, gz, n0, s0, m_So_brightest, Po) 5 L (.int x :: r) hp')) := xVe _ _ _ _ _ _
theorem s_So_brightest_5 (x : Int32) (C : xCx) (L r : List Value) (hp : xHp) : (xV k_So_brightest C 5 L (.int x :: r) hp) = (((¬ x = 0 → xV k_So_brightest C 10 L r hp) ∧ (x = 0 → xV k_So_brightest C 8 L r hp))) := xVe _ _ _ _ _ _
theorem s_So_brightest_8  (C : xCx) (L r : List Value) (hp : xHp) : (xV k_So_brightest C 8 L (r) hp) = (xV k_So_brightest C 9 L (.int (-1) :: r) hp) := xVe _ _ _ _ _ _
theorem s_So_brightest_9 (v : Int32) (l : Launch) (d b lo gz n0 s0 : Nat) (Po : Option Value → xHp → Prop) (L : List Value) (hp : xHp) : (xV k_So_brightest (l, d, b, lo, gz, n0, s0, m_So_brightest, Po) 9 L [.int v] hp) = (Po (some (.int v)) hp) := xVe _ _ _ _ _ _
theorem s_So_brightest_10  (C : xCx) (L r : List Value) (hp : xHp) : (xV k_So_brightest C 10 L (r) hp) = (xV k_So_brightest C 11 L (.int (-1) :: r) hp) := xVe _ _ _ _ _ _
theorem s_So_brightest_11 (C : xCx) (r : List Value) (hp : xHp) (x : Int32) (a0 a1 a2 a3 a4 a5 : Value) : (xV k_So_brightest C 11 [a0, a1, a2, a3, a4, a5] (.int x :: r) hp) = (2 < 6 ∧ xNl [a0, a1, a2, a3, a4, a5] 2 ∧ xV k_So_brightest C 12 [a0, a1, .int x, a3, a4, a5] r hp) := xVe _ _ _ _ _ _
theorem s_So_brightest_12  (C : xCx) (L r : List Value) (hp : xHp) : (xV k_So_brightest C 12 L (r) hp) = (xV k_So_brightest C 13 L (.int (0) :: r) hp) := xVe _ _ _ _ _ _
theorem s_So_brightest_13 (C : xCx) (r : List Value) (hp : xHp) (x : Int32) (a0 a1 a2 a3 a4 a5 : Value) : (xV k_So_brightest C 13 [a0, a1, a2, a3, a4, a5] (.int x :: r) hp) = (3 < 6 ∧ xNl [a0, a1, a2, a3, a4, a5] 3 ∧ xV k_So_brightest C 14 [a0, a1, a2, .int x, a4, a5] r hp) := xVe _ _ _ _ _ _
theorem s_So_brightest_14  (C : xCx) (L r : List Value) (hp : xHp) : (xV k_So_brightest C 14 L (r) hp) = (xV k_So_brightest C 15 L (.int (0) :: r) hp) := xVe _ _ _ _ _ _
theorem s_So_brightest_15 (C : xCx) (r : List Value) (hp : xHp) (x : Int32) (a0 a1 a2 a3 a4 a5 : Value) : (xV k_So_brightest C 15 [a0, a1, a2, a3, a4, a5] (.int x :: r) hp) = (4 < 6 ∧ xNl [a0, a1, a2, a3, a4, a5] 4 ∧ xV k_So_brightest C 17 [a0, a1, a2, a3, .int x, a5] r hp) := xVe _ _ _ _ _ _
theorem s_So_brightest_17 (C : xCx) (r : List Value) (hp : xHp) (x : Int32) (a0 a1 a2 a3 a5 : Value) : (xV k_So_brightest C 17 [a0, a1, a2, a3, .int x, a5] r hp) = (xV k_So_brightest C 19 [a0, a1, a2, a3, .int x, a5] (.int x :: r) hp) := xVe _ _ _ _ _ _
theorem s_So_brightest_19 (C : xCx) (r : List Value) (hp : xHp) (x : Nat) (a1 a2 a3 a4 a5 : Value) : (xV k_So_brightest C 19 [.ref x, a1, a2, a3, a4, a5] r hp) = (True ∧ xV k_So_brightest C 20 [.ref x, a1, a2, a3, a4, a5] (.ref x :: r) hp) := xVe _ _ _ _ _ _
theorem s_So_brightest_20 (a : Nat) (C : xCx) (L r : List Value) (hp : xHp) : (xV k_So_brightest C 20 L (.ref a :: r) hp) = (xF hp a 0 2 (fun v => xV k_So_brightest C 23 L (v :: r) hp)) := xVe _ _ _ _ _ _
theorem s_So_brightest_23 (a : Nat) (l : Launch) (d b lo gz n0 s0 : Nat) (Po : Option Value → xHp → Prop) (L r : List Value) (hp : xHp) : (xV k_So_brightest (l, d + 1, b, lo, gz, n0, s0, m_So_brightest, Po) 23 L (.ref a :: r) hp) = (xO hp a 4 ∧ xcs r 8 ∧ xMi l d b lo gz m_Land_size [.ref a] hp (fun x hp' => xV k_So_brightest (l, d + 1, b, lo, gz, n0, s0, m_So_brightest, Po) 26 L (.int x :: r) hp')) := xVe _ _ _ _ _ _
theorem s_So_brightest_26 (x y : Int32) (C : xCx) (L r : List Value) (hp : xHp) : (xV k_So_brightest C 26 L (.int y :: .int x :: r) hp) = (((y ≤ x → xV k_So_brightest C 79 L r hp) ∧ (¬ y ≤ x → xV k_So_brightest C 29 L r hp))) := xVe _ _ _ _ _ _
theorem s_So_brightest_29 (C : xCx) (r : List Value) (hp : xHp) (x : Nat) (a1 a2 a3 a4 a5 : Value) : (xV k_So_brightest C 29 [.ref x, a1, a2, a3, a4, a5] r hp) = (True ∧ xV k_So_brightest C 30 [.ref x, a1, a2, a3, a4, a5] (.ref x :: r) hp) := xVe _ _ _ _ _ _
theorem s_So_brightest_30 (a : Nat) (C : xCx) (L r : List Value) (hp : xHp) : (xV k_So_brightest C 30 L (.ref a :: r) hp) = (xF hp a 0 5 (fun v => xV k_So_brightest C 33 L (v :: r) hp)) := xVe _ _ _ _ _ _
theorem s_So_brightest_33 (C : xCx) (r : List Value) (hp : xHp) (x : Nat) (a1 a2 a3 a4 a5 : Value) : (xV k_So_brightest C 33 [.ref x, a1, a2, a3, a4, a5] r hp) = (True ∧ xV k_So_brightest C 34 [.ref x, a1, a2, a3, a4, a5] (.ref x :: r) hp) := xVe _ _ _ _ _ _
theorem s_So_brightest_34 (a : Nat) (C : xCx) (L r : List Value) (hp : xHp) : (xV k_So_brightest C 34 L (.ref a :: r) hp) = (xF hp a 0 6 (fun v => xV k_So_brightest C 37 L (v :: r) hp)) := xVe _ _ _ _ _ _
theorem s_So_brightest_37 (C : xCx) (r : List Value) (hp : xHp) (x : Int32) (a0 a2 a3 a4 a5 : Value) : (xV k_So_brightest C 37 [a0, .int x, a2, a3, a4, a5] r hp) = (xV k_So_brightest C 38 [a0, .int x, a2, a3, a4, a5] (.int x :: r) hp) := xVe _ _ _ _ _ _
theorem s_So_brightest_38 (C : xCx) (r : List Value) (hp : xHp) (x : Int32) (a0 a1 a2 a3 a5 : Value) : (xV k_So_brightest C 38 [a0, a1, a2, a3, .int x, a5] r hp) = (xV k_So_brightest C 40 [a0, a1, a2, a3, .int x, a5] (.int x :: r) hp) := xVe _ _ _ _ _ _
theorem s_So_brightest_40 (x0 : Nat) (x1 : Int32) (x2 : Int32) (a : Nat) (l : Launch) (d b lo gz n0 s0 : Nat) (Po : Option Value → xHp → Prop) (L r : List Value) (hp : xHp) : (xV k_So_brightest (l, d + 1, b, lo, gz, n0, s0, m_So_brightest, Po) 40 L (.int x2 :: .int x1 :: .ref x0 :: .ref a :: r) hp) = (xO hp a 9 ∧ xcs r 8 ∧ xMi l d b lo gz m_Sun_hoursAt [.ref a, .ref x0, .int x1, .int x2] hp (fun x hp' => xV k_So_brightest (l, d + 1, b, lo, gz, n0, s0, m_So_brightest, Po) 43 L (.int x :: r) hp')) := xVe _ _ _ _ _ _
theorem s_So_brightest_43 (C : xCx) (r : List Value) (hp : xHp) (x : Int32) (a0 a1 a2 a3 a4 a5 : Value) : (xV k_So_brightest C 43 [a0, a1, a2, a3, a4, a5] (.int x :: r) hp) = (5 < 6 ∧ xNl [a0, a1, a2, a3, a4, a5] 5 ∧ xV k_So_brightest C 45 [a0, a1, a2, a3, a4, .int x] r hp) := xVe _ _ _ _ _ _
theorem s_So_brightest_45 (C : xCx) (r : List Value) (hp : xHp) (x : Int32) (a0 a1 a2 a3 a4 : Value) : (xV k_So_brightest C 45 [a0, a1, a2, a3, a4, .int x] r hp) = (xV k_So_brightest C 47 [a0, a1, a2, a3, a4, .int x] (.int x :: r) hp) := xVe _ _ _ _ _ _
theorem s_So_brightest_47 (C : xCx) (r : List Value) (hp : xHp) (x : Int32) (a0 a1 a3 a4 a5 : Value) : (xV k_So_brightest C 47 [a0, a1, .int x, a3, a4, a5] r hp) = (xV k_So_brightest C 48 [a0, a1, .int x, a3, a4, a5] (.int x :: r) hp) := xVe _ _ _ _ _ _
theorem s_So_brightest_48 (x y : Int32) (C : xCx) (L r : List Value) (hp : xHp) : (xV k_So_brightest C 48 L (.int y :: .int x :: r) hp) = (((x ≤ y → xV k_So_brightest C 56 L r hp) ∧ (¬ x ≤ y → xV k_So_brightest C 51 L r hp))) := xVe _ _ _ _ _ _
theorem s_So_brightest_51 (C : xCx) (r : List Value) (hp : xHp) (x : Int32) (a0 a1 a2 a3 a4 : Value) : (xV k_So_brightest C 51 [a0, a1, a2, a3, a4, .int x] r hp) = (xV k_So_brightest C 53 [a0, a1, a2, a3, a4, .int x] (.int x :: r) hp) := xVe _ _ _ _ _ _
theorem s_So_brightest_53 (C : xCx) (r : List Value) (hp : xHp) (x : Int32) (a0 a1 a2 a3 a4 a5 : Value) : (xV k_So_brightest C 53 [a0, a1, a2, a3, a4, a5] (.int x :: r) hp) = (2 < 6 ∧ xNl [a0, a1, a2, a3, a4, a5] 2 ∧ xV k_So_brightest C 54 [a0, a1, .int x, a3, a4, a5] r hp) := xVe _ _ _ _ _ _
theorem s_So_brightest_54  (C : xCx) (L r : List Value) (hp : xHp) : (xV k_So_brightest C 54 L (r) hp) = (xV k_So_brightest C 55 L (.int (0) :: r) hp) := xVe _ _ _ _ _ _
theorem s_So_brightest_55 (C : xCx) (r : List Value) (hp : xHp) (x : Int32) (a0 a1 a2 a3 a4 a5 : Value) : (xV k_So_brightest C 55 [a0, a1, a2, a3, a4, a5] (.int x :: r) hp) = (3 < 6 ∧ xNl [a0, a1, a2, a3, a4, a5] 3 ∧ xV k_So_brightest C 56 [a0, a1, a2, .int x, a4, a5] r hp) := xVe _ _ _ _ _ _
theorem s_So_brightest_56 (C : xCx) (r : List Value) (hp : xHp) (x : Int32) (a0 a1 a2 a4 a5 : Value) : (xV k_So_brightest C 56 [a0, a1, a2, .int x, a4, a5] r hp) = (xV k_So_brightest C 57 [a0, a1, a2, .int x, a4, a5] (.int x :: r) hp) := xVe _ _ _ _ _ _
theorem s_So_brightest_57 (C : xCx) (r : List Value) (hp : xHp) (x : Int32) (a0 a1 a2 a3 a4 : Value) : (xV k_So_brightest C 57 [a0, a1, a2, a3, a4, .int x] r hp) = (xV k_So_brightest C 59 [a0, a1, a2, a3, a4, .int x] (.int x :: r) hp) := xVe _ _ _ _ _ _
theorem s_So_brightest_59 (C : xCx) (r : List Value) (hp : xHp) (x : Int32) (a0 a1 a3 a4 a5 : Value) : (xV k_So_brightest C 59 [a0, a1, .int x, a3, a4, a5] r hp) = (xV k_So_brightest C 60 [a0, a1, .int x, a3, a4, a5] (.int x :: r) hp) := xVe _ _ _ _ _ _
theorem s_So_brightest_60 (x y : Int32) (C : xCx) (L r : List Value) (hp : xHp) : (xV k_So_brightest C 60 L (.int y :: .int x :: r) hp) = (((¬ x = y → xV k_So_brightest C 70 L r hp) ∧ (x = y → xV k_So_brightest C 63 L r hp))) := xVe _ _ _ _ _ _
theorem s_So_brightest_63  (C : xCx) (L r : List Value) (hp : xHp) : (xV k_So_brightest C 63 L (r) hp) = (xV k_So_brightest C 64 L (.int (1) :: r) hp) := xVe _ _ _ _ _ _
theorem s_So_brightest_64 (C : xCx) (r : List Value) (hp : xHp) (x : Int32) (a0 a1 a2 a3 a5 : Value) : (xV k_So_brightest C 64 [a0, a1, a2, a3, .int x, a5] r hp) = (xV k_So_brightest C 66 [a0, a1, a2, a3, .int x, a5] (.int x :: r) hp) := xVe _ _ _ _ _ _
theorem s_So_brightest_66 (x y : Int32) (C : xCx) (L r : List Value) (hp : xHp) : (xV k_So_brightest C 66 L (.int y :: .int x :: r) hp) = (xV k_So_brightest C 67 L (.int (x <<< (y &&& 31)) :: r) hp) := xVe _ _ _ _ _ _
theorem s_So_brightest_67 (C : xCx) (L r : List Value) (hp : xHp) : (xV k_So_brightest C 67 L r hp) = (xV k_So_brightest C 71 L r hp) := xVe _ _ _ _ _ _
theorem s_So_brightest_70  (C : xCx) (L r : List Value) (hp : xHp) : (xV k_So_brightest C 70 L (r) hp) = (xV k_So_brightest C 71 L (.int (0) :: r) hp) := xVe _ _ _ _ _ _
theorem s_So_brightest_71 (x y : Int32) (C : xCx) (L r : List Value) (hp : xHp) : (xV k_So_brightest C 71 L (.int y :: .int x :: r) hp) = (xV k_So_brightest C 72 L (.int (x ||| y) :: r) hp) := xVe _ _ _ _ _ _
theorem s_So_brightest_72 (C : xCx) (r : List Value) (hp : xHp) (x : Int32) (a0 a1 a2 a3 a4 a5 : Value) : (xV k_So_brightest C 72 [a0, a1, a2, a3, a4, a5] (.int x :: r) hp) = (3 < 6 ∧ xNl [a0, a1, a2, a3, a4, a5] 3 ∧ xV k_So_brightest C 73 [a0, a1, a2, .int x, a4, a5] r hp) := xVe _ _ _ _ _ _
theorem s_So_brightest_73 (C : xCx) (r : List Value) (hp : xHp) (x : Int32) (a0 a1 a2 a3 a5 : Value) : (xV k_So_brightest C 73 [a0, a1, a2, a3, .int x, a5] r hp) = (xNl [a0, a1, a2, a3, .int x, a5] 4 ∧ xV k_So_brightest C 76 [a0, a1, a2, a3, .int (x + (1)), a5] r hp) := xVe _ _ _ _ _ _
theorem s_So_brightest_76 (C : xCx) (L r : List Value) (hp : xHp) : (xV k_So_brightest C 76 L r hp) = (xV k_So_brightest C 17 L r hp) := xVe _ _ _ _ _ _
theorem s_So_brightest_79 (C : xCx) (r : List Value) (hp : xHp) (x : Nat) (a1 a2 a3 a4 a5 : Value) : (xV k_So_brightest C 79 [.ref x, a1, a2, a3, a4, a5] r hp) = (True ∧ xV k_So_brightest C 80 [.ref x, a1, a2, a3, a4, a5] (.ref x :: r) hp) := xVe _ _ _ _ _ _
theorem s_So_brightest_80 (a : Nat) (C : xCx) (L r : List Value) (hp : xHp) : (xV k_So_brightest C 80 L (.ref a :: r) hp) = (xF hp a 0 1 (fun v => xV k_So_brightest C 83 L (v :: r) hp)) := xVe _ _ _ _ _ _
theorem s_So_brightest_83 (C : xCx) (r : List Value) (hp : xHp) (x : Int32) (a0 a1 a3 a4 a5 : Value) : (xV k_So_brightest C 83 [a0, a1, .int x, a3, a4, a5] r hp) = (xV k_So_brightest C 84 [a0, a1, .int x, a3, a4, a5] (.int x :: r) hp) := xVe _ _ _ _ _ _
theorem s_So_brightest_84 (x : Int32) (C : xCx) (L r : List Value) (hp : xHp) : (xV k_So_brightest C 84 L (.int x :: r) hp) = (xV k_So_brightest C 85 L (.long x.toInt64 :: r) hp) := xVe _ _ _ _ _ _
theorem s_So_brightest_85 (x0 : Int64) (a : Nat) (l : Launch) (d b lo gz n0 s0 : Nat) (Po : Option Value → xHp → Prop) (L r : List Value) (hp : xHp) : (xV k_So_brightest (l, d + 1, b, lo, gz, n0, s0, m_So_brightest, Po) 85 L (.long x0 :: .ref a :: r) hp) = (xO hp a 7 ∧ xcs r 8 ∧ xMv l d b lo gz m_Row_tell1 [.ref a, .long x0] hp (fun hp' => xV k_So_brightest (l, d + 1, b, lo, gz, n0, s0, m_So_brightest, Po) 88 L r hp')) := xVe _ _ _ _ _ _
theorem s_So_brightest_88 (C : xCx) (r : List Value) (hp : xHp) (x : Int32) (a0 a1 a2 a4 a5 : Value) : (xV k_So_brightest C 88 [a0, a1, a2, .int x, a4, a5] r hp) = (xV k_So_brightest C 89 [a0, a1, a2, .int x, a4, a5] (.int x :: r) hp) := xVe _ _ _ _ _ _
theorem s_So_brightest_89 (v : Int32) (l : Launch) (d b lo gz n0 s0 : Nat) (Po : Option Value → xHp → Prop) (L : List Value) (hp : xHp) : (xV k_So_brightest (l, d, b, lo, gz, n0, s0, m_So_brightest, Po) 89 L [.int v] hp) = (Po (some (.int v)) hp) := xVe _ _ _ _ _ _
theorem ml_So_338 : xLk "SunnyOnes" 338 m_Clues_add := Or.inl (wg4 162 (by decide +kernel) rfl)
theorem ml_So_341 : xLk "SunnyOnes" 341 m_Clues_size := Or.inl (wg4 167 (by decide +kernel) rfl)
def k_So_saw : List xEC := [
  (0, .aload_n 0, 1, 0, 0, 0, m_x),
  (1, .iload_n 1, 2, 0, 0, 0, m_x),
  (2, .invokevirtual 179, 5, 0, 0, 0, m_So_has),
  (5, .ifCond .eq 25, 8, 0, 30, 0, m_x),
  (8, .iload_n 2, 9, 0, 0, 0, m_x),
  (9, .ifCond .lt 21, 12, 0, 30, 0, m_x),
  (12, .iload_n 2, 13, 0, 0, 0, m_x),
  (13, .bipush 9, 15, 0, 0, 0, m_x),
  (15, .if_icmp .gt 15, 18, 0, 30, 0, m_x),
  (18, .aload_n 0, 19, 0, 0, 0, m_x),
  (19, .getfield 76, 22, 0, 10, 0, m_x),
  (22, .iload_n 1, 23, 0, 0, 0, m_x),
  (23, .iload_n 2, 24, 0, 0, 0, m_x),
  (24, .invokevirtual 338, 27, 2, 0, 0, m_Clues_add),
  (27, .ifCond .ne 5, 30, 0, 32, 0, m_x),
  (30, .iconst (-1), 31, 0, 0, 0, m_x),
  (31, .ireturn, 32, 0, 0, 0, m_x),
  (32, .aload_n 0, 33, 0, 0, 0, m_x),
  (33, .getfield 76, 36, 0, 10, 0, m_x),
  (36, .invokevirtual 341, 39, 2, 0, 0, m_Clues_size),
  (39, .ireturn, 40, 0, 0, 0, m_x)]
theorem dc_So_saw : ∀ E ∈ k_So_saw, xDc m_So_saw E := by decide +kernel
set_option maxRecDepth 20000 in
theorem ok_So_saw : ∀ E ∈ k_So_saw, xOk m_So_saw E := xok_of dc_So_saw (xfc trivial (xfc trivial (xfc ⟨ml_So_179, kd_So_has⟩ (xfc (show ((5 : Nat) : Int) + (25) = ((30 : Nat) : Int) from by decide) (xfc trivial (xfc (show ((9 : Nat) : Int) + (21) = ((30 : Nat) : Int) from by decide) (xfc trivial (xfc trivial (xfc (show ((15 : Nat) : Int) + (15) = ((30 : Nat) : Int) from by decide) (xfc trivial (xfc fl_So_76 (xfc trivial (xfc trivial (xfc ⟨ml_So_338, kd_Clues_add⟩ (xfc (show ((27 : Nat) : Int) + (5) = ((32 : Nat) : Int) from by decide) (xfc trivial (xfc trivial (xfc trivial (xfc fl_So_76 (xfc ⟨ml_So_341, kd_Clues_size⟩ (xfc trivial (xfn))))))))))))))))))))))
theorem s_So_saw_0 (C : xCx) (r : List Value) (hp : xHp) (x : Nat) (a1 a2 : Value) : (xV k_So_saw C 0 [.ref x, a1, a2] r hp) = (True ∧ xV k_So_saw C 1 [.ref x, a1, a2] (.ref x :: r) hp) := xVe _ _ _ _ _ _
theorem s_So_saw_1 (C : xCx) (r : List Value) (hp : xHp) (x : Int32) (a0 a2 : Value) : (xV k_So_saw C 1 [a0, .int x, a2] r hp) = (xV k_So_saw C 2 [a0, .int x, a2] (.int x :: r) hp) := xVe _ _ _ _ _ _
theorem s_So_saw_2 (x0 : Int32) (a : Nat) (l : Launch) (d b lo gz n0 s0 : Nat) (Po : Option Value → xHp → Prop) (L r : List Value) (hp : xHp) : (xV k_So_saw (l, d + 1, b, lo, gz, n0, s0, m_So_saw, Po) 2 L (.int x0 :: .ref a :: r) hp) = (xO hp a 0 ∧ xcs r 8 ∧ xMi l d b lo gz m_So_has [.ref a, .int x0] hp (fun x hp' => xV k_So_saw (l, d + 1, b, lo, gz, n0, s0, m_So_saw, Po) 5 L (.int x :: r) hp')) := xVe _ _ _ _ _ _
theorem s_So_saw_5 (x : Int32) (C : xCx) (L r : List Value) (hp : xHp) : (xV k_So_saw C 5 L (.int x :: r) hp) = (((x = 0 → xV k_So_saw C 30 L r hp) ∧ (¬ x = 0 → xV k_So_saw C 8 L r hp))) := xVe _ _ _ _ _ _
theorem s_So_saw_8 (C : xCx) (r : List Value) (hp : xHp) (x : Int32) (a0 a1 : Value) : (xV k_So_saw C 8 [a0, a1, .int x] r hp) = (xV k_So_saw C 9 [a0, a1, .int x] (.int x :: r) hp) := xVe _ _ _ _ _ _
theorem s_So_saw_9 (x : Int32) (C : xCx) (L r : List Value) (hp : xHp) : (xV k_So_saw C 9 L (.int x :: r) hp) = (((x < 0 → xV k_So_saw C 30 L r hp) ∧ (¬ x < 0 → xV k_So_saw C 12 L r hp))) := xVe _ _ _ _ _ _
theorem s_So_saw_12 (C : xCx) (r : List Value) (hp : xHp) (x : Int32) (a0 a1 : Value) : (xV k_So_saw C 12 [a0, a1, .int x] r hp) = (xV k_So_saw C 13 [a0, a1, .int x] (.int x :: r) hp) := xVe _ _ _ _ _ _
theorem s_So_saw_13  (C : xCx) (L r : List Value) (hp : xHp) : (xV k_So_saw C 13 L (r) hp) = (xV k_So_saw C 15 L (.int (9) :: r) hp) := xVe _ _ _ _ _ _
theorem s_So_saw_15 (x y : Int32) (C : xCx) (L r : List Value) (hp : xHp) : (xV k_So_saw C 15 L (.int y :: .int x :: r) hp) = (((y < x → xV k_So_saw C 30 L r hp) ∧ (¬ y < x → xV k_So_saw C 18 L r hp))) := xVe _ _ _ _ _ _
theorem s_So_saw_18 (C : xCx) (r : List Value) (hp : xHp) (x : Nat) (a1 a2 : Value) : (xV k_So_saw C 18 [.ref x, a1, a2] r hp) = (True ∧ xV k_So_saw C 19 [.ref x, a1, a2] (.ref x :: r) hp) := xVe _ _ _ _ _ _
theorem s_So_saw_19 (a : Nat) (C : xCx) (L r : List Value) (hp : xHp) : (xV k_So_saw C 19 L (.ref a :: r) hp) = (xF hp a 0 10 (fun v => xV k_So_saw C 22 L (v :: r) hp)) := xVe _ _ _ _ _ _
theorem s_So_saw_22 (C : xCx) (r : List Value) (hp : xHp) (x : Int32) (a0 a2 : Value) : (xV k_So_saw C 22 [a0, .int x, a2] r hp) = (xV k_So_saw C 23 [a0, .int x, a2] (.int x :: r) hp) := xVe _ _ _ _ _ _
theorem s_So_saw_23 (C : xCx) (r : List Value) (hp : xHp) (x : Int32) (a0 a1 : Value) : (xV k_So_saw C 23 [a0, a1, .int x] r hp) = (xV k_So_saw C 24 [a0, a1, .int x] (.int x :: r) hp) := xVe _ _ _ _ _ _
theorem s_So_saw_24 (x0 : Int32) (x1 : Int32) (a : Nat) (l : Launch) (d b lo gz n0 s0 : Nat) (Po : Option Value → xHp → Prop) (L r : List Value) (hp : xHp) : (xV k_So_saw (l, d + 1, b, lo, gz, n0, s0, m_So_saw, Po) 24 L (.int x1 :: .int x0 :: .ref a :: r) hp) = (xO hp a 2 ∧ xcs r 8 ∧ xMi l d b lo gz m_Clues_add [.ref a, .int x0, .int x1] hp (fun x hp' => xV k_So_saw (l, d + 1, b, lo, gz, n0, s0, m_So_saw, Po) 27 L (.int x :: r) hp')) := xVe _ _ _ _ _ _
theorem s_So_saw_27 (x : Int32) (C : xCx) (L r : List Value) (hp : xHp) : (xV k_So_saw C 27 L (.int x :: r) hp) = (((¬ x = 0 → xV k_So_saw C 32 L r hp) ∧ (x = 0 → xV k_So_saw C 30 L r hp))) := xVe _ _ _ _ _ _
theorem s_So_saw_30  (C : xCx) (L r : List Value) (hp : xHp) : (xV k_So_saw C 30 L (r) hp) = (xV k_So_saw C 31 L (.int (-1) :: r) hp) := xVe _ _ _ _ _ _
theorem s_So_saw_31 (v : Int32) (l : Launch) (d b lo gz n0 s0 : Nat) (Po : Option Value → xHp → Prop) (L : List Value) (hp : xHp) : (xV k_So_saw (l, d, b, lo, gz, n0, s0, m_So_saw, Po) 31 L [.int v] hp) = (Po (some (.int v)) hp) := xVe _ _ _ _ _ _
theorem s_So_saw_32 (C : xCx) (r : List Value) (hp : xHp) (x : Nat) (a1 a2 : Value) : (xV k_So_saw C 32 [.ref x, a1, a2] r hp) = (True ∧ xV k_So_saw C 33 [.ref x, a1, a2] (.ref x :: r) hp) := xVe _ _ _ _ _ _
theorem s_So_saw_33 (a : Nat) (C : xCx) (L r : List Value) (hp : xHp) : (xV k_So_saw C 33 L (.ref a :: r) hp) = (xF hp a 0 10 (fun v => xV k_So_saw C 36 L (v :: r) hp)) := xVe _ _ _ _ _ _
theorem s_So_saw_36 (a : Nat) (l : Launch) (d b lo gz n0 s0 : Nat) (Po : Option Value → xHp → Prop) (L r : List Value) (hp : xHp) : (xV k_So_saw (l, d + 1, b, lo, gz, n0, s0, m_So_saw, Po) 36 L (.ref a :: r) hp) = (xO hp a 2 ∧ xcs r 8 ∧ xMi l d b lo gz m_Clues_size [.ref a] hp (fun x hp' => xV k_So_saw (l, d + 1, b, lo, gz, n0, s0, m_So_saw, Po) 39 L (.int x :: r) hp')) := xVe _ _ _ _ _ _
theorem s_So_saw_39 (v : Int32) (l : Launch) (d b lo gz n0 s0 : Nat) (Po : Option Value → xHp → Prop) (L : List Value) (hp : xHp) : (xV k_So_saw (l, d, b, lo, gz, n0, s0, m_So_saw, Po) 39 L [.int v] hp) = (Po (some (.int v)) hp) := xVe _ _ _ _ _ _
theorem ml_So_342 : xLk "SunnyOnes" 342 m_Clues_clear := Or.inl (wg4 175 (by decide +kernel) rfl)
def k_So_denies : List xEC := [
  (0, .aload_n 0, 1, 0, 0, 0, m_x),
  (1, .getfield 76, 4, 0, 10, 0, m_x),
  (4, .invokevirtual 342, 7, 2, 0, 0, m_Clues_clear),
  (7, .ireturn, 8, 0, 0, 0, m_x)]
theorem dc_So_denies : ∀ E ∈ k_So_denies, xDc m_So_denies E := by decide +kernel
set_option maxRecDepth 20000 in
theorem ok_So_denies : ∀ E ∈ k_So_denies, xOk m_So_denies E := xok_of dc_So_denies (xfc trivial (xfc fl_So_76 (xfc ⟨ml_So_342, kd_Clues_clear⟩ (xfc trivial (xfn)))))
theorem s_So_denies_0 (C : xCx) (r : List Value) (hp : xHp) (x : Nat) : (xV k_So_denies C 0 [.ref x] r hp) = (True ∧ xV k_So_denies C 1 [.ref x] (.ref x :: r) hp) := xVe _ _ _ _ _ _
theorem s_So_denies_1 (a : Nat) (C : xCx) (L r : List Value) (hp : xHp) : (xV k_So_denies C 1 L (.ref a :: r) hp) = (xF hp a 0 10 (fun v => xV k_So_denies C 4 L (v :: r) hp)) := xVe _ _ _ _ _ _
theorem s_So_denies_4 (a : Nat) (l : Launch) (d b lo gz n0 s0 : Nat) (Po : Option Value → xHp → Prop) (L r : List Value) (hp : xHp) : (xV k_So_denies (l, d + 1, b, lo, gz, n0, s0, m_So_denies, Po) 4 L (.ref a :: r) hp) = (xO hp a 2 ∧ xcs r 8 ∧ xMi l d b lo gz m_Clues_clear [.ref a] hp (fun x hp' => xV k_So_denies (l, d + 1, b, lo, gz, n0, s0, m_So_denies, Po) 7 L (.int x :: r) hp')) := xVe _ _ _ _ _ _
theorem s_So_denies_7 (v : Int32) (l : Launch) (d b lo gz n0 s0 : Nat) (Po : Option Value → xHp → Prop) (L : List Value) (hp : xHp) : (xV k_So_denies (l, d, b, lo, gz, n0, s0, m_So_denies, Po) 7 L [.int v] hp) = (Po (some (.int v)) hp) := xVe _ _ _ _ _ _
theorem ml_So_344 : xLk "SunnyOnes" 344 m_So_likelySkies := Or.inl (wg4 183 (by decide +kernel) rfl)
theorem ml_So_347 : xLk "SunnyOnes" 347 m_Folk_day := Or.inl (wg4 200 (by decide +kernel) rfl)
theorem ml_So_350 : xLk "SunnyOnes" 350 m_Land_skyOn := Or.inl (wg4 201 (by decide +kernel) rfl)
theorem ml_So_353 : xLk "SunnyOnes" 353 m_Integer_bitCount := Or.inl (wg4 202 (by decide +kernel) rfl)
def k_So_guess : List xEC := [
  (0, .aload_n 0, 1, 0, 0, 0, m_x),
  (1, .invokevirtual 344, 4, 0, 0, 0, m_So_likelySkies),
  (4, .istore_n 1, 5, 0, 0, 0, m_x),
  (5, .iconst 1, 6, 0, 0, 0, m_x),
  (6, .aload_n 0, 7, 0, 0, 0, m_x),
  (7, .getfield 26, 10, 0, 2, 0, m_x),
  (10, .aload_n 0, 11, 0, 0, 0, m_x),
  (11, .getfield 54, 14, 0, 6, 0, m_x),
  (14, .invokevirtual 347, 17, 3, 0, 0, m_Folk_day),
  (17, .invokevirtual 350, 20, 4, 0, 0, m_Land_skyOn),
  (20, .ishl, 21, 0, 0, 0, m_x),
  (21, .istore_n 2, 22, 0, 0, 0, m_x),
  (22, .aload_n 0, 23, 0, 0, 0, m_x),
  (23, .getfield 19, 26, 0, 1, 0, m_x),
  (26, .iload_n 1, 27, 0, 0, 0, m_x),
  (27, .invokestatic 353, 30, 0, 0, 0, m_Integer_bitCount),
  (30, .i2l, 31, 0, 0, 0, m_x),
  (31, .iload_n 1, 32, 0, 0, 0, m_x),
  (32, .iload_n 2, 33, 0, 0, 0, m_x),
  (33, .iand, 34, 0, 0, 0, m_x),
  (34, .ifCond .eq 7, 37, 0, 41, 0, m_x),
  (37, .lconst 1, 38, 0, 0, 0, m_x),
  (38, .goto 4, 41, 0, 42, 0, m_x),
  (41, .lconst 0, 42, 0, 0, 0, m_x),
  (42, .invokevirtual 225, 45, 7, 0, 0, m_Row_tell2),
  (45, .iload_n 1, 46, 0, 0, 0, m_x),
  (46, .ireturn, 47, 0, 0, 0, m_x)]
theorem dc_So_guess : ∀ E ∈ k_So_guess, xDc m_So_guess E := by decide +kernel
set_option maxRecDepth 20000 in
theorem ok_So_guess : ∀ E ∈ k_So_guess, xOk m_So_guess E := xok_of dc_So_guess (xfc trivial (xfc ⟨ml_So_344, kd_So_likelySkies⟩ (xfc trivial (xfc trivial (xfc trivial (xfc fl_So_26 (xfc trivial (xfc fl_So_54 (xfc ⟨ml_So_347, kd_Folk_day⟩ (xfc ⟨ml_So_350, kd_Land_skyOn⟩ (xfc trivial (xfc trivial (xfc trivial (xfc fl_So_19 (xfc trivial (xfc ⟨ml_So_353, kd_Integer_bitCount⟩ (xfc trivial (xfc trivial (xfc trivial (xfc trivial (xfc (show ((34 : Nat) : Int) + (7) = ((41 : Nat) : Int) from by decide) (xfc trivial (xfc (show ((38 : Nat) : Int) + (4) = ((42 : Nat) : Int) from by decide) (xfc trivial (xfc ⟨ml_So_225, kd_Row_tell2⟩ (xfc trivial (xfc trivial (xfn))))))))))))))))))))))))))))
theorem s_So_guess_0 (C : xCx) (r : List Value) (hp : xHp) (x : Nat) (a1 a2 : Value) : (xV k_So_guess C 0 [.ref x, a1, a2] r hp) = (True ∧ xV k_So_guess C 1 [.ref x, a1, a2] (.ref x :: r) hp) := xVe _ _ _ _ _ _
theorem s_So_guess_1 (a : Nat) (l : Launch) (d b lo gz n0 s0 : Nat) (Po : Option Value → xHp → Prop) (L r : List Value) (hp : xHp) : (xV k_So_guess (l, d + 1, b, lo, gz, n0, s0, m_So_guess, Po) 1 L (.ref a :: r) hp) = (xO hp a 0 ∧ xcs r 8 ∧ xMi l d b lo gz m_So_likelySkies [.ref a] hp (fun x hp' => xV k_So_guess (l, d + 1, b, lo, gz, n0, s0, m_So_guess, Po) 4 L (.int x :: r) hp')) := xVe _ _ _ _ _ _
theorem s_So_guess_4 (C : xCx) (r : List Value) (hp : xHp) (x : Int32) (a0 a1 a2 : Value) : (xV k_So_guess C 4 [a0, a1, a2] (.int x :: r) hp) = (1 < 3 ∧ xNl [a0, a1, a2] 1 ∧ xV k_So_guess C 5 [a0, .int x, a2] r hp) := xVe _ _ _ _ _ _
theorem s_So_guess_5  (C : xCx) (L r : List Value) (hp : xHp) : (xV k_So_guess C 5 L (r) hp) = (xV k_So_guess C 6 L (.int (1) :: r) hp) := xVe _ _ _ _ _ _
theorem s_So_guess_6 (C : xCx) (r : List Value) (hp : xHp) (x : Nat) (a1 a2 : Value) : (xV k_So_guess C 6 [.ref x, a1, a2] r hp) = (True ∧ xV k_So_guess C 7 [.ref x, a1, a2] (.ref x :: r) hp) := xVe _ _ _ _ _ _
theorem s_So_guess_7 (a : Nat) (C : xCx) (L r : List Value) (hp : xHp) : (xV k_So_guess C 7 L (.ref a :: r) hp) = (xF hp a 0 2 (fun v => xV k_So_guess C 10 L (v :: r) hp)) := xVe _ _ _ _ _ _
theorem s_So_guess_10 (C : xCx) (r : List Value) (hp : xHp) (x : Nat) (a1 a2 : Value) : (xV k_So_guess C 10 [.ref x, a1, a2] r hp) = (True ∧ xV k_So_guess C 11 [.ref x, a1, a2] (.ref x :: r) hp) := xVe _ _ _ _ _ _
theorem s_So_guess_11 (a : Nat) (C : xCx) (L r : List Value) (hp : xHp) : (xV k_So_guess C 11 L (.ref a :: r) hp) = (xF hp a 0 6 (fun v => xV k_So_guess C 14 L (v :: r) hp)) := xVe _ _ _ _ _ _
theorem s_So_guess_14 (a : Nat) (l : Launch) (d b lo gz n0 s0 : Nat) (Po : Option Value → xHp → Prop) (L r : List Value) (hp : xHp) : (xV k_So_guess (l, d + 1, b, lo, gz, n0, s0, m_So_guess, Po) 14 L (.ref a :: r) hp) = (xO hp a 3 ∧ xcs r 8 ∧ xMi l d b lo gz m_Folk_day [.ref a] hp (fun x hp' => xV k_So_guess (l, d + 1, b, lo, gz, n0, s0, m_So_guess, Po) 17 L (.int x :: r) hp')) := xVe _ _ _ _ _ _
theorem s_So_guess_17 (x0 : Int32) (a : Nat) (l : Launch) (d b lo gz n0 s0 : Nat) (Po : Option Value → xHp → Prop) (L r : List Value) (hp : xHp) : (xV k_So_guess (l, d + 1, b, lo, gz, n0, s0, m_So_guess, Po) 17 L (.int x0 :: .ref a :: r) hp) = (xO hp a 4 ∧ xcs r 8 ∧ xMi l d b lo gz m_Land_skyOn [.ref a, .int x0] hp (fun x hp' => xV k_So_guess (l, d + 1, b, lo, gz, n0, s0, m_So_guess, Po) 20 L (.int x :: r) hp')) := xVe _ _ _ _ _ _
theorem s_So_guess_20 (x y : Int32) (C : xCx) (L r : List Value) (hp : xHp) : (xV k_So_guess C 20 L (.int y :: .int x :: r) hp) = (xV k_So_guess C 21 L (.int (x <<< (y &&& 31)) :: r) hp) := xVe _ _ _ _ _ _
theorem s_So_guess_21 (C : xCx) (r : List Value) (hp : xHp) (x : Int32) (a0 a1 a2 : Value) : (xV k_So_guess C 21 [a0, a1, a2] (.int x :: r) hp) = (2 < 3 ∧ xNl [a0, a1, a2] 2 ∧ xV k_So_guess C 22 [a0, a1, .int x] r hp) := xVe _ _ _ _ _ _
theorem s_So_guess_22 (C : xCx) (r : List Value) (hp : xHp) (x : Nat) (a1 a2 : Value) : (xV k_So_guess C 22 [.ref x, a1, a2] r hp) = (True ∧ xV k_So_guess C 23 [.ref x, a1, a2] (.ref x :: r) hp) := xVe _ _ _ _ _ _
theorem s_So_guess_23 (a : Nat) (C : xCx) (L r : List Value) (hp : xHp) : (xV k_So_guess C 23 L (.ref a :: r) hp) = (xF hp a 0 1 (fun v => xV k_So_guess C 26 L (v :: r) hp)) := xVe _ _ _ _ _ _
theorem s_So_guess_26 (C : xCx) (r : List Value) (hp : xHp) (x : Int32) (a0 a2 : Value) : (xV k_So_guess C 26 [a0, .int x, a2] r hp) = (xV k_So_guess C 27 [a0, .int x, a2] (.int x :: r) hp) := xVe _ _ _ _ _ _
theorem s_So_guess_27 (x0 : Int32) (l : Launch) (d b lo gz n0 s0 : Nat) (Po : Option Value → xHp → Prop) (L r : List Value) (hp : xHp) : (xV k_So_guess (l, d + 1, b, lo, gz, n0, s0, m_So_guess, Po) 27 L (.int x0 :: r) hp) = (1 ≤ List.length (.int x0 :: r) ∧ xcs r 8 ∧ xMi l d b lo gz m_Integer_bitCount [.int x0] hp (fun x hp' => xV k_So_guess (l, d + 1, b, lo, gz, n0, s0, m_So_guess, Po) 30 L (.int x :: r) hp')) := xVe _ _ _ _ _ _
theorem s_So_guess_30 (x : Int32) (C : xCx) (L r : List Value) (hp : xHp) : (xV k_So_guess C 30 L (.int x :: r) hp) = (xV k_So_guess C 31 L (.long x.toInt64 :: r) hp) := xVe _ _ _ _ _ _
theorem s_So_guess_31 (C : xCx) (r : List Value) (hp : xHp) (x : Int32) (a0 a2 : Value) : (xV k_So_guess C 31 [a0, .int x, a2] r hp) = (xV k_So_guess C 32 [a0, .int x, a2] (.int x :: r) hp) := xVe _ _ _ _ _ _
theorem s_So_guess_32 (C : xCx) (r : List Value) (hp : xHp) (x : Int32) (a0 a1 : Value) : (xV k_So_guess C 32 [a0, a1, .int x] r hp) = (xV k_So_guess C 33 [a0, a1, .int x] (.int x :: r) hp) := xVe _ _ _ _ _ _
theorem s_So_guess_33 (x y : Int32) (C : xCx) (L r : List Value) (hp : xHp) : (xV k_So_guess C 33 L (.int y :: .int x :: r) hp) = (xV k_So_guess C 34 L (.int (x &&& y) :: r) hp) := xVe _ _ _ _ _ _
theorem s_So_guess_34 (x : Int32) (C : xCx) (L r : List Value) (hp : xHp) : (xV k_So_guess C 34 L (.int x :: r) hp) = (((x = 0 → xV k_So_guess C 41 L r hp) ∧ (¬ x = 0 → xV k_So_guess C 37 L r hp))) := xVe _ _ _ _ _ _
theorem s_So_guess_37  (C : xCx) (L r : List Value) (hp : xHp) : (xV k_So_guess C 37 L (r) hp) = (xV k_So_guess C 38 L (.long 1 :: r) hp) := xVe _ _ _ _ _ _
theorem s_So_guess_38 (C : xCx) (L r : List Value) (hp : xHp) : (xV k_So_guess C 38 L r hp) = (xV k_So_guess C 42 L r hp) := xVe _ _ _ _ _ _
theorem s_So_guess_41  (C : xCx) (L r : List Value) (hp : xHp) : (xV k_So_guess C 41 L (r) hp) = (xV k_So_guess C 42 L (.long 0 :: r) hp) := xVe _ _ _ _ _ _
theorem s_So_guess_42 (x0 : Int64) (x1 : Int64) (a : Nat) (l : Launch) (d b lo gz n0 s0 : Nat) (Po : Option Value → xHp → Prop) (L r : List Value) (hp : xHp) : (xV k_So_guess (l, d + 1, b, lo, gz, n0, s0, m_So_guess, Po) 42 L (.long x1 :: .long x0 :: .ref a :: r) hp) = (xO hp a 7 ∧ xcs r 8 ∧ xMv l d b lo gz m_Row_tell2 [.ref a, .long x0, .long x1] hp (fun hp' => xV k_So_guess (l, d + 1, b, lo, gz, n0, s0, m_So_guess, Po) 45 L r hp')) := xVe _ _ _ _ _ _
theorem s_So_guess_45 (C : xCx) (r : List Value) (hp : xHp) (x : Int32) (a0 a2 : Value) : (xV k_So_guess C 45 [a0, .int x, a2] r hp) = (xV k_So_guess C 46 [a0, .int x, a2] (.int x :: r) hp) := xVe _ _ _ _ _ _
theorem s_So_guess_46 (v : Int32) (l : Launch) (d b lo gz n0 s0 : Nat) (Po : Option Value → xHp → Prop) (L : List Value) (hp : xHp) : (xV k_So_guess (l, d, b, lo, gz, n0, s0, m_So_guess, Po) 46 L [.int v] hp) = (Po (some (.int v)) hp) := xVe _ _ _ _ _ _
theorem ml_So_361 : xLk "SunnyOnes" 361 m_Clues_first := Or.inl (wg4 187 (by decide +kernel) rfl)
theorem ml_So_364 : xLk "SunnyOnes" 364 m_Sun_hoursUnder := Or.inl (wg4 192 (by decide +kernel) rfl)
theorem ml_So_367 : xLk "SunnyOnes" 367 m_Clues_second := Or.inl (wg4 196 (by decide +kernel) rfl)
def k_So_likelySkies : List xEC := [
  (0, .iconst 0, 1, 0, 0, 0, m_x),
  (1, .istore_n 1, 2, 0, 0, 0, m_x),
  (2, .iconst 0, 3, 0, 0, 0, m_x),
  (3, .istore_n 2, 4, 0, 0, 0, m_x),
  (4, .iload_n 2, 5, 0, 0, 0, m_x),
  (5, .bipush 9, 7, 0, 0, 0, m_x),
  (7, .if_icmp .gt 89, 10, 0, 96, 0, m_x),
  (10, .iconst 1, 11, 0, 0, 0, m_x),
  (11, .istore_n 3, 12, 0, 0, 0, m_x),
  (12, .iconst 0, 13, 0, 0, 0, m_x),
  (13, .istore 4, 15, 0, 0, 0, m_x),
  (15, .iload 4, 17, 0, 0, 0, m_x),
  (17, .aload_n 0, 18, 0, 0, 0, m_x),
  (18, .getfield 76, 21, 0, 10, 0, m_x),
  (21, .invokevirtual 341, 24, 2, 0, 0, m_Clues_size),
  (24, .if_icmp .ge 52, 27, 0, 76, 0, m_x),
  (27, .iload_n 3, 28, 0, 0, 0, m_x),
  (28, .ifCond .eq 48, 31, 0, 76, 0, m_x),
  (31, .aload_n 0, 32, 0, 0, 0, m_x),
  (32, .getfield 47, 35, 0, 5, 0, m_x),
  (35, .aload_n 0, 36, 0, 0, 0, m_x),
  (36, .getfield 54, 39, 0, 6, 0, m_x),
  (39, .aload_n 0, 40, 0, 0, 0, m_x),
  (40, .getfield 76, 43, 0, 10, 0, m_x),
  (43, .iload 4, 45, 0, 0, 0, m_x),
  (45, .invokevirtual 361, 48, 2, 0, 0, m_Clues_first),
  (48, .iload_n 2, 49, 0, 0, 0, m_x),
  (49, .invokevirtual 364, 52, 9, 0, 0, m_Sun_hoursUnder),
  (52, .aload_n 0, 53, 0, 0, 0, m_x),
  (53, .getfield 76, 56, 0, 10, 0, m_x),
  (56, .iload 4, 58, 0, 0, 0, m_x),
  (58, .invokevirtual 367, 61, 2, 0, 0, m_Clues_second),
  (61, .if_icmp .ne 7, 64, 0, 68, 0, m_x),
  (64, .iconst 1, 65, 0, 0, 0, m_x),
  (65, .goto 4, 68, 0, 69, 0, m_x),
  (68, .iconst 0, 69, 0, 0, 0, m_x),
  (69, .istore_n 3, 70, 0, 0, 0, m_x),
  (70, .iinc 4 1, 73, 0, 0, 0, m_x),
  (73, .goto (-58), 76, 0, 15, 0, m_x),
  (76, .iload_n 1, 77, 0, 0, 0, m_x),
  (77, .iload_n 3, 78, 0, 0, 0, m_x),
  (78, .ifCond .eq 9, 81, 0, 87, 0, m_x),
  (81, .iconst 1, 82, 0, 0, 0, m_x),
  (82, .iload_n 2, 83, 0, 0, 0, m_x),
  (83, .ishl, 84, 0, 0, 0, m_x),
  (84, .goto 4, 87, 0, 88, 0, m_x),
  (87, .iconst 0, 88, 0, 0, 0, m_x),
  (88, .ior, 89, 0, 0, 0, m_x),
  (89, .istore_n 1, 90, 0, 0, 0, m_x),
  (90, .iinc 2 1, 93, 0, 0, 0, m_x),
  (93, .goto (-89), 96, 0, 4, 0, m_x),
  (96, .iload_n 1, 97, 0, 0, 0, m_x),
  (97, .ireturn, 98, 0, 0, 0, m_x)]
theorem dc_So_likelySkies : ∀ E ∈ k_So_likelySkies, xDc m_So_likelySkies E := by decide +kernel
set_option maxRecDepth 20000 in
theorem ok_So_likelySkies : ∀ E ∈ k_So_likelySkies, xOk m_So_likelySkies E := xok_of dc_So_likelySkies (xfc trivial (xfc trivial (xfc trivial (xfc trivial (xfc trivial (xfc trivial (xfc (show ((7 : Nat) : Int) + (89) = ((96 : Nat) : Int) from by decide) (xfc trivial (xfc trivial (xfc trivial (xfc trivial (xfc trivial (xfc trivial (xfc fl_So_76 (xfc ⟨ml_So_341, kd_Clues_size⟩ (xfc (show ((24 : Nat) : Int) + (52) = ((76 : Nat) : Int) from by decide) (xfc trivial (xfc (show ((28 : Nat) : Int) + (48) = ((76 : Nat) : Int) from by decide) (xfc trivial (xfc fl_So_47 (xfc trivial (xfc fl_So_54 (xfc trivial (xfc fl_So_76 (xfc trivial (xfc ⟨ml_So_361, kd_Clues_first⟩ (xfc trivial (xfc ⟨ml_So_364, kd_Sun_hoursUnder⟩ (xfc trivial (xfc fl_So_76 (xfc trivial (xfc ⟨ml_So_367, kd_Clues_second⟩ (xfc (show ((61 : Nat) : Int) + (7) = ((68 : Nat) : Int) from by decide) (xfc trivial (xfc (show ((65 : Nat) : Int) + (4) = ((69 : Nat) : Int) from by decide) (xfc trivial (xfc trivial (xfc trivial (xfc (show ((73 : Nat) : Int) + (-58) = ((15 : Nat) : Int) from by decide) (xfc trivial (xfc trivial (xfc (show ((78 : Nat) : Int) + (9) = ((87 : Nat) : Int) from by decide) (xfc trivial (xfc trivial (xfc trivial (xfc (show ((84 : Nat) : Int) + (4) = ((88 : Nat) : Int) from by decide) (xfc trivial (xfc trivial (xfc trivial (xfc trivial (xfc (show ((93 : Nat) : Int) + (-89) = ((4 : Nat) : Int) from by decide) (xfc trivial (xfc trivial (xfn))))))))))))))))))))))))))))))))))))))))))))))))))))))
theorem s_So_likelySkies_0  (C : xCx) (L r : List Value) (hp : xHp) : (xV k_So_likelySkies C 0 L (r) hp) = (xV k_So_likelySkies C 1 L (.int (0) :: r) hp) := xVe _ _ _ _ _ _
theorem s_So_likelySkies_1 (C : xCx) (r : List Value) (hp : xHp) (x : Int32) (a0 a1 a2 a3 a4 : Value) : (xV k_So_likelySkies C 1 [a0, a1, a2, a3, a4] (.int x :: r) hp) = (1 < 5 ∧ xNl [a0, a1, a2, a3, a4] 1 ∧ xV k_So_likelySkies C 2 [a0, .int x, a2, a3, a4] r hp) := xVe _ _ _ _ _ _
theorem s_So_likelySkies_2  (C : xCx) (L r : List Value) (hp : xHp) : (xV k_So_likelySkies C 2 L (r) hp) = (xV k_So_likelySkies C 3 L (.int (0) :: r) hp) := xVe _ _ _ _ _ _
theorem s_So_likelySkies_3 (C : xCx) (r : List Value) (hp : xHp) (x : Int32) (a0 a1 a2 a3 a4 : Value) : (xV k_So_likelySkies C 3 [a0, a1, a2, a3, a4] (.int x :: r) hp) = (2 < 5 ∧ xNl [a0, a1, a2, a3, a4] 2 ∧ xV k_So_likelySkies C 4 [a0, a1, .int x, a3, a4] r hp) := xVe _ _ _ _ _ _
theorem s_So_likelySkies_4 (C : xCx) (r : List Value) (hp : xHp) (x : Int32) (a0 a1 a3 a4 : Value) : (xV k_So_likelySkies C 4 [a0, a1, .int x, a3, a4] r hp) = (xV k_So_likelySkies C 5 [a0, a1, .int x, a3, a4] (.int x :: r) hp) := xVe _ _ _ _ _ _
theorem s_So_likelySkies_5  (C : xCx) (L r : List Value) (hp : xHp) : (xV k_So_likelySkies C 5 L (r) hp) = (xV k_So_likelySkies C 7 L (.int (9) :: r) hp) := xVe _ _ _ _ _ _
theorem s_So_likelySkies_7 (x y : Int32) (C : xCx) (L r : List Value) (hp : xHp) : (xV k_So_likelySkies C 7 L (.int y :: .int x :: r) hp) = (((y < x → xV k_So_likelySkies C 96 L r hp) ∧ (¬ y < x → xV k_So_likelySkies C 10 L r hp))) := xVe _ _ _ _ _ _
theorem s_So_likelySkies_10  (C : xCx) (L r : List Value) (hp : xHp) : (xV k_So_likelySkies C 10 L (r) hp) = (xV k_So_likelySkies C 11 L (.int (1) :: r) hp) := xVe _ _ _ _ _ _
theorem s_So_likelySkies_11 (C : xCx) (r : List Value) (hp : xHp) (x : Int32) (a0 a1 a2 a3 a4 : Value) : (xV k_So_likelySkies C 11 [a0, a1, a2, a3, a4] (.int x :: r) hp) = (3 < 5 ∧ xNl [a0, a1, a2, a3, a4] 3 ∧ xV k_So_likelySkies C 12 [a0, a1, a2, .int x, a4] r hp) := xVe _ _ _ _ _ _
theorem s_So_likelySkies_12  (C : xCx) (L r : List Value) (hp : xHp) : (xV k_So_likelySkies C 12 L (r) hp) = (xV k_So_likelySkies C 13 L (.int (0) :: r) hp) := xVe _ _ _ _ _ _
theorem s_So_likelySkies_13 (C : xCx) (r : List Value) (hp : xHp) (x : Int32) (a0 a1 a2 a3 a4 : Value) : (xV k_So_likelySkies C 13 [a0, a1, a2, a3, a4] (.int x :: r) hp) = (4 < 5 ∧ xNl [a0, a1, a2, a3, a4] 4 ∧ xV k_So_likelySkies C 15 [a0, a1, a2, a3, .int x] r hp) := xVe _ _ _ _ _ _
theorem s_So_likelySkies_15 (C : xCx) (r : List Value) (hp : xHp) (x : Int32) (a0 a1 a2 a3 : Value) : (xV k_So_likelySkies C 15 [a0, a1, a2, a3, .int x] r hp) = (xV k_So_likelySkies C 17 [a0, a1, a2, a3, .int x] (.int x :: r) hp) := xVe _ _ _ _ _ _
theorem s_So_likelySkies_17 (C : xCx) (r : List Value) (hp : xHp) (x : Nat) (a1 a2 a3 a4 : Value) : (xV k_So_likelySkies C 17 [.ref x, a1, a2, a3, a4] r hp) = (True ∧ xV k_So_likelySkies C 18 [.ref x, a1, a2, a3, a4] (.ref x :: r) hp) := xVe _ _ _ _ _ _
theorem s_So_likelySkies_18 (a : Nat) (C : xCx) (L r : List Value) (hp : xHp) : (xV k_So_likelySkies C 18 L (.ref a :: r) hp) = (xF hp a 0 10 (fun v => xV k_So_likelySkies C 21 L (v :: r) hp)) := xVe _ _ _ _ _ _
theorem s_So_likelySkies_21 (a : Nat) (l : Launch) (d b lo gz n0 s0 : Nat) (Po : Option Value → xHp → Prop) (L r : List Value) (hp : xHp) : (xV k_So_likelySkies (l, d + 1, b, lo, gz, n0, s0, m_So_likelySkies, Po) 21 L (.ref a :: r) hp) = (xO hp a 2 ∧ xcs r 8 ∧ xMi l d b lo gz m_Clues_size [.ref a] hp (fun x hp' => xV k_So_likelySkies (l, d + 1, b, lo, gz, n0, s0, m_So_likelySkies, Po) 24 L (.int x :: r) hp')) := xVe _ _ _ _ _ _
theorem s_So_likelySkies_24 (x y : Int32) (C : xCx) (L r : List Value) (hp : xHp) : (xV k_So_likelySkies C 24 L (.int y :: .int x :: r) hp) = (((y ≤ x → xV k_So_likelySkies C 76 L r hp) ∧ (¬ y ≤ x → xV k_So_likelySkies C 27 L r hp))) := xVe _ _ _ _ _ _
theorem s_So_likelySkies_27 (C : xCx) (r : List Value) (hp : xHp) (x : Int32) (a0 a1 a2 a4 : Value) : (xV k_So_likelySkies C 27 [a0, a1, a2, .int x, a4] r hp) = (xV k_So_likelySkies C 28 [a0, a1, a2, .int x, a4] (.int x :: r) hp) := xVe _ _ _ _ _ _
theorem s_So_likelySkies_28 (x : Int32) (C : xCx) (L r : List Value) (hp : xHp) : (xV k_So_likelySkies C 28 L (.int x :: r) hp) = (((x = 0 → xV k_So_likelySkies C 76 L r hp) ∧ (¬ x = 0 → xV k_So_likelySkies C 31 L r hp))) := xVe _ _ _ _ _ _
theorem s_So_likelySkies_31 (C : xCx) (r : List Value) (hp : xHp) (x : Nat) (a1 a2 a3 a4 : Value) : (xV k_So_likelySkies C 31 [.ref x, a1, a2, a3, a4] r hp) = (True ∧ xV k_So_likelySkies C 32 [.ref x, a1, a2, a3, a4] (.ref x :: r) hp) := xVe _ _ _ _ _ _
theorem s_So_likelySkies_32 (a : Nat) (C : xCx) (L r : List Value) (hp : xHp) : (xV k_So_likelySkies C 32 L (.ref a :: r) hp) = (xF hp a 0 5 (fun v => xV k_So_likelySkies C 35 L (v :: r) hp)) := xVe _ _ _ _ _ _
theorem s_So_likelySkies_35 (C : xCx) (r : List Value) (hp : xHp) (x : Nat) (a1 a2 a3 a4 : Value) : (xV k_So_likelySkies C 35 [.ref x, a1, a2, a3, a4] r hp) = (True ∧ xV k_So_likelySkies C 36 [.ref x, a1, a2, a3, a4] (.ref x :: r) hp) := xVe _ _ _ _ _ _
theorem s_So_likelySkies_36 (a : Nat) (C : xCx) (L r : List Value) (hp : xHp) : (xV k_So_likelySkies C 36 L (.ref a :: r) hp) = (xF hp a 0 6 (fun v => xV k_So_likelySkies C 39 L (v :: r) hp)) := xVe _ _ _ _ _ _
theorem s_So_likelySkies_39 (C : xCx) (r : List Value) (hp : xHp) (x : Nat) (a1 a2 a3 a4 : Value) : (xV k_So_likelySkies C 39 [.ref x, a1, a2, a3, a4] r hp) = (True ∧ xV k_So_likelySkies C 40 [.ref x, a1, a2, a3, a4] (.ref x :: r) hp) := xVe _ _ _ _ _ _
theorem s_So_likelySkies_40 (a : Nat) (C : xCx) (L r : List Value) (hp : xHp) : (xV k_So_likelySkies C 40 L (.ref a :: r) hp) = (xF hp a 0 10 (fun v => xV k_So_likelySkies C 43 L (v :: r) hp)) := xVe _ _ _ _ _ _
theorem s_So_likelySkies_43 (C : xCx) (r : List Value) (hp : xHp) (x : Int32) (a0 a1 a2 a3 : Value) : (xV k_So_likelySkies C 43 [a0, a1, a2, a3, .int x] r hp) = (xV k_So_likelySkies C 45 [a0, a1, a2, a3, .int x] (.int x :: r) hp) := xVe _ _ _ _ _ _
theorem s_So_likelySkies_45 (x0 : Int32) (a : Nat) (l : Launch) (d b lo gz n0 s0 : Nat) (Po : Option Value → xHp → Prop) (L r : List Value) (hp : xHp) : (xV k_So_likelySkies (l, d + 1, b, lo, gz, n0, s0, m_So_likelySkies, Po) 45 L (.int x0 :: .ref a :: r) hp) = (xO hp a 2 ∧ xcs r 8 ∧ xMi l d b lo gz m_Clues_first [.ref a, .int x0] hp (fun x hp' => xV k_So_likelySkies (l, d + 1, b, lo, gz, n0, s0, m_So_likelySkies, Po) 48 L (.int x :: r) hp')) := xVe _ _ _ _ _ _
theorem s_So_likelySkies_48 (C : xCx) (r : List Value) (hp : xHp) (x : Int32) (a0 a1 a3 a4 : Value) : (xV k_So_likelySkies C 48 [a0, a1, .int x, a3, a4] r hp) = (xV k_So_likelySkies C 49 [a0, a1, .int x, a3, a4] (.int x :: r) hp) := xVe _ _ _ _ _ _
theorem s_So_likelySkies_49 (x0 : Nat) (x1 : Int32) (x2 : Int32) (a : Nat) (l : Launch) (d b lo gz n0 s0 : Nat) (Po : Option Value → xHp → Prop) (L r : List Value) (hp : xHp) : (xV k_So_likelySkies (l, d + 1, b, lo, gz, n0, s0, m_So_likelySkies, Po) 49 L (.int x2 :: .int x1 :: .ref x0 :: .ref a :: r) hp) = (xO hp a 9 ∧ xcs r 8 ∧ xMi l d b lo gz m_Sun_hoursUnder [.ref a, .ref x0, .int x1, .int x2] hp (fun x hp' => xV k_So_likelySkies (l, d + 1, b, lo, gz, n0, s0, m_So_likelySkies, Po) 52 L (.int x :: r) hp')) := xVe _ _ _ _ _ _
theorem s_So_likelySkies_52 (C : xCx) (r : List Value) (hp : xHp) (x : Nat) (a1 a2 a3 a4 : Value) : (xV k_So_likelySkies C 52 [.ref x, a1, a2, a3, a4] r hp) = (True ∧ xV k_So_likelySkies C 53 [.ref x, a1, a2, a3, a4] (.ref x :: r) hp) := xVe _ _ _ _ _ _
theorem s_So_likelySkies_53 (a : Nat) (C : xCx) (L r : List Value) (hp : xHp) : (xV k_So_likelySkies C 53 L (.ref a :: r) hp) = (xF hp a 0 10 (fun v => xV k_So_likelySkies C 56 L (v :: r) hp)) := xVe _ _ _ _ _ _
theorem s_So_likelySkies_56 (C : xCx) (r : List Value) (hp : xHp) (x : Int32) (a0 a1 a2 a3 : Value) : (xV k_So_likelySkies C 56 [a0, a1, a2, a3, .int x] r hp) = (xV k_So_likelySkies C 58 [a0, a1, a2, a3, .int x] (.int x :: r) hp) := xVe _ _ _ _ _ _
theorem s_So_likelySkies_58 (x0 : Int32) (a : Nat) (l : Launch) (d b lo gz n0 s0 : Nat) (Po : Option Value → xHp → Prop) (L r : List Value) (hp : xHp) : (xV k_So_likelySkies (l, d + 1, b, lo, gz, n0, s0, m_So_likelySkies, Po) 58 L (.int x0 :: .ref a :: r) hp) = (xO hp a 2 ∧ xcs r 8 ∧ xMi l d b lo gz m_Clues_second [.ref a, .int x0] hp (fun x hp' => xV k_So_likelySkies (l, d + 1, b, lo, gz, n0, s0, m_So_likelySkies, Po) 61 L (.int x :: r) hp')) := xVe _ _ _ _ _ _
theorem s_So_likelySkies_61 (x y : Int32) (C : xCx) (L r : List Value) (hp : xHp) : (xV k_So_likelySkies C 61 L (.int y :: .int x :: r) hp) = (((¬ x = y → xV k_So_likelySkies C 68 L r hp) ∧ (x = y → xV k_So_likelySkies C 64 L r hp))) := xVe _ _ _ _ _ _
theorem s_So_likelySkies_64  (C : xCx) (L r : List Value) (hp : xHp) : (xV k_So_likelySkies C 64 L (r) hp) = (xV k_So_likelySkies C 65 L (.int (1) :: r) hp) := xVe _ _ _ _ _ _
theorem s_So_likelySkies_65 (C : xCx) (L r : List Value) (hp : xHp) : (xV k_So_likelySkies C 65 L r hp) = (xV k_So_likelySkies C 69 L r hp) := xVe _ _ _ _ _ _
theorem s_So_likelySkies_68  (C : xCx) (L r : List Value) (hp : xHp) : (xV k_So_likelySkies C 68 L (r) hp) = (xV k_So_likelySkies C 69 L (.int (0) :: r) hp) := xVe _ _ _ _ _ _
theorem s_So_likelySkies_69 (C : xCx) (r : List Value) (hp : xHp) (x : Int32) (a0 a1 a2 a3 a4 : Value) : (xV k_So_likelySkies C 69 [a0, a1, a2, a3, a4] (.int x :: r) hp) = (3 < 5 ∧ xNl [a0, a1, a2, a3, a4] 3 ∧ xV k_So_likelySkies C 70 [a0, a1, a2, .int x, a4] r hp) := xVe _ _ _ _ _ _
theorem s_So_likelySkies_70 (C : xCx) (r : List Value) (hp : xHp) (x : Int32) (a0 a1 a2 a3 : Value) : (xV k_So_likelySkies C 70 [a0, a1, a2, a3, .int x] r hp) = (xNl [a0, a1, a2, a3, .int x] 4 ∧ xV k_So_likelySkies C 73 [a0, a1, a2, a3, .int (x + (1))] r hp) := xVe _ _ _ _ _ _
theorem s_So_likelySkies_73 (C : xCx) (L r : List Value) (hp : xHp) : (xV k_So_likelySkies C 73 L r hp) = (xV k_So_likelySkies C 15 L r hp) := xVe _ _ _ _ _ _
theorem s_So_likelySkies_76 (C : xCx) (r : List Value) (hp : xHp) (x : Int32) (a0 a2 a3 a4 : Value) : (xV k_So_likelySkies C 76 [a0, .int x, a2, a3, a4] r hp) = (xV k_So_likelySkies C 77 [a0, .int x, a2, a3, a4] (.int x :: r) hp) := xVe _ _ _ _ _ _
theorem s_So_likelySkies_77 (C : xCx) (r : List Value) (hp : xHp) (x : Int32) (a0 a1 a2 a4 : Value) : (xV k_So_likelySkies C 77 [a0, a1, a2, .int x, a4] r hp) = (xV k_So_likelySkies C 78 [a0, a1, a2, .int x, a4] (.int x :: r) hp) := xVe _ _ _ _ _ _
theorem s_So_likelySkies_78 (x : Int32) (C : xCx) (L r : List Value) (hp : xHp) : (xV k_So_likelySkies C 78 L (.int x :: r) hp) = (((x = 0 → xV k_So_likelySkies C 87 L r hp) ∧ (¬ x = 0 → xV k_So_likelySkies C 81 L r hp))) := xVe _ _ _ _ _ _
theorem s_So_likelySkies_81  (C : xCx) (L r : List Value) (hp : xHp) : (xV k_So_likelySkies C 81 L (r) hp) = (xV k_So_likelySkies C 82 L (.int (1) :: r) hp) := xVe _ _ _ _ _ _
theorem s_So_likelySkies_82 (C : xCx) (r : List Value) (hp : xHp) (x : Int32) (a0 a1 a3 a4 : Value) : (xV k_So_likelySkies C 82 [a0, a1, .int x, a3, a4] r hp) = (xV k_So_likelySkies C 83 [a0, a1, .int x, a3, a4] (.int x :: r) hp) := xVe _ _ _ _ _ _
theorem s_So_likelySkies_83 (x y : Int32) (C : xCx) (L r : List Value) (hp : xHp) : (xV k_So_likelySkies C 83 L (.int y :: .int x :: r) hp) = (xV k_So_likelySkies C 84 L (.int (x <<< (y &&& 31)) :: r) hp) := xVe _ _ _ _ _ _
theorem s_So_likelySkies_84 (C : xCx) (L r : List Value) (hp : xHp) : (xV k_So_likelySkies C 84 L r hp) = (xV k_So_likelySkies C 88 L r hp) := xVe _ _ _ _ _ _
theorem s_So_likelySkies_87  (C : xCx) (L r : List Value) (hp : xHp) : (xV k_So_likelySkies C 87 L (r) hp) = (xV k_So_likelySkies C 88 L (.int (0) :: r) hp) := xVe _ _ _ _ _ _
theorem s_So_likelySkies_88 (x y : Int32) (C : xCx) (L r : List Value) (hp : xHp) : (xV k_So_likelySkies C 88 L (.int y :: .int x :: r) hp) = (xV k_So_likelySkies C 89 L (.int (x ||| y) :: r) hp) := xVe _ _ _ _ _ _
theorem s_So_likelySkies_89 (C : xCx) (r : List Value) (hp : xHp) (x : Int32) (a0 a1 a2 a3 a4 : Value) : (xV k_So_likelySkies C 89 [a0, a1, a2, a3, a4] (.int x :: r) hp) = (1 < 5 ∧ xNl [a0, a1, a2, a3, a4] 1 ∧ xV k_So_likelySkies C 90 [a0, .int x, a2, a3, a4] r hp) := xVe _ _ _ _ _ _
theorem s_So_likelySkies_90 (C : xCx) (r : List Value) (hp : xHp) (x : Int32) (a0 a1 a3 a4 : Value) : (xV k_So_likelySkies C 90 [a0, a1, .int x, a3, a4] r hp) = (xNl [a0, a1, .int x, a3, a4] 2 ∧ xV k_So_likelySkies C 93 [a0, a1, .int (x + (1)), a3, a4] r hp) := xVe _ _ _ _ _ _
theorem s_So_likelySkies_93 (C : xCx) (L r : List Value) (hp : xHp) : (xV k_So_likelySkies C 93 L r hp) = (xV k_So_likelySkies C 4 L r hp) := xVe _ _ _ _ _ _
theorem s_So_likelySkies_96 (C : xCx) (r : List Value) (hp : xHp) (x : Int32) (a0 a2 a3 a4 : Value) : (xV k_So_likelySkies C 96 [a0, .int x, a2, a3, a4] r hp) = (xV k_So_likelySkies C 97 [a0, .int x, a2, a3, a4] (.int x :: r) hp) := xVe _ _ _ _ _ _
theorem s_So_likelySkies_97 (v : Int32) (l : Launch) (d b lo gz n0 s0 : Nat) (Po : Option Value → xHp → Prop) (L : List Value) (hp : xHp) : (xV k_So_likelySkies (l, d, b, lo, gz, n0, s0, m_So_likelySkies, Po) 97 L [.int v] hp) = (Po (some (.int v)) hp) := xVe _ _ _ _ _ _
theorem ml_So_358 : xLk "SunnyOnes" 358 m_So_mostLeft := Or.inl (wg4 212 (by decide +kernel) rfl)
def k_So_looks : List xEC := [
  (0, .aload_n 0, 1, 0, 0, 0, m_x),
  (1, .invokevirtual 344, 4, 0, 0, 0, m_So_likelySkies),
  (4, .istore_n 1, 5, 0, 0, 0, m_x),
  (5, .iload_n 1, 6, 0, 0, 0, m_x),
  (6, .ifCond .eq 13, 9, 0, 19, 0, m_x),
  (9, .aload_n 0, 10, 0, 0, 0, m_x),
  (10, .getfield 54, 13, 0, 6, 0, m_x),
  (13, .invokevirtual 150, 16, 3, 0, 0, m_Folk_size),
  (16, .ifCond .ne 6, 19, 0, 22, 0, m_x),
  (19, .bipush (-2), 21, 0, 0, 0, m_x),
  (21, .ireturn, 22, 0, 0, 0, m_x),
  (22, .iconst 0, 23, 0, 0, 0, m_x),
  (23, .istore_n 2, 24, 0, 0, 0, m_x),
  (24, .bipush 11, 26, 0, 0, 0, m_x),
  (26, .istore_n 3, 27, 0, 0, 0, m_x),
  (27, .iconst 0, 28, 0, 0, 0, m_x),
  (28, .istore 4, 30, 0, 0, 0, m_x),
  (30, .iload 4, 32, 0, 0, 0, m_x),
  (32, .aload_n 0, 33, 0, 0, 0, m_x),
  (33, .getfield 54, 36, 0, 6, 0, m_x),
  (36, .invokevirtual 150, 39, 3, 0, 0, m_Folk_size),
  (39, .if_icmp .ge 30, 42, 0, 69, 0, m_x),
  (42, .aload_n 0, 43, 0, 0, 0, m_x),
  (43, .iload 4, 45, 0, 0, 0, m_x),
  (45, .iload_n 1, 46, 0, 0, 0, m_x),
  (46, .invokevirtual 358, 49, 0, 0, 0, m_So_mostLeft),
  (49, .istore 5, 51, 0, 0, 0, m_x),
  (51, .iload 5, 53, 0, 0, 0, m_x),
  (53, .iload_n 3, 54, 0, 0, 0, m_x),
  (54, .if_icmp .ge 9, 57, 0, 63, 0, m_x),
  (57, .iload 5, 59, 0, 0, 0, m_x),
  (59, .istore_n 3, 60, 0, 0, 0, m_x),
  (60, .iload 4, 62, 0, 0, 0, m_x),
  (62, .istore_n 2, 63, 0, 0, 0, m_x),
  (63, .iinc 4 1, 66, 0, 0, 0, m_x),
  (66, .goto (-36), 69, 0, 30, 0, m_x),
  (69, .aload_n 0, 70, 0, 0, 0, m_x),
  (70, .getfield 19, 73, 0, 1, 0, m_x),
  (73, .iload_n 3, 74, 0, 0, 0, m_x),
  (74, .i2l, 75, 0, 0, 0, m_x),
  (75, .invokevirtual 287, 78, 7, 0, 0, m_Row_tell1),
  (78, .iload_n 2, 79, 0, 0, 0, m_x),
  (79, .ireturn, 80, 0, 0, 0, m_x)]
theorem dc_So_looks : ∀ E ∈ k_So_looks, xDc m_So_looks E := by decide +kernel
set_option maxRecDepth 20000 in
theorem ok_So_looks : ∀ E ∈ k_So_looks, xOk m_So_looks E := xok_of dc_So_looks (xfc trivial (xfc ⟨ml_So_344, kd_So_likelySkies⟩ (xfc trivial (xfc trivial (xfc (show ((6 : Nat) : Int) + (13) = ((19 : Nat) : Int) from by decide) (xfc trivial (xfc fl_So_54 (xfc ⟨ml_So_150, kd_Folk_size⟩ (xfc (show ((16 : Nat) : Int) + (6) = ((22 : Nat) : Int) from by decide) (xfc trivial (xfc trivial (xfc trivial (xfc trivial (xfc trivial (xfc trivial (xfc trivial (xfc trivial (xfc trivial (xfc trivial (xfc fl_So_54 (xfc ⟨ml_So_150, kd_Folk_size⟩ (xfc (show ((39 : Nat) : Int) + (30) = ((69 : Nat) : Int) from by decide) (xfc trivial (xfc trivial (xfc trivial (xfc ⟨ml_So_358, kd_So_mostLeft⟩ (xfc trivial (xfc trivial (xfc trivial (xfc (show ((54 : Nat) : Int) + (9) = ((63 : Nat) : Int) from by decide) (xfc trivial (xfc trivial (xfc trivial (xfc trivial (xfc trivial (xfc (show ((66 : Nat) : Int) + (-36) = ((30 : Nat) : Int) from by decide) (xfc trivial (xfc fl_So_19 (xfc trivial (xfc trivial (xfc ⟨ml_So_287, kd_Row_tell1⟩ (xfc trivial (xfc trivial (xfn))))))))))))))))))))))))))))))))))))))))))))
theorem s_So_looks_0 (C : xCx) (r : List Value) (hp : xHp) (x : Nat) (a1 a2 a3 a4 a5 : Value) : (xV k_So_looks C 0 [.ref x, a1, a2, a3, a4, a5] r hp) = (True ∧ xV k_So_looks C 1 [.ref x, a1, a2, a3, a4, a5] (.ref x :: r) hp) := xVe _ _ _ _ _ _
theorem s_So_looks_1 (a : Nat) (l : Launch) (d b lo gz n0 s0 : Nat) (Po : Option Value → xHp → Prop) (L r : List Value) (hp : xHp) : (xV k_So_looks (l, d + 1, b, lo, gz, n0, s0, m_So_looks, Po) 1 L (.ref a :: r) hp) = (xO hp a 0 ∧ xcs r 8 ∧ xMi l d b lo gz m_So_likelySkies [.ref a] hp (fun x hp' => xV k_So_looks (l, d + 1, b, lo, gz, n0, s0, m_So_looks, Po) 4 L (.int x :: r) hp')) := xVe _ _ _ _ _ _
theorem s_So_looks_4 (C : xCx) (r : List Value) (hp : xHp) (x : Int32) (a0 a1 a2 a3 a4 a5 : Value) : (xV k_So_looks C 4 [a0, a1, a2, a3, a4, a5] (.int x :: r) hp) = (1 < 6 ∧ xNl [a0, a1, a2, a3, a4, a5] 1 ∧ xV k_So_looks C 5 [a0, .int x, a2, a3, a4, a5] r hp) := xVe _ _ _ _ _ _
theorem s_So_looks_5 (C : xCx) (r : List Value) (hp : xHp) (x : Int32) (a0 a2 a3 a4 a5 : Value) : (xV k_So_looks C 5 [a0, .int x, a2, a3, a4, a5] r hp) = (xV k_So_looks C 6 [a0, .int x, a2, a3, a4, a5] (.int x :: r) hp) := xVe _ _ _ _ _ _
theorem s_So_looks_6 (x : Int32) (C : xCx) (L r : List Value) (hp : xHp) : (xV k_So_looks C 6 L (.int x :: r) hp) = (((x = 0 → xV k_So_looks C 19 L r hp) ∧ (¬ x = 0 → xV k_So_looks C 9 L r hp))) := xVe _ _ _ _ _ _
theorem s_So_looks_9 (C : xCx) (r : List Value) (hp : xHp) (x : Nat) (a1 a2 a3 a4 a5 : Value) : (xV k_So_looks C 9 [.ref x, a1, a2, a3, a4, a5] r hp) = (True ∧ xV k_So_looks C 10 [.ref x, a1, a2, a3, a4, a5] (.ref x :: r) hp) := xVe _ _ _ _ _ _
theorem s_So_looks_10 (a : Nat) (C : xCx) (L r : List Value) (hp : xHp) : (xV k_So_looks C 10 L (.ref a :: r) hp) = (xF hp a 0 6 (fun v => xV k_So_looks C 13 L (v :: r) hp)) := xVe _ _ _ _ _ _
theorem s_So_looks_13 (a : Nat) (l : Launch) (d b lo gz n0 s0 : Nat) (Po : Option Value → xHp → Prop) (L r : List Value) (hp : xHp) : (xV k_So_looks (l, d + 1, b, lo, gz, n0, s0, m_So_looks, Po) 13 L (.ref a :: r) hp) = (xO hp a 3 ∧ xcs r 8 ∧ xMi l d b lo gz m_Folk_size [.ref a] hp (fun x hp' => xV k_So_looks (l, d + 1, b, lo, gz, n0, s0, m_So_looks, Po) 16 L (.int x :: r) hp')) := xVe _ _ _ _ _ _
theorem s_So_looks_16 (x : Int32) (C : xCx) (L r : List Value) (hp : xHp) : (xV k_So_looks C 16 L (.int x :: r) hp) = (((¬ x = 0 → xV k_So_looks C 22 L r hp) ∧ (x = 0 → xV k_So_looks C 19 L r hp))) := xVe _ _ _ _ _ _
theorem s_So_looks_19  (C : xCx) (L r : List Value) (hp : xHp) : (xV k_So_looks C 19 L (r) hp) = (xV k_So_looks C 21 L (.int (-2) :: r) hp) := xVe _ _ _ _ _ _
theorem s_So_looks_21 (v : Int32) (l : Launch) (d b lo gz n0 s0 : Nat) (Po : Option Value → xHp → Prop) (L : List Value) (hp : xHp) : (xV k_So_looks (l, d, b, lo, gz, n0, s0, m_So_looks, Po) 21 L [.int v] hp) = (Po (some (.int v)) hp) := xVe _ _ _ _ _ _
theorem s_So_looks_22  (C : xCx) (L r : List Value) (hp : xHp) : (xV k_So_looks C 22 L (r) hp) = (xV k_So_looks C 23 L (.int (0) :: r) hp) := xVe _ _ _ _ _ _
theorem s_So_looks_23 (C : xCx) (r : List Value) (hp : xHp) (x : Int32) (a0 a1 a2 a3 a4 a5 : Value) : (xV k_So_looks C 23 [a0, a1, a2, a3, a4, a5] (.int x :: r) hp) = (2 < 6 ∧ xNl [a0, a1, a2, a3, a4, a5] 2 ∧ xV k_So_looks C 24 [a0, a1, .int x, a3, a4, a5] r hp) := xVe _ _ _ _ _ _
theorem s_So_looks_24  (C : xCx) (L r : List Value) (hp : xHp) : (xV k_So_looks C 24 L (r) hp) = (xV k_So_looks C 26 L (.int (11) :: r) hp) := xVe _ _ _ _ _ _
theorem s_So_looks_26 (C : xCx) (r : List Value) (hp : xHp) (x : Int32) (a0 a1 a2 a3 a4 a5 : Value) : (xV k_So_looks C 26 [a0, a1, a2, a3, a4, a5] (.int x :: r) hp) = (3 < 6 ∧ xNl [a0, a1, a2, a3, a4, a5] 3 ∧ xV k_So_looks C 27 [a0, a1, a2, .int x, a4, a5] r hp) := xVe _ _ _ _ _ _
theorem s_So_looks_27  (C : xCx) (L r : List Value) (hp : xHp) : (xV k_So_looks C 27 L (r) hp) = (xV k_So_looks C 28 L (.int (0) :: r) hp) := xVe _ _ _ _ _ _
theorem s_So_looks_28 (C : xCx) (r : List Value) (hp : xHp) (x : Int32) (a0 a1 a2 a3 a4 a5 : Value) : (xV k_So_looks C 28 [a0, a1, a2, a3, a4, a5] (.int x :: r) hp) = (4 < 6 ∧ xNl [a0, a1, a2, a3, a4, a5] 4 ∧ xV k_So_looks C 30 [a0, a1, a2, a3, .int x, a5] r hp) := xVe _ _ _ _ _ _
theorem s_So_looks_30 (C : xCx) (r : List Value) (hp : xHp) (x : Int32) (a0 a1 a2 a3 a5 : Value) : (xV k_So_looks C 30 [a0, a1, a2, a3, .int x, a5] r hp) = (xV k_So_looks C 32 [a0, a1, a2, a3, .int x, a5] (.int x :: r) hp) := xVe _ _ _ _ _ _
theorem s_So_looks_32 (C : xCx) (r : List Value) (hp : xHp) (x : Nat) (a1 a2 a3 a4 a5 : Value) : (xV k_So_looks C 32 [.ref x, a1, a2, a3, a4, a5] r hp) = (True ∧ xV k_So_looks C 33 [.ref x, a1, a2, a3, a4, a5] (.ref x :: r) hp) := xVe _ _ _ _ _ _
theorem s_So_looks_33 (a : Nat) (C : xCx) (L r : List Value) (hp : xHp) : (xV k_So_looks C 33 L (.ref a :: r) hp) = (xF hp a 0 6 (fun v => xV k_So_looks C 36 L (v :: r) hp)) := xVe _ _ _ _ _ _
theorem s_So_looks_36 (a : Nat) (l : Launch) (d b lo gz n0 s0 : Nat) (Po : Option Value → xHp → Prop) (L r : List Value) (hp : xHp) : (xV k_So_looks (l, d + 1, b, lo, gz, n0, s0, m_So_looks, Po) 36 L (.ref a :: r) hp) = (xO hp a 3 ∧ xcs r 8 ∧ xMi l d b lo gz m_Folk_size [.ref a] hp (fun x hp' => xV k_So_looks (l, d + 1, b, lo, gz, n0, s0, m_So_looks, Po) 39 L (.int x :: r) hp')) := xVe _ _ _ _ _ _
theorem s_So_looks_39 (x y : Int32) (C : xCx) (L r : List Value) (hp : xHp) : (xV k_So_looks C 39 L (.int y :: .int x :: r) hp) = (((y ≤ x → xV k_So_looks C 69 L r hp) ∧ (¬ y ≤ x → xV k_So_looks C 42 L r hp))) := xVe _ _ _ _ _ _
theorem s_So_looks_42 (C : xCx) (r : List Value) (hp : xHp) (x : Nat) (a1 a2 a3 a4 a5 : Value) : (xV k_So_looks C 42 [.ref x, a1, a2, a3, a4, a5] r hp) = (True ∧ xV k_So_looks C 43 [.ref x, a1, a2, a3, a4, a5] (.ref x :: r) hp) := xVe _ _ _ _ _ _
theorem s_So_looks_43 (C : xCx) (r : List Value) (hp : xHp) (x : Int32) (a0 a1 a2 a3 a5 : Value) : (xV k_So_looks C 43 [a0, a1, a2, a3, .int x, a5] r hp) = (xV k_So_looks C 45 [a0, a1, a2, a3, .int x, a5] (.int x :: r) hp) := xVe _ _ _ _ _ _
theorem s_So_looks_45 (C : xCx) (r : List Value) (hp : xHp) (x : Int32) (a0 a2 a3 a4 a5 : Value) : (xV k_So_looks C 45 [a0, .int x, a2, a3, a4, a5] r hp) = (xV k_So_looks C 46 [a0, .int x, a2, a3, a4, a5] (.int x :: r) hp) := xVe _ _ _ _ _ _
theorem s_So_looks_46 (x0 : Int32) (x1 : Int32) (a : Nat) (l : Launch) (d b lo gz n0 s0 : Nat) (Po : Option Value → xHp → Prop) (L r : List Value) (hp : xHp) : (xV k_So_looks (l, d + 1, b, lo, gz, n0, s0, m_So_looks, Po) 46 L (.int x1 :: .int x0 :: .ref a :: r) hp) = (xO hp a 0 ∧ xcs r 8 ∧ xMi l d b lo gz m_So_mostLeft [.ref a, .int x0, .int x1] hp (fun x hp' => xV k_So_looks (l, d + 1, b, lo, gz, n0, s0, m_So_looks, Po) 49 L (.int x :: r) hp')) := xVe _ _ _ _ _ _
theorem s_So_looks_49 (C : xCx) (r : List Value) (hp : xHp) (x : Int32) (a0 a1 a2 a3 a4 a5 : Value) : (xV k_So_looks C 49 [a0, a1, a2, a3, a4, a5] (.int x :: r) hp) = (5 < 6 ∧ xNl [a0, a1, a2, a3, a4, a5] 5 ∧ xV k_So_looks C 51 [a0, a1, a2, a3, a4, .int x] r hp) := xVe _ _ _ _ _ _
theorem s_So_looks_51 (C : xCx) (r : List Value) (hp : xHp) (x : Int32) (a0 a1 a2 a3 a4 : Value) : (xV k_So_looks C 51 [a0, a1, a2, a3, a4, .int x] r hp) = (xV k_So_looks C 53 [a0, a1, a2, a3, a4, .int x] (.int x :: r) hp) := xVe _ _ _ _ _ _
theorem s_So_looks_53 (C : xCx) (r : List Value) (hp : xHp) (x : Int32) (a0 a1 a2 a4 a5 : Value) : (xV k_So_looks C 53 [a0, a1, a2, .int x, a4, a5] r hp) = (xV k_So_looks C 54 [a0, a1, a2, .int x, a4, a5] (.int x :: r) hp) := xVe _ _ _ _ _ _
theorem s_So_looks_54 (x y : Int32) (C : xCx) (L r : List Value) (hp : xHp) : (xV k_So_looks C 54 L (.int y :: .int x :: r) hp) = (((y ≤ x → xV k_So_looks C 63 L r hp) ∧ (¬ y ≤ x → xV k_So_looks C 57 L r hp))) := xVe _ _ _ _ _ _
theorem s_So_looks_57 (C : xCx) (r : List Value) (hp : xHp) (x : Int32) (a0 a1 a2 a3 a4 : Value) : (xV k_So_looks C 57 [a0, a1, a2, a3, a4, .int x] r hp) = (xV k_So_looks C 59 [a0, a1, a2, a3, a4, .int x] (.int x :: r) hp) := xVe _ _ _ _ _ _
theorem s_So_looks_59 (C : xCx) (r : List Value) (hp : xHp) (x : Int32) (a0 a1 a2 a3 a4 a5 : Value) : (xV k_So_looks C 59 [a0, a1, a2, a3, a4, a5] (.int x :: r) hp) = (3 < 6 ∧ xNl [a0, a1, a2, a3, a4, a5] 3 ∧ xV k_So_looks C 60 [a0, a1, a2, .int x, a4, a5] r hp) := xVe _ _ _ _ _ _
theorem s_So_looks_60 (C : xCx) (r : List Value) (hp : xHp) (x : Int32) (a0 a1 a2 a3 a5 : Value) : (xV k_So_looks C 60 [a0, a1, a2, a3, .int x, a5] r hp) = (xV k_So_looks C 62 [a0, a1, a2, a3, .int x, a5] (.int x :: r) hp) := xVe _ _ _ _ _ _
theorem s_So_looks_62 (C : xCx) (r : List Value) (hp : xHp) (x : Int32) (a0 a1 a2 a3 a4 a5 : Value) : (xV k_So_looks C 62 [a0, a1, a2, a3, a4, a5] (.int x :: r) hp) = (2 < 6 ∧ xNl [a0, a1, a2, a3, a4, a5] 2 ∧ xV k_So_looks C 63 [a0, a1, .int x, a3, a4, a5] r hp) := xVe _ _ _ _ _ _
theorem s_So_looks_63 (C : xCx) (r : List Value) (hp : xHp) (x : Int32) (a0 a1 a2 a3 a5 : Value) : (xV k_So_looks C 63 [a0, a1, a2, a3, .int x, a5] r hp) = (xNl [a0, a1, a2, a3, .int x, a5] 4 ∧ xV k_So_looks C 66 [a0, a1, a2, a3, .int (x + (1)), a5] r hp) := xVe _ _ _ _ _ _
theorem s_So_looks_66 (C : xCx) (L r : List Value) (hp : xHp) : (xV k_So_looks C 66 L r hp) = (xV k_So_looks C 30 L r hp) := xVe _ _ _ _ _ _
theorem s_So_looks_69 (C : xCx) (r : List Value) (hp : xHp) (x : Nat) (a1 a2 a3 a4 a5 : Value) : (xV k_So_looks C 69 [.ref x, a1, a2, a3, a4, a5] r hp) = (True ∧ xV k_So_looks C 70 [.ref x, a1, a2, a3, a4, a5] (.ref x :: r) hp) := xVe _ _ _ _ _ _
theorem s_So_looks_70 (a : Nat) (C : xCx) (L r : List Value) (hp : xHp) : (xV k_So_looks C 70 L (.ref a :: r) hp) = (xF hp a 0 1 (fun v => xV k_So_looks C 73 L (v :: r) hp)) := xVe _ _ _ _ _ _
theorem s_So_looks_73 (C : xCx) (r : List Value) (hp : xHp) (x : Int32) (a0 a1 a2 a4 a5 : Value) : (xV k_So_looks C 73 [a0, a1, a2, .int x, a4, a5] r hp) = (xV k_So_looks C 74 [a0, a1, a2, .int x, a4, a5] (.int x :: r) hp) := xVe _ _ _ _ _ _
theorem s_So_looks_74 (x : Int32) (C : xCx) (L r : List Value) (hp : xHp) : (xV k_So_looks C 74 L (.int x :: r) hp) = (xV k_So_looks C 75 L (.long x.toInt64 :: r) hp) := xVe _ _ _ _ _ _
theorem s_So_looks_75 (x0 : Int64) (a : Nat) (l : Launch) (d b lo gz n0 s0 : Nat) (Po : Option Value → xHp → Prop) (L r : List Value) (hp : xHp) : (xV k_So_looks (l, d + 1, b, lo, gz, n0, s0, m_So_looks, Po) 75 L (.long x0 :: .ref a :: r) hp) = (xO hp a 7 ∧ xcs r 8 ∧ xMv l d b lo gz m_Row_tell1 [.ref a, .long x0] hp (fun hp' => xV k_So_looks (l, d + 1, b, lo, gz, n0, s0, m_So_looks, Po) 78 L r hp')) := xVe _ _ _ _ _ _
theorem s_So_looks_78 (C : xCx) (r : List Value) (hp : xHp) (x : Int32) (a0 a1 a3 a4 a5 : Value) : (xV k_So_looks C 78 [a0, a1, .int x, a3, a4, a5] r hp) = (xV k_So_looks C 79 [a0, a1, .int x, a3, a4, a5] (.int x :: r) hp) := xVe _ _ _ _ _ _
theorem s_So_looks_79 (v : Int32) (l : Launch) (d b lo gz n0 s0 : Nat) (Po : Option Value → xHp → Prop) (L : List Value) (hp : xHp) : (xV k_So_looks (l, d, b, lo, gz, n0, s0, m_So_looks, Po) 79 L [.int v] hp) = (Po (some (.int v)) hp) := xVe _ _ _ _ _ _
def k_So_mostLeft : List xEC := [
  (0, .iconst 0, 1, 0, 0, 0, m_x),
  (1, .istore_n 3, 2, 0, 0, 0, m_x),
  (2, .iload_n 3, 3, 0, 0, 0, m_x),
  (3, .bipush 9, 5, 0, 0, 0, m_x),
  (5, .if_icmp .gt 18, 8, 0, 23, 0, m_x),
  (8, .aload_n 0, 9, 0, 0, 0, m_x),
  (9, .getfield 110, 12, 0, 15, 0, m_x),
  (12, .iload_n 3, 13, 0, 0, 0, m_x),
  (13, .iconst 0, 14, 0, 0, 0, m_x),
  (14, .invokestatic 312, 17, 0, 0, 0, m_So_put),
  (17, .iinc 3 1, 20, 0, 0, 0, m_x),
  (20, .goto (-18), 23, 0, 2, 0, m_x),
  (23, .iconst 0, 24, 0, 0, 0, m_x),
  (24, .istore_n 3, 25, 0, 0, 0, m_x),
  (25, .iconst 0, 26, 0, 0, 0, m_x),
  (26, .istore 4, 28, 0, 0, 0, m_x),
  (28, .iload 4, 30, 0, 0, 0, m_x),
  (30, .bipush 9, 32, 0, 0, 0, m_x),
  (32, .if_icmp .gt 68, 35, 0, 100, 0, m_x),
  (35, .iload_n 2, 36, 0, 0, 0, m_x),
  (36, .iconst 1, 37, 0, 0, 0, m_x),
  (37, .iload 4, 39, 0, 0, 0, m_x),
  (39, .ishl, 40, 0, 0, 0, m_x),
  (40, .iand, 41, 0, 0, 0, m_x),
  (41, .ifCond .eq 53, 44, 0, 94, 0, m_x),
  (44, .aload_n 0, 45, 0, 0, 0, m_x),
  (45, .getfield 47, 48, 0, 5, 0, m_x),
  (48, .aload_n 0, 49, 0, 0, 0, m_x),
  (49, .getfield 54, 52, 0, 6, 0, m_x),
  (52, .iload_n 1, 53, 0, 0, 0, m_x),
  (53, .iload 4, 55, 0, 0, 0, m_x),
  (55, .invokevirtual 364, 58, 9, 0, 0, m_Sun_hoursUnder),
  (58, .istore 5, 60, 0, 0, 0, m_x),
  (60, .aload_n 0, 61, 0, 0, 0, m_x),
  (61, .getfield 110, 64, 0, 15, 0, m_x),
  (64, .iload 5, 66, 0, 0, 0, m_x),
  (66, .aload_n 0, 67, 0, 0, 0, m_x),
  (67, .getfield 110, 70, 0, 15, 0, m_x),
  (70, .iload 5, 72, 0, 0, 0, m_x),
  (72, .invokestatic 309, 75, 0, 0, 0, m_So_at),
  (75, .iconst 1, 76, 0, 0, 0, m_x),
  (76, .iadd, 77, 0, 0, 0, m_x),
  (77, .invokestatic 312, 80, 0, 0, 0, m_So_put),
  (80, .iload_n 3, 81, 0, 0, 0, m_x),
  (81, .aload_n 0, 82, 0, 0, 0, m_x),
  (82, .getfield 110, 85, 0, 15, 0, m_x),
  (85, .iload 5, 87, 0, 0, 0, m_x),
  (87, .invokestatic 309, 90, 0, 0, 0, m_So_at),
  (90, .invokestatic 278, 93, 0, 0, 0, m_Math_max),
  (93, .istore_n 3, 94, 0, 0, 0, m_x),
  (94, .iinc 4 1, 97, 0, 0, 0, m_x),
  (97, .goto (-69), 100, 0, 28, 0, m_x),
  (100, .iload_n 3, 101, 0, 0, 0, m_x),
  (101, .ireturn, 102, 0, 0, 0, m_x)]
theorem dc_So_mostLeft : ∀ E ∈ k_So_mostLeft, xDc m_So_mostLeft E := by decide +kernel
set_option maxRecDepth 20000 in
theorem ok_So_mostLeft : ∀ E ∈ k_So_mostLeft, xOk m_So_mostLeft E := xok_of dc_So_mostLeft (xfc trivial (xfc trivial (xfc trivial (xfc trivial (xfc (show ((5 : Nat) : Int) + (18) = ((23 : Nat) : Int) from by decide) (xfc trivial (xfc fl_So_110 (xfc trivial (xfc trivial (xfc ⟨ml_So_312, kd_So_put⟩ (xfc trivial (xfc (show ((20 : Nat) : Int) + (-18) = ((2 : Nat) : Int) from by decide) (xfc trivial (xfc trivial (xfc trivial (xfc trivial (xfc trivial (xfc trivial (xfc (show ((32 : Nat) : Int) + (68) = ((100 : Nat) : Int) from by decide) (xfc trivial (xfc trivial (xfc trivial (xfc trivial (xfc trivial (xfc (show ((41 : Nat) : Int) + (53) = ((94 : Nat) : Int) from by decide) (xfc trivial (xfc fl_So_47 (xfc trivial (xfc fl_So_54 (xfc trivial (xfc trivial (xfc ⟨ml_So_364, kd_Sun_hoursUnder⟩ (xfc trivial (xfc trivial (xfc fl_So_110 (xfc trivial (xfc trivial (xfc fl_So_110 (xfc trivial (xfc ⟨ml_So_309, kd_So_at⟩ (xfc trivial (xfc trivial (xfc ⟨ml_So_312, kd_So_put⟩ (xfc trivial (xfc trivial (xfc fl_So_110 (xfc trivial (xfc ⟨ml_So_309, kd_So_at⟩ (xfc ⟨ml_So_278, kd_Math_max⟩ (xfc trivial (xfc trivial (xfc (show ((97 : Nat) : Int) + (-69) = ((28 : Nat) : Int) from by decide) (xfc trivial (xfc trivial (xfn)))))))))))))))))))))))))))))))))))))))))))))))))))))))
theorem s_So_mostLeft_0  (C : xCx) (L r : List Value) (hp : xHp) : (xV k_So_mostLeft C 0 L (r) hp) = (xV k_So_mostLeft C 1 L (.int (0) :: r) hp) := xVe _ _ _ _ _ _
theorem s_So_mostLeft_1 (C : xCx) (r : List Value) (hp : xHp) (x : Int32) (a0 a1 a2 a3 a4 a5 : Value) : (xV k_So_mostLeft C 1 [a0, a1, a2, a3, a4, a5] (.int x :: r) hp) = (3 < 6 ∧ xNl [a0, a1, a2, a3, a4, a5] 3 ∧ xV k_So_mostLeft C 2 [a0, a1, a2, .int x, a4, a5] r hp) := xVe _ _ _ _ _ _
theorem s_So_mostLeft_2 (C : xCx) (r : List Value) (hp : xHp) (x : Int32) (a0 a1 a2 a4 a5 : Value) : (xV k_So_mostLeft C 2 [a0, a1, a2, .int x, a4, a5] r hp) = (xV k_So_mostLeft C 3 [a0, a1, a2, .int x, a4, a5] (.int x :: r) hp) := xVe _ _ _ _ _ _
theorem s_So_mostLeft_3  (C : xCx) (L r : List Value) (hp : xHp) : (xV k_So_mostLeft C 3 L (r) hp) = (xV k_So_mostLeft C 5 L (.int (9) :: r) hp) := xVe _ _ _ _ _ _
theorem s_So_mostLeft_5 (x y : Int32) (C : xCx) (L r : List Value) (hp : xHp) : (xV k_So_mostLeft C 5 L (.int y :: .int x :: r) hp) = (((y < x → xV k_So_mostLeft C 23 L r hp) ∧ (¬ y < x → xV k_So_mostLeft C 8 L r hp))) := xVe _ _ _ _ _ _
theorem s_So_mostLeft_8 (C : xCx) (r : List Value) (hp : xHp) (x : Nat) (a1 a2 a3 a4 a5 : Value) : (xV k_So_mostLeft C 8 [.ref x, a1, a2, a3, a4, a5] r hp) = (True ∧ xV k_So_mostLeft C 9 [.ref x, a1, a2, a3, a4, a5] (.ref x :: r) hp) := xVe _ _ _ _ _ _
theorem s_So_mostLeft_9 (a : Nat) (C : xCx) (L r : List Value) (hp : xHp) : (xV k_So_mostLeft C 9 L (.ref a :: r) hp) = (xF hp a 0 15 (fun v => xV k_So_mostLeft C 12 L (v :: r) hp)) := xVe _ _ _ _ _ _
theorem s_So_mostLeft_12 (C : xCx) (r : List Value) (hp : xHp) (x : Int32) (a0 a1 a2 a4 a5 : Value) : (xV k_So_mostLeft C 12 [a0, a1, a2, .int x, a4, a5] r hp) = (xV k_So_mostLeft C 13 [a0, a1, a2, .int x, a4, a5] (.int x :: r) hp) := xVe _ _ _ _ _ _
theorem s_So_mostLeft_13  (C : xCx) (L r : List Value) (hp : xHp) : (xV k_So_mostLeft C 13 L (r) hp) = (xV k_So_mostLeft C 14 L (.int (0) :: r) hp) := xVe _ _ _ _ _ _
theorem s_So_mostLeft_14 (x0 : Nat) (x1 : Int32) (x2 : Int32) (l : Launch) (d b lo gz n0 s0 : Nat) (Po : Option Value → xHp → Prop) (L r : List Value) (hp : xHp) : (xV k_So_mostLeft (l, d + 1, b, lo, gz, n0, s0, m_So_mostLeft, Po) 14 L (.int x2 :: .int x1 :: .ref x0 :: r) hp) = (3 ≤ List.length (.int x2 :: .int x1 :: .ref x0 :: r) ∧ xcs r 8 ∧ xMv l d b lo gz m_So_put [.ref x0, .int x1, .int x2] hp (fun hp' => xV k_So_mostLeft (l, d + 1, b, lo, gz, n0, s0, m_So_mostLeft, Po) 17 L r hp')) := xVe _ _ _ _ _ _
theorem s_So_mostLeft_17 (C : xCx) (r : List Value) (hp : xHp) (x : Int32) (a0 a1 a2 a4 a5 : Value) : (xV k_So_mostLeft C 17 [a0, a1, a2, .int x, a4, a5] r hp) = (xNl [a0, a1, a2, .int x, a4, a5] 3 ∧ xV k_So_mostLeft C 20 [a0, a1, a2, .int (x + (1)), a4, a5] r hp) := xVe _ _ _ _ _ _
theorem s_So_mostLeft_20 (C : xCx) (L r : List Value) (hp : xHp) : (xV k_So_mostLeft C 20 L r hp) = (xV k_So_mostLeft C 2 L r hp) := xVe _ _ _ _ _ _
theorem s_So_mostLeft_23  (C : xCx) (L r : List Value) (hp : xHp) : (xV k_So_mostLeft C 23 L (r) hp) = (xV k_So_mostLeft C 24 L (.int (0) :: r) hp) := xVe _ _ _ _ _ _
theorem s_So_mostLeft_24 (C : xCx) (r : List Value) (hp : xHp) (x : Int32) (a0 a1 a2 a3 a4 a5 : Value) : (xV k_So_mostLeft C 24 [a0, a1, a2, a3, a4, a5] (.int x :: r) hp) = (3 < 6 ∧ xNl [a0, a1, a2, a3, a4, a5] 3 ∧ xV k_So_mostLeft C 25 [a0, a1, a2, .int x, a4, a5] r hp) := xVe _ _ _ _ _ _
theorem s_So_mostLeft_25  (C : xCx) (L r : List Value) (hp : xHp) : (xV k_So_mostLeft C 25 L (r) hp) = (xV k_So_mostLeft C 26 L (.int (0) :: r) hp) := xVe _ _ _ _ _ _
theorem s_So_mostLeft_26 (C : xCx) (r : List Value) (hp : xHp) (x : Int32) (a0 a1 a2 a3 a4 a5 : Value) : (xV k_So_mostLeft C 26 [a0, a1, a2, a3, a4, a5] (.int x :: r) hp) = (4 < 6 ∧ xNl [a0, a1, a2, a3, a4, a5] 4 ∧ xV k_So_mostLeft C 28 [a0, a1, a2, a3, .int x, a5] r hp) := xVe _ _ _ _ _ _
theorem s_So_mostLeft_28 (C : xCx) (r : List Value) (hp : xHp) (x : Int32) (a0 a1 a2 a3 a5 : Value) : (xV k_So_mostLeft C 28 [a0, a1, a2, a3, .int x, a5] r hp) = (xV k_So_mostLeft C 30 [a0, a1, a2, a3, .int x, a5] (.int x :: r) hp) := xVe _ _ _ _ _ _
theorem s_So_mostLeft_30  (C : xCx) (L r : List Value) (hp : xHp) : (xV k_So_mostLeft C 30 L (r) hp) = (xV k_So_mostLeft C 32 L (.int (9) :: r) hp) := xVe _ _ _ _ _ _
theorem s_So_mostLeft_32 (x y : Int32) (C : xCx) (L r : List Value) (hp : xHp) : (xV k_So_mostLeft C 32 L (.int y :: .int x :: r) hp) = (((y < x → xV k_So_mostLeft C 100 L r hp) ∧ (¬ y < x → xV k_So_mostLeft C 35 L r hp))) := xVe _ _ _ _ _ _
theorem s_So_mostLeft_35 (C : xCx) (r : List Value) (hp : xHp) (x : Int32) (a0 a1 a3 a4 a5 : Value) : (xV k_So_mostLeft C 35 [a0, a1, .int x, a3, a4, a5] r hp) = (xV k_So_mostLeft C 36 [a0, a1, .int x, a3, a4, a5] (.int x :: r) hp) := xVe _ _ _ _ _ _
theorem s_So_mostLeft_36  (C : xCx) (L r : List Value) (hp : xHp) : (xV k_So_mostLeft C 36 L (r) hp) = (xV k_So_mostLeft C 37 L (.int (1) :: r) hp) := xVe _ _ _ _ _ _
theorem s_So_mostLeft_37 (C : xCx) (r : List Value) (hp : xHp) (x : Int32) (a0 a1 a2 a3 a5 : Value) : (xV k_So_mostLeft C 37 [a0, a1, a2, a3, .int x, a5] r hp) = (xV k_So_mostLeft C 39 [a0, a1, a2, a3, .int x, a5] (.int x :: r) hp) := xVe _ _ _ _ _ _
theorem s_So_mostLeft_39 (x y : Int32) (C : xCx) (L r : List Value) (hp : xHp) : (xV k_So_mostLeft C 39 L (.int y :: .int x :: r) hp) = (xV k_So_mostLeft C 40 L (.int (x <<< (y &&& 31)) :: r) hp) := xVe _ _ _ _ _ _
theorem s_So_mostLeft_40 (x y : Int32) (C : xCx) (L r : List Value) (hp : xHp) : (xV k_So_mostLeft C 40 L (.int y :: .int x :: r) hp) = (xV k_So_mostLeft C 41 L (.int (x &&& y) :: r) hp) := xVe _ _ _ _ _ _
theorem s_So_mostLeft_41 (x : Int32) (C : xCx) (L r : List Value) (hp : xHp) : (xV k_So_mostLeft C 41 L (.int x :: r) hp) = (((x = 0 → xV k_So_mostLeft C 94 L r hp) ∧ (¬ x = 0 → xV k_So_mostLeft C 44 L r hp))) := xVe _ _ _ _ _ _
theorem s_So_mostLeft_44 (C : xCx) (r : List Value) (hp : xHp) (x : Nat) (a1 a2 a3 a4 a5 : Value) : (xV k_So_mostLeft C 44 [.ref x, a1, a2, a3, a4, a5] r hp) = (True ∧ xV k_So_mostLeft C 45 [.ref x, a1, a2, a3, a4, a5] (.ref x :: r) hp) := xVe _ _ _ _ _ _
theorem s_So_mostLeft_45 (a : Nat) (C : xCx) (L r : List Value) (hp : xHp) : (xV k_So_mostLeft C 45 L (.ref a :: r) hp) = (xF hp a 0 5 (fun v => xV k_So_mostLeft C 48 L (v :: r) hp)) := xVe _ _ _ _ _ _
theorem s_So_mostLeft_48 (C : xCx) (r : List Value) (hp : xHp) (x : Nat) (a1 a2 a3 a4 a5 : Value) : (xV k_So_mostLeft C 48 [.ref x, a1, a2, a3, a4, a5] r hp) = (True ∧ xV k_So_mostLeft C 49 [.ref x, a1, a2, a3, a4, a5] (.ref x :: r) hp) := xVe _ _ _ _ _ _
theorem s_So_mostLeft_49 (a : Nat) (C : xCx) (L r : List Value) (hp : xHp) : (xV k_So_mostLeft C 49 L (.ref a :: r) hp) = (xF hp a 0 6 (fun v => xV k_So_mostLeft C 52 L (v :: r) hp)) := xVe _ _ _ _ _ _
theorem s_So_mostLeft_52 (C : xCx) (r : List Value) (hp : xHp) (x : Int32) (a0 a2 a3 a4 a5 : Value) : (xV k_So_mostLeft C 52 [a0, .int x, a2, a3, a4, a5] r hp) = (xV k_So_mostLeft C 53 [a0, .int x, a2, a3, a4, a5] (.int x :: r) hp) := xVe _ _ _ _ _ _
theorem s_So_mostLeft_53 (C : xCx) (r : List Value) (hp : xHp) (x : Int32) (a0 a1 a2 a3 a5 : Value) : (xV k_So_mostLeft C 53 [a0, a1, a2, a3, .int x, a5] r hp) = (xV k_So_mostLeft C 55 [a0, a1, a2, a3, .int x, a5] (.int x :: r) hp) := xVe _ _ _ _ _ _
theorem s_So_mostLeft_55 (x0 : Nat) (x1 : Int32) (x2 : Int32) (a : Nat) (l : Launch) (d b lo gz n0 s0 : Nat) (Po : Option Value → xHp → Prop) (L r : List Value) (hp : xHp) : (xV k_So_mostLeft (l, d + 1, b, lo, gz, n0, s0, m_So_mostLeft, Po) 55 L (.int x2 :: .int x1 :: .ref x0 :: .ref a :: r) hp) = (xO hp a 9 ∧ xcs r 8 ∧ xMi l d b lo gz m_Sun_hoursUnder [.ref a, .ref x0, .int x1, .int x2] hp (fun x hp' => xV k_So_mostLeft (l, d + 1, b, lo, gz, n0, s0, m_So_mostLeft, Po) 58 L (.int x :: r) hp')) := xVe _ _ _ _ _ _
theorem s_So_mostLeft_58 (C : xCx) (r : List Value) (hp : xHp) (x : Int32) (a0 a1 a2 a3 a4 a5 : Value) : (xV k_So_mostLeft C 58 [a0, a1, a2, a3, a4, a5] (.int x :: r) hp) = (5 < 6 ∧ xNl [a0, a1, a2, a3, a4, a5] 5 ∧ xV k_So_mostLeft C 60 [a0, a1, a2, a3, a4, .int x] r hp) := xVe _ _ _ _ _ _
theorem s_So_mostLeft_60 (C : xCx) (r : List Value) (hp : xHp) (x : Nat) (a1 a2 a3 a4 a5 : Value) : (xV k_So_mostLeft C 60 [.ref x, a1, a2, a3, a4, a5] r hp) = (True ∧ xV k_So_mostLeft C 61 [.ref x, a1, a2, a3, a4, a5] (.ref x :: r) hp) := xVe _ _ _ _ _ _
theorem s_So_mostLeft_61 (a : Nat) (C : xCx) (L r : List Value) (hp : xHp) : (xV k_So_mostLeft C 61 L (.ref a :: r) hp) = (xF hp a 0 15 (fun v => xV k_So_mostLeft C 64 L (v :: r) hp)) := xVe _ _ _ _ _ _
theorem s_So_mostLeft_64 (C : xCx) (r : List Value) (hp : xHp) (x : Int32) (a0 a1 a2 a3 a4 : Value) : (xV k_So_mostLeft C 64 [a0, a1, a2, a3, a4, .int x] r hp) = (xV k_So_mostLeft C 66 [a0, a1, a2, a3, a4, .int x] (.int x :: r) hp) := xVe _ _ _ _ _ _
theorem s_So_mostLeft_66 (C : xCx) (r : List Value) (hp : xHp) (x : Nat) (a1 a2 a3 a4 a5 : Value) : (xV k_So_mostLeft C 66 [.ref x, a1, a2, a3, a4, a5] r hp) = (True ∧ xV k_So_mostLeft C 67 [.ref x, a1, a2, a3, a4, a5] (.ref x :: r) hp) := xVe _ _ _ _ _ _
theorem s_So_mostLeft_67 (a : Nat) (C : xCx) (L r : List Value) (hp : xHp) : (xV k_So_mostLeft C 67 L (.ref a :: r) hp) = (xF hp a 0 15 (fun v => xV k_So_mostLeft C 70 L (v :: r) hp)) := xVe _ _ _ _ _ _
theorem s_So_mostLeft_70 (C : xCx) (r : List Value) (hp : xHp) (x : Int32) (a0 a1 a2 a3 a4 : Value) : (xV k_So_mostLeft C 70 [a0, a1, a2, a3, a4, .int x] r hp) = (xV k_So_mostLeft C 72 [a0, a1, a2, a3, a4, .int x] (.int x :: r) hp) := xVe _ _ _ _ _ _
theorem s_So_mostLeft_72 (x0 : Nat) (x1 : Int32) (l : Launch) (d b lo gz n0 s0 : Nat) (Po : Option Value → xHp → Prop) (L r : List Value) (hp : xHp) : (xV k_So_mostLeft (l, d + 1, b, lo, gz, n0, s0, m_So_mostLeft, Po) 72 L (.int x1 :: .ref x0 :: r) hp) = (2 ≤ List.length (.int x1 :: .ref x0 :: r) ∧ xcs r 8 ∧ xMi l d b lo gz m_So_at [.ref x0, .int x1] hp (fun x hp' => xV k_So_mostLeft (l, d + 1, b, lo, gz, n0, s0, m_So_mostLeft, Po) 75 L (.int x :: r) hp')) := xVe _ _ _ _ _ _
theorem s_So_mostLeft_75  (C : xCx) (L r : List Value) (hp : xHp) : (xV k_So_mostLeft C 75 L (r) hp) = (xV k_So_mostLeft C 76 L (.int (1) :: r) hp) := xVe _ _ _ _ _ _
theorem s_So_mostLeft_76 (x y : Int32) (C : xCx) (L r : List Value) (hp : xHp) : (xV k_So_mostLeft C 76 L (.int y :: .int x :: r) hp) = (xV k_So_mostLeft C 77 L (.int (x + y) :: r) hp) := xVe _ _ _ _ _ _
theorem s_So_mostLeft_77 (x0 : Nat) (x1 : Int32) (x2 : Int32) (l : Launch) (d b lo gz n0 s0 : Nat) (Po : Option Value → xHp → Prop) (L r : List Value) (hp : xHp) : (xV k_So_mostLeft (l, d + 1, b, lo, gz, n0, s0, m_So_mostLeft, Po) 77 L (.int x2 :: .int x1 :: .ref x0 :: r) hp) = (3 ≤ List.length (.int x2 :: .int x1 :: .ref x0 :: r) ∧ xcs r 8 ∧ xMv l d b lo gz m_So_put [.ref x0, .int x1, .int x2] hp (fun hp' => xV k_So_mostLeft (l, d + 1, b, lo, gz, n0, s0, m_So_mostLeft, Po) 80 L r hp')) := xVe _ _ _ _ _ _
theorem s_So_mostLeft_80 (C : xCx) (r : List Value) (hp : xHp) (x : Int32) (a0 a1 a2 a4 a5 : Value) : (xV k_So_mostLeft C 80 [a0, a1, a2, .int x, a4, a5] r hp) = (xV k_So_mostLeft C 81 [a0, a1, a2, .int x, a4, a5] (.int x :: r) hp) := xVe _ _ _ _ _ _
theorem s_So_mostLeft_81 (C : xCx) (r : List Value) (hp : xHp) (x : Nat) (a1 a2 a3 a4 a5 : Value) : (xV k_So_mostLeft C 81 [.ref x, a1, a2, a3, a4, a5] r hp) = (True ∧ xV k_So_mostLeft C 82 [.ref x, a1, a2, a3, a4, a5] (.ref x :: r) hp) := xVe _ _ _ _ _ _
theorem s_So_mostLeft_82 (a : Nat) (C : xCx) (L r : List Value) (hp : xHp) : (xV k_So_mostLeft C 82 L (.ref a :: r) hp) = (xF hp a 0 15 (fun v => xV k_So_mostLeft C 85 L (v :: r) hp)) := xVe _ _ _ _ _ _
theorem s_So_mostLeft_85 (C : xCx) (r : List Value) (hp : xHp) (x : Int32) (a0 a1 a2 a3 a4 : Value) : (xV k_So_mostLeft C 85 [a0, a1, a2, a3, a4, .int x] r hp) = (xV k_So_mostLeft C 87 [a0, a1, a2, a3, a4, .int x] (.int x :: r) hp) := xVe _ _ _ _ _ _
theorem s_So_mostLeft_87 (x0 : Nat) (x1 : Int32) (l : Launch) (d b lo gz n0 s0 : Nat) (Po : Option Value → xHp → Prop) (L r : List Value) (hp : xHp) : (xV k_So_mostLeft (l, d + 1, b, lo, gz, n0, s0, m_So_mostLeft, Po) 87 L (.int x1 :: .ref x0 :: r) hp) = (2 ≤ List.length (.int x1 :: .ref x0 :: r) ∧ xcs r 8 ∧ xMi l d b lo gz m_So_at [.ref x0, .int x1] hp (fun x hp' => xV k_So_mostLeft (l, d + 1, b, lo, gz, n0, s0, m_So_mostLeft, Po) 90 L (.int x :: r) hp')) := xVe _ _ _ _ _ _
theorem s_So_mostLeft_90 (x0 : Int32) (x1 : Int32) (l : Launch) (d b lo gz n0 s0 : Nat) (Po : Option Value → xHp → Prop) (L r : List Value) (hp : xHp) : (xV k_So_mostLeft (l, d + 1, b, lo, gz, n0, s0, m_So_mostLeft, Po) 90 L (.int x1 :: .int x0 :: r) hp) = (2 ≤ List.length (.int x1 :: .int x0 :: r) ∧ xcs r 8 ∧ xMi l d b lo gz m_Math_max [.int x0, .int x1] hp (fun x hp' => xV k_So_mostLeft (l, d + 1, b, lo, gz, n0, s0, m_So_mostLeft, Po) 93 L (.int x :: r) hp')) := xVe _ _ _ _ _ _
theorem s_So_mostLeft_93 (C : xCx) (r : List Value) (hp : xHp) (x : Int32) (a0 a1 a2 a3 a4 a5 : Value) : (xV k_So_mostLeft C 93 [a0, a1, a2, a3, a4, a5] (.int x :: r) hp) = (3 < 6 ∧ xNl [a0, a1, a2, a3, a4, a5] 3 ∧ xV k_So_mostLeft C 94 [a0, a1, a2, .int x, a4, a5] r hp) := xVe _ _ _ _ _ _
theorem s_So_mostLeft_94 (C : xCx) (r : List Value) (hp : xHp) (x : Int32) (a0 a1 a2 a3 a5 : Value) : (xV k_So_mostLeft C 94 [a0, a1, a2, a3, .int x, a5] r hp) = (xNl [a0, a1, a2, a3, .int x, a5] 4 ∧ xV k_So_mostLeft C 97 [a0, a1, a2, a3, .int (x + (1)), a5] r hp) := xVe _ _ _ _ _ _
theorem s_So_mostLeft_97 (C : xCx) (L r : List Value) (hp : xHp) : (xV k_So_mostLeft C 97 L r hp) = (xV k_So_mostLeft C 28 L r hp) := xVe _ _ _ _ _ _
theorem s_So_mostLeft_100 (C : xCx) (r : List Value) (hp : xHp) (x : Int32) (a0 a1 a2 a4 a5 : Value) : (xV k_So_mostLeft C 100 [a0, a1, a2, .int x, a4, a5] r hp) = (xV k_So_mostLeft C 101 [a0, a1, a2, .int x, a4, a5] (.int x :: r) hp) := xVe _ _ _ _ _ _
theorem s_So_mostLeft_101 (v : Int32) (l : Launch) (d b lo gz n0 s0 : Nat) (Po : Option Value → xHp → Prop) (L : List Value) (hp : xHp) : (xV k_So_mostLeft (l, d, b, lo, gz, n0, s0, m_So_mostLeft, Po) 101 L [.int v] hp) = (Po (some (.int v)) hp) := xVe _ _ _ _ _ _
theorem ml_So_370 : xLk "SunnyOnes" 370 m_So_mostHeard := Or.inl (wg4 220 (by decide +kernel) rfl)
def k_So_heard : List xEC := [
  (0, .iload_n 2, 1, 0, 0, 0, m_x),
  (1, .ifCond .lt 23, 4, 0, 24, 0, m_x),
  (4, .iload_n 2, 5, 0, 0, 0, m_x),
  (5, .iload_n 1, 6, 0, 0, 0, m_x),
  (6, .invokestatic 370, 9, 0, 0, 0, m_So_mostHeard),
  (9, .if_icmp .gt 15, 12, 0, 24, 0, m_x),
  (12, .aload_n 0, 13, 0, 0, 0, m_x),
  (13, .getfield 80, 16, 0, 11, 0, m_x),
  (16, .iload_n 1, 17, 0, 0, 0, m_x),
  (17, .iload_n 2, 18, 0, 0, 0, m_x),
  (18, .invokevirtual 338, 21, 2, 0, 0, m_Clues_add),
  (21, .ifCond .ne 5, 24, 0, 26, 0, m_x),
  (24, .iconst (-1), 25, 0, 0, 0, m_x),
  (25, .ireturn, 26, 0, 0, 0, m_x),
  (26, .aload_n 0, 27, 0, 0, 0, m_x),
  (27, .getfield 80, 30, 0, 11, 0, m_x),
  (30, .invokevirtual 341, 33, 2, 0, 0, m_Clues_size),
  (33, .ireturn, 34, 0, 0, 0, m_x)]
theorem dc_So_heard : ∀ E ∈ k_So_heard, xDc m_So_heard E := by decide +kernel
set_option maxRecDepth 20000 in
theorem ok_So_heard : ∀ E ∈ k_So_heard, xOk m_So_heard E := xok_of dc_So_heard (xfc trivial (xfc (show ((1 : Nat) : Int) + (23) = ((24 : Nat) : Int) from by decide) (xfc trivial (xfc trivial (xfc ⟨ml_So_370, kd_So_mostHeard⟩ (xfc (show ((9 : Nat) : Int) + (15) = ((24 : Nat) : Int) from by decide) (xfc trivial (xfc fl_So_80 (xfc trivial (xfc trivial (xfc ⟨ml_So_338, kd_Clues_add⟩ (xfc (show ((21 : Nat) : Int) + (5) = ((26 : Nat) : Int) from by decide) (xfc trivial (xfc trivial (xfc trivial (xfc fl_So_80 (xfc ⟨ml_So_341, kd_Clues_size⟩ (xfc trivial (xfn)))))))))))))))))))
theorem s_So_heard_0 (C : xCx) (r : List Value) (hp : xHp) (x : Int32) (a0 a1 : Value) : (xV k_So_heard C 0 [a0, a1, .int x] r hp) = (xV k_So_heard C 1 [a0, a1, .int x] (.int x :: r) hp) := xVe _ _ _ _ _ _
theorem s_So_heard_1 (x : Int32) (C : xCx) (L r : List Value) (hp : xHp) : (xV k_So_heard C 1 L (.int x :: r) hp) = (((x < 0 → xV k_So_heard C 24 L r hp) ∧ (¬ x < 0 → xV k_So_heard C 4 L r hp))) := xVe _ _ _ _ _ _
theorem s_So_heard_4 (C : xCx) (r : List Value) (hp : xHp) (x : Int32) (a0 a1 : Value) : (xV k_So_heard C 4 [a0, a1, .int x] r hp) = (xV k_So_heard C 5 [a0, a1, .int x] (.int x :: r) hp) := xVe _ _ _ _ _ _
theorem s_So_heard_5 (C : xCx) (r : List Value) (hp : xHp) (x : Int32) (a0 a2 : Value) : (xV k_So_heard C 5 [a0, .int x, a2] r hp) = (xV k_So_heard C 6 [a0, .int x, a2] (.int x :: r) hp) := xVe _ _ _ _ _ _
theorem s_So_heard_6 (x0 : Int32) (l : Launch) (d b lo gz n0 s0 : Nat) (Po : Option Value → xHp → Prop) (L r : List Value) (hp : xHp) : (xV k_So_heard (l, d + 1, b, lo, gz, n0, s0, m_So_heard, Po) 6 L (.int x0 :: r) hp) = (1 ≤ List.length (.int x0 :: r) ∧ xcs r 8 ∧ xMi l d b lo gz m_So_mostHeard [.int x0] hp (fun x hp' => xV k_So_heard (l, d + 1, b, lo, gz, n0, s0, m_So_heard, Po) 9 L (.int x :: r) hp')) := xVe _ _ _ _ _ _
theorem s_So_heard_9 (x y : Int32) (C : xCx) (L r : List Value) (hp : xHp) : (xV k_So_heard C 9 L (.int y :: .int x :: r) hp) = (((y < x → xV k_So_heard C 24 L r hp) ∧ (¬ y < x → xV k_So_heard C 12 L r hp))) := xVe _ _ _ _ _ _
theorem s_So_heard_12 (C : xCx) (r : List Value) (hp : xHp) (x : Nat) (a1 a2 : Value) : (xV k_So_heard C 12 [.ref x, a1, a2] r hp) = (True ∧ xV k_So_heard C 13 [.ref x, a1, a2] (.ref x :: r) hp) := xVe _ _ _ _ _ _
theorem s_So_heard_13 (a : Nat) (C : xCx) (L r : List Value) (hp : xHp) : (xV k_So_heard C 13 L (.ref a :: r) hp) = (xF hp a 0 11 (fun v => xV k_So_heard C 16 L (v :: r) hp)) := xVe _ _ _ _ _ _
theorem s_So_heard_16 (C : xCx) (r : List Value) (hp : xHp) (x : Int32) (a0 a2 : Value) : (xV k_So_heard C 16 [a0, .int x, a2] r hp) = (xV k_So_heard C 17 [a0, .int x, a2] (.int x :: r) hp) := xVe _ _ _ _ _ _
theorem s_So_heard_17 (C : xCx) (r : List Value) (hp : xHp) (x : Int32) (a0 a1 : Value) : (xV k_So_heard C 17 [a0, a1, .int x] r hp) = (xV k_So_heard C 18 [a0, a1, .int x] (.int x :: r) hp) := xVe _ _ _ _ _ _
theorem s_So_heard_18 (x0 : Int32) (x1 : Int32) (a : Nat) (l : Launch) (d b lo gz n0 s0 : Nat) (Po : Option Value → xHp → Prop) (L r : List Value) (hp : xHp) : (xV k_So_heard (l, d + 1, b, lo, gz, n0, s0, m_So_heard, Po) 18 L (.int x1 :: .int x0 :: .ref a :: r) hp) = (xO hp a 2 ∧ xcs r 8 ∧ xMi l d b lo gz m_Clues_add [.ref a, .int x0, .int x1] hp (fun x hp' => xV k_So_heard (l, d + 1, b, lo, gz, n0, s0, m_So_heard, Po) 21 L (.int x :: r) hp')) := xVe _ _ _ _ _ _
theorem s_So_heard_21 (x : Int32) (C : xCx) (L r : List Value) (hp : xHp) : (xV k_So_heard C 21 L (.int x :: r) hp) = (((¬ x = 0 → xV k_So_heard C 26 L r hp) ∧ (x = 0 → xV k_So_heard C 24 L r hp))) := xVe _ _ _ _ _ _
theorem s_So_heard_24  (C : xCx) (L r : List Value) (hp : xHp) : (xV k_So_heard C 24 L (r) hp) = (xV k_So_heard C 25 L (.int (-1) :: r) hp) := xVe _ _ _ _ _ _
theorem s_So_heard_25 (v : Int32) (l : Launch) (d b lo gz n0 s0 : Nat) (Po : Option Value → xHp → Prop) (L : List Value) (hp : xHp) : (xV k_So_heard (l, d, b, lo, gz, n0, s0, m_So_heard, Po) 25 L [.int v] hp) = (Po (some (.int v)) hp) := xVe _ _ _ _ _ _
theorem s_So_heard_26 (C : xCx) (r : List Value) (hp : xHp) (x : Nat) (a1 a2 : Value) : (xV k_So_heard C 26 [.ref x, a1, a2] r hp) = (True ∧ xV k_So_heard C 27 [.ref x, a1, a2] (.ref x :: r) hp) := xVe _ _ _ _ _ _
theorem s_So_heard_27 (a : Nat) (C : xCx) (L r : List Value) (hp : xHp) : (xV k_So_heard C 27 L (.ref a :: r) hp) = (xF hp a 0 11 (fun v => xV k_So_heard C 30 L (v :: r) hp)) := xVe _ _ _ _ _ _
theorem s_So_heard_30 (a : Nat) (l : Launch) (d b lo gz n0 s0 : Nat) (Po : Option Value → xHp → Prop) (L r : List Value) (hp : xHp) : (xV k_So_heard (l, d + 1, b, lo, gz, n0, s0, m_So_heard, Po) 30 L (.ref a :: r) hp) = (xO hp a 2 ∧ xcs r 8 ∧ xMi l d b lo gz m_Clues_size [.ref a] hp (fun x hp' => xV k_So_heard (l, d + 1, b, lo, gz, n0, s0, m_So_heard, Po) 33 L (.int x :: r) hp')) := xVe _ _ _ _ _ _
theorem s_So_heard_33 (v : Int32) (l : Launch) (d b lo gz n0 s0 : Nat) (Po : Option Value → xHp → Prop) (L : List Value) (hp : xHp) : (xV k_So_heard (l, d, b, lo, gz, n0, s0, m_So_heard, Po) 33 L [.int v] hp) = (Po (some (.int v)) hp) := xVe _ _ _ _ _ _
def k_So_mostHeard : List xEC := [
  (0, .iload_n 0, 1, 0, 0, 0, m_x),
  (1, .tableswitch 49 0 4 #[35, 39, 41, 44, 47], 36, 0, 0, 0, m_x),
  (36, .sipush 9999, 39, 0, 0, 0, m_x),
  (39, .ireturn, 40, 0, 0, 0, m_x),
  (40, .iconst 5, 41, 0, 0, 0, m_x),
  (41, .ireturn, 42, 0, 0, 0, m_x),
  (42, .bipush 99, 44, 0, 0, 0, m_x),
  (44, .ireturn, 45, 0, 0, 0, m_x),
  (45, .bipush 9, 47, 0, 0, 0, m_x),
  (47, .ireturn, 48, 0, 0, 0, m_x),
  (48, .iconst 1, 49, 0, 0, 0, m_x),
  (49, .ireturn, 50, 0, 0, 0, m_x),
  (50, .iconst (-1), 51, 0, 0, 0, m_x),
  (51, .ireturn, 52, 0, 0, 0, m_x)]
theorem dc_So_mostHeard : ∀ E ∈ k_So_mostHeard, xDc m_So_mostHeard E := by decide +kernel
set_option maxRecDepth 20000 in
theorem ok_So_mostHeard : ∀ E ∈ k_So_mostHeard, xOk m_So_mostHeard E := xok_of dc_So_mostHeard (xfc trivial (xfc (show (-2147483648 : Int) ≤ (0) ∧ (0) + ((#[35, 39, 41, 44, 47] : Array Int).size : Int) ≤ 2147483648 ∧ (4 : Int) = (0) + ((#[35, 39, 41, 44, 47] : Array Int).size : Int) - 1 ∧ (0 : Int) ≤ ((1 : Nat) : Int) + (49) ∧ ∀ o ∈ (#[35, 39, 41, 44, 47] : Array Int).toList, (0 : Int) ≤ ((1 : Nat) : Int) + o from by decide) (xfc trivial (xfc trivial (xfc trivial (xfc trivial (xfc trivial (xfc trivial (xfc trivial (xfc trivial (xfc trivial (xfc trivial (xfc trivial (xfc trivial (xfn)))))))))))))))
theorem s_So_mostHeard_0 (C : xCx) (r : List Value) (hp : xHp) (x : Int32) : (xV k_So_mostHeard C 0 [.int x] r hp) = (xV k_So_mostHeard C 1 [.int x] (.int x :: r) hp) := xVe _ _ _ _ _ _
theorem s_So_mostHeard_1 (x : Int32) (C : xCx) (L r : List Value) (hp : xHp) : (xV k_So_mostHeard C 1 L (.int x :: r) hp) = (((x = (0) → xV k_So_mostHeard C 36 L r hp) ∧ (¬ x = (0) → ((x = (1) → xV k_So_mostHeard C 40 L r hp) ∧ (¬ x = (1) → ((x = (2) → xV k_So_mostHeard C 42 L r hp) ∧ (¬ x = (2) → ((x = (3) → xV k_So_mostHeard C 45 L r hp) ∧ (¬ x = (3) → ((x = (4) → xV k_So_mostHeard C 48 L r hp) ∧ (¬ x = (4) → xV k_So_mostHeard C 50 L r hp))))))))))) := xVe _ _ _ _ _ _
theorem s_So_mostHeard_36  (C : xCx) (L r : List Value) (hp : xHp) : (xV k_So_mostHeard C 36 L (r) hp) = (xV k_So_mostHeard C 39 L (.int (9999) :: r) hp) := xVe _ _ _ _ _ _
theorem s_So_mostHeard_39 (v : Int32) (l : Launch) (d b lo gz n0 s0 : Nat) (Po : Option Value → xHp → Prop) (L : List Value) (hp : xHp) : (xV k_So_mostHeard (l, d, b, lo, gz, n0, s0, m_So_mostHeard, Po) 39 L [.int v] hp) = (Po (some (.int v)) hp) := xVe _ _ _ _ _ _
theorem s_So_mostHeard_40  (C : xCx) (L r : List Value) (hp : xHp) : (xV k_So_mostHeard C 40 L (r) hp) = (xV k_So_mostHeard C 41 L (.int (5) :: r) hp) := xVe _ _ _ _ _ _
theorem s_So_mostHeard_41 (v : Int32) (l : Launch) (d b lo gz n0 s0 : Nat) (Po : Option Value → xHp → Prop) (L : List Value) (hp : xHp) : (xV k_So_mostHeard (l, d, b, lo, gz, n0, s0, m_So_mostHeard, Po) 41 L [.int v] hp) = (Po (some (.int v)) hp) := xVe _ _ _ _ _ _
theorem s_So_mostHeard_42  (C : xCx) (L r : List Value) (hp : xHp) : (xV k_So_mostHeard C 42 L (r) hp) = (xV k_So_mostHeard C 44 L (.int (99) :: r) hp) := xVe _ _ _ _ _ _
theorem s_So_mostHeard_44 (v : Int32) (l : Launch) (d b lo gz n0 s0 : Nat) (Po : Option Value → xHp → Prop) (L : List Value) (hp : xHp) : (xV k_So_mostHeard (l, d, b, lo, gz, n0, s0, m_So_mostHeard, Po) 44 L [.int v] hp) = (Po (some (.int v)) hp) := xVe _ _ _ _ _ _
theorem s_So_mostHeard_45  (C : xCx) (L r : List Value) (hp : xHp) : (xV k_So_mostHeard C 45 L (r) hp) = (xV k_So_mostHeard C 47 L (.int (9) :: r) hp) := xVe _ _ _ _ _ _
theorem s_So_mostHeard_47 (v : Int32) (l : Launch) (d b lo gz n0 s0 : Nat) (Po : Option Value → xHp → Prop) (L : List Value) (hp : xHp) : (xV k_So_mostHeard (l, d, b, lo, gz, n0, s0, m_So_mostHeard, Po) 47 L [.int v] hp) = (Po (some (.int v)) hp) := xVe _ _ _ _ _ _
theorem s_So_mostHeard_48  (C : xCx) (L r : List Value) (hp : xHp) : (xV k_So_mostHeard C 48 L (r) hp) = (xV k_So_mostHeard C 49 L (.int (1) :: r) hp) := xVe _ _ _ _ _ _
theorem s_So_mostHeard_49 (v : Int32) (l : Launch) (d b lo gz n0 s0 : Nat) (Po : Option Value → xHp → Prop) (L : List Value) (hp : xHp) : (xV k_So_mostHeard (l, d, b, lo, gz, n0, s0, m_So_mostHeard, Po) 49 L [.int v] hp) = (Po (some (.int v)) hp) := xVe _ _ _ _ _ _
theorem s_So_mostHeard_50  (C : xCx) (L r : List Value) (hp : xHp) : (xV k_So_mostHeard C 50 L (r) hp) = (xV k_So_mostHeard C 51 L (.int (-1) :: r) hp) := xVe _ _ _ _ _ _
theorem s_So_mostHeard_51 (v : Int32) (l : Launch) (d b lo gz n0 s0 : Nat) (Po : Option Value → xHp → Prop) (L : List Value) (hp : xHp) : (xV k_So_mostHeard (l, d, b, lo, gz, n0, s0, m_So_mostHeard, Po) 51 L [.int v] hp) = (Po (some (.int v)) hp) := xVe _ _ _ _ _ _
def k_So_forget : List xEC := [
  (0, .aload_n 0, 1, 0, 0, 0, m_x),
  (1, .getfield 80, 4, 0, 11, 0, m_x),
  (4, .invokevirtual 342, 7, 2, 0, 0, m_Clues_clear),
  (7, .ireturn, 8, 0, 0, 0, m_x)]
theorem dc_So_forget : ∀ E ∈ k_So_forget, xDc m_So_forget E := by decide +kernel
set_option maxRecDepth 20000 in
theorem ok_So_forget : ∀ E ∈ k_So_forget, xOk m_So_forget E := xok_of dc_So_forget (xfc trivial (xfc fl_So_80 (xfc ⟨ml_So_342, kd_Clues_clear⟩ (xfc trivial (xfn)))))
theorem s_So_forget_0 (C : xCx) (r : List Value) (hp : xHp) (x : Nat) : (xV k_So_forget C 0 [.ref x] r hp) = (True ∧ xV k_So_forget C 1 [.ref x] (.ref x :: r) hp) := xVe _ _ _ _ _ _
theorem s_So_forget_1 (a : Nat) (C : xCx) (L r : List Value) (hp : xHp) : (xV k_So_forget C 1 L (.ref a :: r) hp) = (xF hp a 0 11 (fun v => xV k_So_forget C 4 L (v :: r) hp)) := xVe _ _ _ _ _ _
theorem s_So_forget_4 (a : Nat) (l : Launch) (d b lo gz n0 s0 : Nat) (Po : Option Value → xHp → Prop) (L r : List Value) (hp : xHp) : (xV k_So_forget (l, d + 1, b, lo, gz, n0, s0, m_So_forget, Po) 4 L (.ref a :: r) hp) = (xO hp a 2 ∧ xcs r 8 ∧ xMi l d b lo gz m_Clues_clear [.ref a] hp (fun x hp' => xV k_So_forget (l, d + 1, b, lo, gz, n0, s0, m_So_forget, Po) 7 L (.int x :: r) hp')) := xVe _ _ _ _ _ _
theorem s_So_forget_7 (v : Int32) (l : Launch) (d b lo gz n0 s0 : Nat) (Po : Option Value → xHp → Prop) (L : List Value) (hp : xHp) : (xV k_So_forget (l, d, b, lo, gz, n0, s0, m_So_forget, Po) 7 L [.int v] hp) = (Po (some (.int v)) hp) := xVe _ _ _ _ _ _
theorem ml_So_373 : xLk "SunnyOnes" 373 m_So_likelyOnes := Or.inl (wg4 231 (by decide +kernel) rfl)
def k_So_fits : List xEC := [
  (0, .aload_n 0, 1, 0, 0, 0, m_x),
  (1, .invokevirtual 373, 4, 0, 0, 0, m_So_likelyOnes),
  (4, .istore_n 1, 5, 0, 0, 0, m_x),
  (5, .aload_n 0, 6, 0, 0, 0, m_x),
  (6, .getfield 19, 9, 0, 1, 0, m_x),
  (9, .iload_n 1, 10, 0, 0, 0, m_x),
  (10, .invokestatic 353, 13, 0, 0, 0, m_Integer_bitCount),
  (13, .i2l, 14, 0, 0, 0, m_x),
  (14, .invokevirtual 287, 17, 7, 0, 0, m_Row_tell1),
  (17, .iload_n 1, 18, 0, 0, 0, m_x),
  (18, .ireturn, 19, 0, 0, 0, m_x)]
theorem dc_So_fits : ∀ E ∈ k_So_fits, xDc m_So_fits E := by decide +kernel
set_option maxRecDepth 20000 in
theorem ok_So_fits : ∀ E ∈ k_So_fits, xOk m_So_fits E := xok_of dc_So_fits (xfc trivial (xfc ⟨ml_So_373, kd_So_likelyOnes⟩ (xfc trivial (xfc trivial (xfc fl_So_19 (xfc trivial (xfc ⟨ml_So_353, kd_Integer_bitCount⟩ (xfc trivial (xfc ⟨ml_So_287, kd_Row_tell1⟩ (xfc trivial (xfc trivial (xfn))))))))))))
theorem s_So_fits_0 (C : xCx) (r : List Value) (hp : xHp) (x : Nat) (a1 : Value) : (xV k_So_fits C 0 [.ref x, a1] r hp) = (True ∧ xV k_So_fits C 1 [.ref x, a1] (.ref x :: r) hp) := xVe _ _ _ _ _ _
theorem s_So_fits_1 (a : Nat) (l : Launch) (d b lo gz n0 s0 : Nat) (Po : Option Value → xHp → Prop) (L r : List Value) (hp : xHp) : (xV k_So_fits (l, d + 1, b, lo, gz, n0, s0, m_So_fits, Po) 1 L (.ref a :: r) hp) = (xO hp a 0 ∧ xcs r 8 ∧ xMi l d b lo gz m_So_likelyOnes [.ref a] hp (fun x hp' => xV k_So_fits (l, d + 1, b, lo, gz, n0, s0, m_So_fits, Po) 4 L (.int x :: r) hp')) := xVe _ _ _ _ _ _
theorem s_So_fits_4 (C : xCx) (r : List Value) (hp : xHp) (x : Int32) (a0 a1 : Value) : (xV k_So_fits C 4 [a0, a1] (.int x :: r) hp) = (1 < 2 ∧ xNl [a0, a1] 1 ∧ xV k_So_fits C 5 [a0, .int x] r hp) := xVe _ _ _ _ _ _
theorem s_So_fits_5 (C : xCx) (r : List Value) (hp : xHp) (x : Nat) (a1 : Value) : (xV k_So_fits C 5 [.ref x, a1] r hp) = (True ∧ xV k_So_fits C 6 [.ref x, a1] (.ref x :: r) hp) := xVe _ _ _ _ _ _
theorem s_So_fits_6 (a : Nat) (C : xCx) (L r : List Value) (hp : xHp) : (xV k_So_fits C 6 L (.ref a :: r) hp) = (xF hp a 0 1 (fun v => xV k_So_fits C 9 L (v :: r) hp)) := xVe _ _ _ _ _ _
theorem s_So_fits_9 (C : xCx) (r : List Value) (hp : xHp) (x : Int32) (a0 : Value) : (xV k_So_fits C 9 [a0, .int x] r hp) = (xV k_So_fits C 10 [a0, .int x] (.int x :: r) hp) := xVe _ _ _ _ _ _
theorem s_So_fits_10 (x0 : Int32) (l : Launch) (d b lo gz n0 s0 : Nat) (Po : Option Value → xHp → Prop) (L r : List Value) (hp : xHp) : (xV k_So_fits (l, d + 1, b, lo, gz, n0, s0, m_So_fits, Po) 10 L (.int x0 :: r) hp) = (1 ≤ List.length (.int x0 :: r) ∧ xcs r 8 ∧ xMi l d b lo gz m_Integer_bitCount [.int x0] hp (fun x hp' => xV k_So_fits (l, d + 1, b, lo, gz, n0, s0, m_So_fits, Po) 13 L (.int x :: r) hp')) := xVe _ _ _ _ _ _
theorem s_So_fits_13 (x : Int32) (C : xCx) (L r : List Value) (hp : xHp) : (xV k_So_fits C 13 L (.int x :: r) hp) = (xV k_So_fits C 14 L (.long x.toInt64 :: r) hp) := xVe _ _ _ _ _ _
theorem s_So_fits_14 (x0 : Int64) (a : Nat) (l : Launch) (d b lo gz n0 s0 : Nat) (Po : Option Value → xHp → Prop) (L r : List Value) (hp : xHp) : (xV k_So_fits (l, d + 1, b, lo, gz, n0, s0, m_So_fits, Po) 14 L (.long x0 :: .ref a :: r) hp) = (xO hp a 7 ∧ xcs r 8 ∧ xMv l d b lo gz m_Row_tell1 [.ref a, .long x0] hp (fun hp' => xV k_So_fits (l, d + 1, b, lo, gz, n0, s0, m_So_fits, Po) 17 L r hp')) := xVe _ _ _ _ _ _
theorem s_So_fits_17 (C : xCx) (r : List Value) (hp : xHp) (x : Int32) (a0 : Value) : (xV k_So_fits C 17 [a0, .int x] r hp) = (xV k_So_fits C 18 [a0, .int x] (.int x :: r) hp) := xVe _ _ _ _ _ _
theorem s_So_fits_18 (v : Int32) (l : Launch) (d b lo gz n0 s0 : Nat) (Po : Option Value → xHp → Prop) (L : List Value) (hp : xHp) : (xV k_So_fits (l, d, b, lo, gz, n0, s0, m_So_fits, Po) 18 L [.int v] hp) = (Po (some (.int v)) hp) := xVe _ _ _ _ _ _
theorem ml_So_379 : xLk "SunnyOnes" 379 m_So_suits := Or.inl (wg4 235 (by decide +kernel) rfl)
def k_So_likelyOnes : List xEC := [
  (0, .iconst 0, 1, 0, 0, 0, m_x),
  (1, .istore_n 1, 2, 0, 0, 0, m_x),
  (2, .iconst 0, 3, 0, 0, 0, m_x),
  (3, .istore_n 2, 4, 0, 0, 0, m_x),
  (4, .iload_n 2, 5, 0, 0, 0, m_x),
  (5, .aload_n 0, 6, 0, 0, 0, m_x),
  (6, .getfield 54, 9, 0, 6, 0, m_x),
  (9, .invokevirtual 150, 12, 3, 0, 0, m_Folk_size),
  (12, .if_icmp .ge 74, 15, 0, 86, 0, m_x),
  (15, .iconst 1, 16, 0, 0, 0, m_x),
  (16, .istore_n 3, 17, 0, 0, 0, m_x),
  (17, .iconst 0, 18, 0, 0, 0, m_x),
  (18, .istore 4, 20, 0, 0, 0, m_x),
  (20, .iload 4, 22, 0, 0, 0, m_x),
  (22, .aload_n 0, 23, 0, 0, 0, m_x),
  (23, .getfield 80, 26, 0, 11, 0, m_x),
  (26, .invokevirtual 341, 29, 2, 0, 0, m_Clues_size),
  (29, .if_icmp .ge 37, 32, 0, 66, 0, m_x),
  (32, .iload_n 3, 33, 0, 0, 0, m_x),
  (33, .ifCond .eq 33, 36, 0, 66, 0, m_x),
  (36, .aload_n 0, 37, 0, 0, 0, m_x),
  (37, .iload_n 2, 38, 0, 0, 0, m_x),
  (38, .aload_n 0, 39, 0, 0, 0, m_x),
  (39, .getfield 80, 42, 0, 11, 0, m_x),
  (42, .iload 4, 44, 0, 0, 0, m_x),
  (44, .invokevirtual 361, 47, 2, 0, 0, m_Clues_first),
  (47, .aload_n 0, 48, 0, 0, 0, m_x),
  (48, .getfield 80, 51, 0, 11, 0, m_x),
  (51, .iload 4, 53, 0, 0, 0, m_x),
  (53, .invokevirtual 367, 56, 2, 0, 0, m_Clues_second),
  (56, .invokevirtual 379, 59, 0, 0, 0, m_So_suits),
  (59, .istore_n 3, 60, 0, 0, 0, m_x),
  (60, .iinc 4 1, 63, 0, 0, 0, m_x),
  (63, .goto (-43), 66, 0, 20, 0, m_x),
  (66, .iload_n 1, 67, 0, 0, 0, m_x),
  (67, .iload_n 3, 68, 0, 0, 0, m_x),
  (68, .ifCond .eq 9, 71, 0, 77, 0, m_x),
  (71, .iconst 1, 72, 0, 0, 0, m_x),
  (72, .iload_n 2, 73, 0, 0, 0, m_x),
  (73, .ishl, 74, 0, 0, 0, m_x),
  (74, .goto 4, 77, 0, 78, 0, m_x),
  (77, .iconst 0, 78, 0, 0, 0, m_x),
  (78, .ior, 79, 0, 0, 0, m_x),
  (79, .istore_n 1, 80, 0, 0, 0, m_x),
  (80, .iinc 2 1, 83, 0, 0, 0, m_x),
  (83, .goto (-79), 86, 0, 4, 0, m_x),
  (86, .iload_n 1, 87, 0, 0, 0, m_x),
  (87, .ireturn, 88, 0, 0, 0, m_x)]
theorem dc_So_likelyOnes : ∀ E ∈ k_So_likelyOnes, xDc m_So_likelyOnes E := by decide +kernel
set_option maxRecDepth 20000 in
theorem ok_So_likelyOnes : ∀ E ∈ k_So_likelyOnes, xOk m_So_likelyOnes E := xok_of dc_So_likelyOnes (xfc trivial (xfc trivial (xfc trivial (xfc trivial (xfc trivial (xfc trivial (xfc fl_So_54 (xfc ⟨ml_So_150, kd_Folk_size⟩ (xfc (show ((12 : Nat) : Int) + (74) = ((86 : Nat) : Int) from by decide) (xfc trivial (xfc trivial (xfc trivial (xfc trivial (xfc trivial (xfc trivial (xfc fl_So_80 (xfc ⟨ml_So_341, kd_Clues_size⟩ (xfc (show ((29 : Nat) : Int) + (37) = ((66 : Nat) : Int) from by decide) (xfc trivial (xfc (show ((33 : Nat) : Int) + (33) = ((66 : Nat) : Int) from by decide) (xfc trivial (xfc trivial (xfc trivial (xfc fl_So_80 (xfc trivial (xfc ⟨ml_So_361, kd_Clues_first⟩ (xfc trivial (xfc fl_So_80 (xfc trivial (xfc ⟨ml_So_367, kd_Clues_second⟩ (xfc ⟨ml_So_379, kd_So_suits⟩ (xfc trivial (xfc trivial (xfc (show ((63 : Nat) : Int) + (-43) = ((20 : Nat) : Int) from by decide) (xfc trivial (xfc trivial (xfc (show ((68 : Nat) : Int) + (9) = ((77 : Nat) : Int) from by decide) (xfc trivial (xfc trivial (xfc trivial (xfc (show ((74 : Nat) : Int) + (4) = ((78 : Nat) : Int) from by decide) (xfc trivial (xfc trivial (xfc trivial (xfc trivial (xfc (show ((83 : Nat) : Int) + (-79) = ((4 : Nat) : Int) from by decide) (xfc trivial (xfc trivial (xfn)))))))))))))))))))))))))))))))))))))))))))))))))
theorem s_So_likelyOnes_0  (C : xCx) (L r : List Value) (hp : xHp) : (xV k_So_likelyOnes C 0 L (r) hp) = (xV k_So_likelyOnes C 1 L (.int (0) :: r) hp) := xVe _ _ _ _ _ _
theorem s_So_likelyOnes_1 (C : xCx) (r : List Value) (hp : xHp) (x : Int32) (a0 a1 a2 a3 a4 : Value) : (xV k_So_likelyOnes C 1 [a0, a1, a2, a3, a4] (.int x :: r) hp) = (1 < 5 ∧ xNl [a0, a1, a2, a3, a4] 1 ∧ xV k_So_likelyOnes C 2 [a0, .int x, a2, a3, a4] r hp) := xVe _ _ _ _ _ _
theorem s_So_likelyOnes_2  (C : xCx) (L r : List Value) (hp : xHp) : (xV k_So_likelyOnes C 2 L (r) hp) = (xV k_So_likelyOnes C 3 L (.int (0) :: r) hp) := xVe _ _ _ _ _ _
theorem s_So_likelyOnes_3 (C : xCx) (r : List Value) (hp : xHp) (x : Int32) (a0 a1 a2 a3 a4 : Value) : (xV k_So_likelyOnes C 3 [a0, a1, a2, a3, a4] (.int x :: r) hp) = (2 < 5 ∧ xNl [a0, a1, a2, a3, a4] 2 ∧ xV k_So_likelyOnes C 4 [a0, a1, .int x, a3, a4] r hp) := xVe _ _ _ _ _ _
theorem s_So_likelyOnes_4 (C : xCx) (r : List Value) (hp : xHp) (x : Int32) (a0 a1 a3 a4 : Value) : (xV k_So_likelyOnes C 4 [a0, a1, .int x, a3, a4] r hp) = (xV k_So_likelyOnes C 5 [a0, a1, .int x, a3, a4] (.int x :: r) hp) := xVe _ _ _ _ _ _
theorem s_So_likelyOnes_5 (C : xCx) (r : List Value) (hp : xHp) (x : Nat) (a1 a2 a3 a4 : Value) : (xV k_So_likelyOnes C 5 [.ref x, a1, a2, a3, a4] r hp) = (True ∧ xV k_So_likelyOnes C 6 [.ref x, a1, a2, a3, a4] (.ref x :: r) hp) := xVe _ _ _ _ _ _
theorem s_So_likelyOnes_6 (a : Nat) (C : xCx) (L r : List Value) (hp : xHp) : (xV k_So_likelyOnes C 6 L (.ref a :: r) hp) = (xF hp a 0 6 (fun v => xV k_So_likelyOnes C 9 L (v :: r) hp)) := xVe _ _ _ _ _ _
theorem s_So_likelyOnes_9 (a : Nat) (l : Launch) (d b lo gz n0 s0 : Nat) (Po : Option Value → xHp → Prop) (L r : List Value) (hp : xHp) : (xV k_So_likelyOnes (l, d + 1, b, lo, gz, n0, s0, m_So_likelyOnes, Po) 9 L (.ref a :: r) hp) = (xO hp a 3 ∧ xcs r 8 ∧ xMi l d b lo gz m_Folk_size [.ref a] hp (fun x hp' => xV k_So_likelyOnes (l, d + 1, b, lo, gz, n0, s0, m_So_likelyOnes, Po) 12 L (.int x :: r) hp')) := xVe _ _ _ _ _ _
theorem s_So_likelyOnes_12 (x y : Int32) (C : xCx) (L r : List Value) (hp : xHp) : (xV k_So_likelyOnes C 12 L (.int y :: .int x :: r) hp) = (((y ≤ x → xV k_So_likelyOnes C 86 L r hp) ∧ (¬ y ≤ x → xV k_So_likelyOnes C 15 L r hp))) := xVe _ _ _ _ _ _
theorem s_So_likelyOnes_15  (C : xCx) (L r : List Value) (hp : xHp) : (xV k_So_likelyOnes C 15 L (r) hp) = (xV k_So_likelyOnes C 16 L (.int (1) :: r) hp) := xVe _ _ _ _ _ _
theorem s_So_likelyOnes_16 (C : xCx) (r : List Value) (hp : xHp) (x : Int32) (a0 a1 a2 a3 a4 : Value) : (xV k_So_likelyOnes C 16 [a0, a1, a2, a3, a4] (.int x :: r) hp) = (3 < 5 ∧ xNl [a0, a1, a2, a3, a4] 3 ∧ xV k_So_likelyOnes C 17 [a0, a1, a2, .int x, a4] r hp) := xVe _ _ _ _ _ _
theorem s_So_likelyOnes_17  (C : xCx) (L r : List Value) (hp : xHp) : (xV k_So_likelyOnes C 17 L (r) hp) = (xV k_So_likelyOnes C 18 L (.int (0) :: r) hp) := xVe _ _ _ _ _ _
theorem s_So_likelyOnes_18 (C : xCx) (r : List Value) (hp : xHp) (x : Int32) (a0 a1 a2 a3 a4 : Value) : (xV k_So_likelyOnes C 18 [a0, a1, a2, a3, a4] (.int x :: r) hp) = (4 < 5 ∧ xNl [a0, a1, a2, a3, a4] 4 ∧ xV k_So_likelyOnes C 20 [a0, a1, a2, a3, .int x] r hp) := xVe _ _ _ _ _ _
theorem s_So_likelyOnes_20 (C : xCx) (r : List Value) (hp : xHp) (x : Int32) (a0 a1 a2 a3 : Value) : (xV k_So_likelyOnes C 20 [a0, a1, a2, a3, .int x] r hp) = (xV k_So_likelyOnes C 22 [a0, a1, a2, a3, .int x] (.int x :: r) hp) := xVe _ _ _ _ _ _
theorem s_So_likelyOnes_22 (C : xCx) (r : List Value) (hp : xHp) (x : Nat) (a1 a2 a3 a4 : Value) : (xV k_So_likelyOnes C 22 [.ref x, a1, a2, a3, a4] r hp) = (True ∧ xV k_So_likelyOnes C 23 [.ref x, a1, a2, a3, a4] (.ref x :: r) hp) := xVe _ _ _ _ _ _
theorem s_So_likelyOnes_23 (a : Nat) (C : xCx) (L r : List Value) (hp : xHp) : (xV k_So_likelyOnes C 23 L (.ref a :: r) hp) = (xF hp a 0 11 (fun v => xV k_So_likelyOnes C 26 L (v :: r) hp)) := xVe _ _ _ _ _ _
theorem s_So_likelyOnes_26 (a : Nat) (l : Launch) (d b lo gz n0 s0 : Nat) (Po : Option Value → xHp → Prop) (L r : List Value) (hp : xHp) : (xV k_So_likelyOnes (l, d + 1, b, lo, gz, n0, s0, m_So_likelyOnes, Po) 26 L (.ref a :: r) hp) = (xO hp a 2 ∧ xcs r 8 ∧ xMi l d b lo gz m_Clues_size [.ref a] hp (fun x hp' => xV k_So_likelyOnes (l, d + 1, b, lo, gz, n0, s0, m_So_likelyOnes, Po) 29 L (.int x :: r) hp')) := xVe _ _ _ _ _ _
theorem s_So_likelyOnes_29 (x y : Int32) (C : xCx) (L r : List Value) (hp : xHp) : (xV k_So_likelyOnes C 29 L (.int y :: .int x :: r) hp) = (((y ≤ x → xV k_So_likelyOnes C 66 L r hp) ∧ (¬ y ≤ x → xV k_So_likelyOnes C 32 L r hp))) := xVe _ _ _ _ _ _
theorem s_So_likelyOnes_32 (C : xCx) (r : List Value) (hp : xHp) (x : Int32) (a0 a1 a2 a4 : Value) : (xV k_So_likelyOnes C 32 [a0, a1, a2, .int x, a4] r hp) = (xV k_So_likelyOnes C 33 [a0, a1, a2, .int x, a4] (.int x :: r) hp) := xVe _ _ _ _ _ _
theorem s_So_likelyOnes_33 (x : Int32) (C : xCx) (L r : List Value) (hp : xHp) : (xV k_So_likelyOnes C 33 L (.int x :: r) hp) = (((x = 0 → xV k_So_likelyOnes C 66 L r hp) ∧ (¬ x = 0 → xV k_So_likelyOnes C 36 L r hp))) := xVe _ _ _ _ _ _
theorem s_So_likelyOnes_36 (C : xCx) (r : List Value) (hp : xHp) (x : Nat) (a1 a2 a3 a4 : Value) : (xV k_So_likelyOnes C 36 [.ref x, a1, a2, a3, a4] r hp) = (True ∧ xV k_So_likelyOnes C 37 [.ref x, a1, a2, a3, a4] (.ref x :: r) hp) := xVe _ _ _ _ _ _
theorem s_So_likelyOnes_37 (C : xCx) (r : List Value) (hp : xHp) (x : Int32) (a0 a1 a3 a4 : Value) : (xV k_So_likelyOnes C 37 [a0, a1, .int x, a3, a4] r hp) = (xV k_So_likelyOnes C 38 [a0, a1, .int x, a3, a4] (.int x :: r) hp) := xVe _ _ _ _ _ _
theorem s_So_likelyOnes_38 (C : xCx) (r : List Value) (hp : xHp) (x : Nat) (a1 a2 a3 a4 : Value) : (xV k_So_likelyOnes C 38 [.ref x, a1, a2, a3, a4] r hp) = (True ∧ xV k_So_likelyOnes C 39 [.ref x, a1, a2, a3, a4] (.ref x :: r) hp) := xVe _ _ _ _ _ _
theorem s_So_likelyOnes_39 (a : Nat) (C : xCx) (L r : List Value) (hp : xHp) : (xV k_So_likelyOnes C 39 L (.ref a :: r) hp) = (xF hp a 0 11 (fun v => xV k_So_likelyOnes C 42 L (v :: r) hp)) := xVe _ _ _ _ _ _
theorem s_So_likelyOnes_42 (C : xCx) (r : List Value) (hp : xHp) (x : Int32) (a0 a1 a2 a3 : Value) : (xV k_So_likelyOnes C 42 [a0, a1, a2, a3, .int x] r hp) = (xV k_So_likelyOnes C 44 [a0, a1, a2, a3, .int x] (.int x :: r) hp) := xVe _ _ _ _ _ _
theorem s_So_likelyOnes_44 (x0 : Int32) (a : Nat) (l : Launch) (d b lo gz n0 s0 : Nat) (Po : Option Value → xHp → Prop) (L r : List Value) (hp : xHp) : (xV k_So_likelyOnes (l, d + 1, b, lo, gz, n0, s0, m_So_likelyOnes, Po) 44 L (.int x0 :: .ref a :: r) hp) = (xO hp a 2 ∧ xcs r 8 ∧ xMi l d b lo gz m_Clues_first [.ref a, .int x0] hp (fun x hp' => xV k_So_likelyOnes (l, d + 1, b, lo, gz, n0, s0, m_So_likelyOnes, Po) 47 L (.int x :: r) hp')) := xVe _ _ _ _ _ _
theorem s_So_likelyOnes_47 (C : xCx) (r : List Value) (hp : xHp) (x : Nat) (a1 a2 a3 a4 : Value) : (xV k_So_likelyOnes C 47 [.ref x, a1, a2, a3, a4] r hp) = (True ∧ xV k_So_likelyOnes C 48 [.ref x, a1, a2, a3, a4] (.ref x :: r) hp) := xVe _ _ _ _ _ _
theorem s_So_likelyOnes_48 (a : Nat) (C : xCx) (L r : List Value) (hp : xHp) : (xV k_So_likelyOnes C 48 L (.ref a :: r) hp) = (xF hp a 0 11 (fun v => xV k_So_likelyOnes C 51 L (v :: r) hp)) := xVe _ _ _ _ _ _
theorem s_So_likelyOnes_51 (C : xCx) (r : List Value) (hp : xHp) (x : Int32) (a0 a1 a2 a3 : Value) : (xV k_So_likelyOnes C 51 [a0, a1, a2, a3, .int x] r hp) = (xV k_So_likelyOnes C 53 [a0, a1, a2, a3, .int x] (.int x :: r) hp) := xVe _ _ _ _ _ _
theorem s_So_likelyOnes_53 (x0 : Int32) (a : Nat) (l : Launch) (d b lo gz n0 s0 : Nat) (Po : Option Value → xHp → Prop) (L r : List Value) (hp : xHp) : (xV k_So_likelyOnes (l, d + 1, b, lo, gz, n0, s0, m_So_likelyOnes, Po) 53 L (.int x0 :: .ref a :: r) hp) = (xO hp a 2 ∧ xcs r 8 ∧ xMi l d b lo gz m_Clues_second [.ref a, .int x0] hp (fun x hp' => xV k_So_likelyOnes (l, d + 1, b, lo, gz, n0, s0, m_So_likelyOnes, Po) 56 L (.int x :: r) hp')) := xVe _ _ _ _ _ _
theorem s_So_likelyOnes_56 (x0 : Int32) (x1 : Int32) (x2 : Int32) (a : Nat) (l : Launch) (d b lo gz n0 s0 : Nat) (Po : Option Value → xHp → Prop) (L r : List Value) (hp : xHp) : (xV k_So_likelyOnes (l, d + 1, b, lo, gz, n0, s0, m_So_likelyOnes, Po) 56 L (.int x2 :: .int x1 :: .int x0 :: .ref a :: r) hp) = (xO hp a 0 ∧ xcs r 8 ∧ xMi l d b lo gz m_So_suits [.ref a, .int x0, .int x1, .int x2] hp (fun x hp' => xV k_So_likelyOnes (l, d + 1, b, lo, gz, n0, s0, m_So_likelyOnes, Po) 59 L (.int x :: r) hp')) := xVe _ _ _ _ _ _
theorem s_So_likelyOnes_59 (C : xCx) (r : List Value) (hp : xHp) (x : Int32) (a0 a1 a2 a3 a4 : Value) : (xV k_So_likelyOnes C 59 [a0, a1, a2, a3, a4] (.int x :: r) hp) = (3 < 5 ∧ xNl [a0, a1, a2, a3, a4] 3 ∧ xV k_So_likelyOnes C 60 [a0, a1, a2, .int x, a4] r hp) := xVe _ _ _ _ _ _
theorem s_So_likelyOnes_60 (C : xCx) (r : List Value) (hp : xHp) (x : Int32) (a0 a1 a2 a3 : Value) : (xV k_So_likelyOnes C 60 [a0, a1, a2, a3, .int x] r hp) = (xNl [a0, a1, a2, a3, .int x] 4 ∧ xV k_So_likelyOnes C 63 [a0, a1, a2, a3, .int (x + (1))] r hp) := xVe _ _ _ _ _ _
theorem s_So_likelyOnes_63 (C : xCx) (L r : List Value) (hp : xHp) : (xV k_So_likelyOnes C 63 L r hp) = (xV k_So_likelyOnes C 20 L r hp) := xVe _ _ _ _ _ _
theorem s_So_likelyOnes_66 (C : xCx) (r : List Value) (hp : xHp) (x : Int32) (a0 a2 a3 a4 : Value) : (xV k_So_likelyOnes C 66 [a0, .int x, a2, a3, a4] r hp) = (xV k_So_likelyOnes C 67 [a0, .int x, a2, a3, a4] (.int x :: r) hp) := xVe _ _ _ _ _ _
theorem s_So_likelyOnes_67 (C : xCx) (r : List Value) (hp : xHp) (x : Int32) (a0 a1 a2 a4 : Value) : (xV k_So_likelyOnes C 67 [a0, a1, a2, .int x, a4] r hp) = (xV k_So_likelyOnes C 68 [a0, a1, a2, .int x, a4] (.int x :: r) hp) := xVe _ _ _ _ _ _
theorem s_So_likelyOnes_68 (x : Int32) (C : xCx) (L r : List Value) (hp : xHp) : (xV k_So_likelyOnes C 68 L (.int x :: r) hp) = (((x = 0 → xV k_So_likelyOnes C 77 L r hp) ∧ (¬ x = 0 → xV k_So_likelyOnes C 71 L r hp))) := xVe _ _ _ _ _ _
theorem s_So_likelyOnes_71  (C : xCx) (L r : List Value) (hp : xHp) : (xV k_So_likelyOnes C 71 L (r) hp) = (xV k_So_likelyOnes C 72 L (.int (1) :: r) hp) := xVe _ _ _ _ _ _
theorem s_So_likelyOnes_72 (C : xCx) (r : List Value) (hp : xHp) (x : Int32) (a0 a1 a3 a4 : Value) : (xV k_So_likelyOnes C 72 [a0, a1, .int x, a3, a4] r hp) = (xV k_So_likelyOnes C 73 [a0, a1, .int x, a3, a4] (.int x :: r) hp) := xVe _ _ _ _ _ _
theorem s_So_likelyOnes_73 (x y : Int32) (C : xCx) (L r : List Value) (hp : xHp) : (xV k_So_likelyOnes C 73 L (.int y :: .int x :: r) hp) = (xV k_So_likelyOnes C 74 L (.int (x <<< (y &&& 31)) :: r) hp) := xVe _ _ _ _ _ _
theorem s_So_likelyOnes_74 (C : xCx) (L r : List Value) (hp : xHp) : (xV k_So_likelyOnes C 74 L r hp) = (xV k_So_likelyOnes C 78 L r hp) := xVe _ _ _ _ _ _
theorem s_So_likelyOnes_77  (C : xCx) (L r : List Value) (hp : xHp) : (xV k_So_likelyOnes C 77 L (r) hp) = (xV k_So_likelyOnes C 78 L (.int (0) :: r) hp) := xVe _ _ _ _ _ _
theorem s_So_likelyOnes_78 (x y : Int32) (C : xCx) (L r : List Value) (hp : xHp) : (xV k_So_likelyOnes C 78 L (.int y :: .int x :: r) hp) = (xV k_So_likelyOnes C 79 L (.int (x ||| y) :: r) hp) := xVe _ _ _ _ _ _
theorem s_So_likelyOnes_79 (C : xCx) (r : List Value) (hp : xHp) (x : Int32) (a0 a1 a2 a3 a4 : Value) : (xV k_So_likelyOnes C 79 [a0, a1, a2, a3, a4] (.int x :: r) hp) = (1 < 5 ∧ xNl [a0, a1, a2, a3, a4] 1 ∧ xV k_So_likelyOnes C 80 [a0, .int x, a2, a3, a4] r hp) := xVe _ _ _ _ _ _
theorem s_So_likelyOnes_80 (C : xCx) (r : List Value) (hp : xHp) (x : Int32) (a0 a1 a3 a4 : Value) : (xV k_So_likelyOnes C 80 [a0, a1, .int x, a3, a4] r hp) = (xNl [a0, a1, .int x, a3, a4] 2 ∧ xV k_So_likelyOnes C 83 [a0, a1, .int (x + (1)), a3, a4] r hp) := xVe _ _ _ _ _ _
theorem s_So_likelyOnes_83 (C : xCx) (L r : List Value) (hp : xHp) : (xV k_So_likelyOnes C 83 L r hp) = (xV k_So_likelyOnes C 4 L r hp) := xVe _ _ _ _ _ _
theorem s_So_likelyOnes_86 (C : xCx) (r : List Value) (hp : xHp) (x : Int32) (a0 a2 a3 a4 : Value) : (xV k_So_likelyOnes C 86 [a0, .int x, a2, a3, a4] r hp) = (xV k_So_likelyOnes C 87 [a0, .int x, a2, a3, a4] (.int x :: r) hp) := xVe _ _ _ _ _ _
theorem s_So_likelyOnes_87 (v : Int32) (l : Launch) (d b lo gz n0 s0 : Nat) (Po : Option Value → xHp → Prop) (L : List Value) (hp : xHp) : (xV k_So_likelyOnes (l, d, b, lo, gz, n0, s0, m_So_likelyOnes, Po) 87 L [.int v] hp) = (Po (some (.int v)) hp) := xVe _ _ _ _ _ _
theorem ml_So_382 : xLk "SunnyOnes" 382 m_Folk_othersAt := Or.inl (wg4 239 (by decide +kernel) rfl)
def k_So_suits : List xEC := [
  (0, .iload_n 2, 1, 0, 0, 0, m_x),
  (1, .tableswitch 154 0 4 #[35, 53, 71, 89, 111], 36, 0, 0, 0, m_x),
  (36, .aload_n 0, 37, 0, 0, 0, m_x),
  (37, .getfield 54, 40, 0, 6, 0, m_x),
  (40, .iload_n 1, 41, 0, 0, 0, m_x),
  (41, .invokevirtual 185, 44, 3, 0, 0, m_Folk_age),
  (44, .iload_n 3, 45, 0, 0, 0, m_x),
  (45, .if_icmp .lt 7, 48, 0, 52, 0, m_x),
  (48, .iconst 1, 49, 0, 0, 0, m_x),
  (49, .goto 4, 52, 0, 53, 0, m_x),
  (52, .iconst 0, 53, 0, 0, 0, m_x),
  (53, .ireturn, 54, 0, 0, 0, m_x),
  (54, .aload_n 0, 55, 0, 0, 0, m_x),
  (55, .getfield 54, 58, 0, 6, 0, m_x),
  (58, .iload_n 1, 59, 0, 0, 0, m_x),
  (59, .invokevirtual 188, 62, 3, 0, 0, m_Folk_spot),
  (62, .iload_n 3, 63, 0, 0, 0, m_x),
  (63, .if_icmp .ne 7, 66, 0, 70, 0, m_x),
  (66, .iconst 1, 67, 0, 0, 0, m_x),
  (67, .goto 4, 70, 0, 71, 0, m_x),
  (70, .iconst 0, 71, 0, 0, 0, m_x),
  (71, .ireturn, 72, 0, 0, 0, m_x),
  (72, .aload_n 0, 73, 0, 0, 0, m_x),
  (73, .getfield 54, 76, 0, 6, 0, m_x),
  (76, .iload_n 1, 77, 0, 0, 0, m_x),
  (77, .invokevirtual 191, 80, 3, 0, 0, m_Folk_sins),
  (80, .iload_n 3, 81, 0, 0, 0, m_x),
  (81, .if_icmp .lt 7, 84, 0, 88, 0, m_x),
  (84, .iconst 1, 85, 0, 0, 0, m_x),
  (85, .goto 4, 88, 0, 89, 0, m_x),
  (88, .iconst 0, 89, 0, 0, 0, m_x),
  (89, .ireturn, 90, 0, 0, 0, m_x),
  (90, .aload_n 0, 91, 0, 0, 0, m_x),
  (91, .getfield 47, 94, 0, 5, 0, m_x),
  (94, .aload_n 0, 95, 0, 0, 0, m_x),
  (95, .getfield 54, 98, 0, 6, 0, m_x),
  (98, .iload_n 1, 99, 0, 0, 0, m_x),
  (99, .invokevirtual 194, 102, 9, 0, 0, m_Sun_hoursOf),
  (102, .iload_n 3, 103, 0, 0, 0, m_x),
  (103, .if_icmp .lt 7, 106, 0, 110, 0, m_x),
  (106, .iconst 1, 107, 0, 0, 0, m_x),
  (107, .goto 4, 110, 0, 111, 0, m_x),
  (110, .iconst 0, 111, 0, 0, 0, m_x),
  (111, .ireturn, 112, 0, 0, 0, m_x),
  (112, .aload_n 0, 113, 0, 0, 0, m_x),
  (113, .getfield 54, 116, 0, 6, 0, m_x),
  (116, .aload_n 0, 117, 0, 0, 0, m_x),
  (117, .getfield 54, 120, 0, 6, 0, m_x),
  (120, .iload_n 1, 121, 0, 0, 0, m_x),
  (121, .invokevirtual 188, 124, 3, 0, 0, m_Folk_spot),
  (124, .iload_n 1, 125, 0, 0, 0, m_x),
  (125, .invokevirtual 382, 128, 3, 0, 0, m_Folk_othersAt),
  (128, .ifCond .ne 7, 131, 0, 135, 0, m_x),
  (131, .iconst 1, 132, 0, 0, 0, m_x),
  (132, .goto 4, 135, 0, 136, 0, m_x),
  (135, .iconst 0, 136, 0, 0, 0, m_x),
  (136, .iload_n 3, 137, 0, 0, 0, m_x),
  (137, .iconst 1, 138, 0, 0, 0, m_x),
  (138, .if_icmp .ne 7, 141, 0, 145, 0, m_x),
  (141, .iconst 1, 142, 0, 0, 0, m_x),
  (142, .goto 4, 145, 0, 146, 0, m_x),
  (145, .iconst 0, 146, 0, 0, 0, m_x),
  (146, .if_icmp .ne 7, 149, 0, 153, 0, m_x),
  (149, .iconst 1, 150, 0, 0, 0, m_x),
  (150, .goto 4, 153, 0, 154, 0, m_x),
  (153, .iconst 0, 154, 0, 0, 0, m_x),
  (154, .ireturn, 155, 0, 0, 0, m_x),
  (155, .iconst 0, 156, 0, 0, 0, m_x),
  (156, .ireturn, 157, 0, 0, 0, m_x)]
theorem dc_So_suits : ∀ E ∈ k_So_suits, xDc m_So_suits E := by decide +kernel
set_option maxRecDepth 20000 in
theorem ok_So_suits : ∀ E ∈ k_So_suits, xOk m_So_suits E := xok_of dc_So_suits (xfc trivial (xfc (show (-2147483648 : Int) ≤ (0) ∧ (0) + ((#[35, 53, 71, 89, 111] : Array Int).size : Int) ≤ 2147483648 ∧ (4 : Int) = (0) + ((#[35, 53, 71, 89, 111] : Array Int).size : Int) - 1 ∧ (0 : Int) ≤ ((1 : Nat) : Int) + (154) ∧ ∀ o ∈ (#[35, 53, 71, 89, 111] : Array Int).toList, (0 : Int) ≤ ((1 : Nat) : Int) + o from by decide) (xfc trivial (xfc fl_So_54 (xfc trivial (xfc ⟨ml_So_185, kd_Folk_age⟩ (xfc trivial (xfc (show ((45 : Nat) : Int) + (7) = ((52 : Nat) : Int) from by decide) (xfc trivial (xfc (show ((49 : Nat) : Int) + (4) = ((53 : Nat) : Int) from by decide) (xfc trivial (xfc trivial (xfc trivial (xfc fl_So_54 (xfc trivial (xfc ⟨ml_So_188, kd_Folk_spot⟩ (xfc trivial (xfc (show ((63 : Nat) : Int) + (7) = ((70 : Nat) : Int) from by decide) (xfc trivial (xfc (show ((67 : Nat) : Int) + (4) = ((71 : Nat) : Int) from by decide) (xfc trivial (xfc trivial (xfc trivial (xfc fl_So_54 (xfc trivial (xfc ⟨ml_So_191, kd_Folk_sins⟩ (xfc trivial (xfc (show ((81 : Nat) : Int) + (7) = ((88 : Nat) : Int) from by decide) (xfc trivial (xfc (show ((85 : Nat) : Int) + (4) = ((89 : Nat) : Int) from by decide) (xfc trivial (xfc trivial (xfc trivial (xfc fl_So_47 (xfc trivial (xfc fl_So_54 (xfc trivial (xfc ⟨ml_So_194, kd_Sun_hoursOf⟩ (xfc trivial (xfc (show ((103 : Nat) : Int) + (7) = ((110 : Nat) : Int) from by decide) (xfc trivial (xfc (show ((107 : Nat) : Int) + (4) = ((111 : Nat) : Int) from by decide) (xfc trivial (xfc trivial (xfc trivial (xfc fl_So_54 (xfc trivial (xfc fl_So_54 (xfc trivial (xfc ⟨ml_So_188, kd_Folk_spot⟩ (xfc trivial (xfc ⟨ml_So_382, kd_Folk_othersAt⟩ (xfc (show ((128 : Nat) : Int) + (7) = ((135 : Nat) : Int) from by decide) (xfc trivial (xfc (show ((132 : Nat) : Int) + (4) = ((136 : Nat) : Int) from by decide) (xfc trivial (xfc trivial (xfc trivial (xfc (show ((138 : Nat) : Int) + (7) = ((145 : Nat) : Int) from by decide) (xfc trivial (xfc (show ((142 : Nat) : Int) + (4) = ((146 : Nat) : Int) from by decide) (xfc trivial (xfc (show ((146 : Nat) : Int) + (7) = ((153 : Nat) : Int) from by decide) (xfc trivial (xfc (show ((150 : Nat) : Int) + (4) = ((154 : Nat) : Int) from by decide) (xfc trivial (xfc trivial (xfc trivial (xfc trivial (xfn))))))))))))))))))))))))))))))))))))))))))))))))))))))))))))))))))))))
theorem s_So_suits_0 (C : xCx) (r : List Value) (hp : xHp) (x : Int32) (a0 a1 a3 : Value) : (xV k_So_suits C 0 [a0, a1, .int x, a3] r hp) = (xV k_So_suits C 1 [a0, a1, .int x, a3] (.int x :: r) hp) := xVe _ _ _ _ _ _
theorem s_So_suits_1 (x : Int32) (C : xCx) (L r : List Value) (hp : xHp) : (xV k_So_suits C 1 L (.int x :: r) hp) = (((x = (0) → xV k_So_suits C 36 L r hp) ∧ (¬ x = (0) → ((x = (1) → xV k_So_suits C 54 L r hp) ∧ (¬ x = (1) → ((x = (2) → xV k_So_suits C 72 L r hp) ∧ (¬ x = (2) → ((x = (3) → xV k_So_suits C 90 L r hp) ∧ (¬ x = (3) → ((x = (4) → xV k_So_suits C 112 L r hp) ∧ (¬ x = (4) → xV k_So_suits C 155 L r hp))))))))))) := xVe _ _ _ _ _ _
theorem s_So_suits_36 (C : xCx) (r : List Value) (hp : xHp) (x : Nat) (a1 a2 a3 : Value) : (xV k_So_suits C 36 [.ref x, a1, a2, a3] r hp) = (True ∧ xV k_So_suits C 37 [.ref x, a1, a2, a3] (.ref x :: r) hp) := xVe _ _ _ _ _ _
theorem s_So_suits_37 (a : Nat) (C : xCx) (L r : List Value) (hp : xHp) : (xV k_So_suits C 37 L (.ref a :: r) hp) = (xF hp a 0 6 (fun v => xV k_So_suits C 40 L (v :: r) hp)) := xVe _ _ _ _ _ _
theorem s_So_suits_40 (C : xCx) (r : List Value) (hp : xHp) (x : Int32) (a0 a2 a3 : Value) : (xV k_So_suits C 40 [a0, .int x, a2, a3] r hp) = (xV k_So_suits C 41 [a0, .int x, a2, a3] (.int x :: r) hp) := xVe _ _ _ _ _ _
theorem s_So_suits_41 (x0 : Int32) (a : Nat) (l : Launch) (d b lo gz n0 s0 : Nat) (Po : Option Value → xHp → Prop) (L r : List Value) (hp : xHp) : (xV k_So_suits (l, d + 1, b, lo, gz, n0, s0, m_So_suits, Po) 41 L (.int x0 :: .ref a :: r) hp) = (xO hp a 3 ∧ xcs r 8 ∧ xMi l d b lo gz m_Folk_age [.ref a, .int x0] hp (fun x hp' => xV k_So_suits (l, d + 1, b, lo, gz, n0, s0, m_So_suits, Po) 44 L (.int x :: r) hp')) := xVe _ _ _ _ _ _
theorem s_So_suits_44 (C : xCx) (r : List Value) (hp : xHp) (x : Int32) (a0 a1 a2 : Value) : (xV k_So_suits C 44 [a0, a1, a2, .int x] r hp) = (xV k_So_suits C 45 [a0, a1, a2, .int x] (.int x :: r) hp) := xVe _ _ _ _ _ _
theorem s_So_suits_45 (x y : Int32) (C : xCx) (L r : List Value) (hp : xHp) : (xV k_So_suits C 45 L (.int y :: .int x :: r) hp) = (((x < y → xV k_So_suits C 52 L r hp) ∧ (¬ x < y → xV k_So_suits C 48 L r hp))) := xVe _ _ _ _ _ _
theorem s_So_suits_48  (C : xCx) (L r : List Value) (hp : xHp) : (xV k_So_suits C 48 L (r) hp) = (xV k_So_suits C 49 L (.int (1) :: r) hp) := xVe _ _ _ _ _ _
theorem s_So_suits_49 (C : xCx) (L r : List Value) (hp : xHp) : (xV k_So_suits C 49 L r hp) = (xV k_So_suits C 53 L r hp) := xVe _ _ _ _ _ _
theorem s_So_suits_52  (C : xCx) (L r : List Value) (hp : xHp) : (xV k_So_suits C 52 L (r) hp) = (xV k_So_suits C 53 L (.int (0) :: r) hp) := xVe _ _ _ _ _ _
theorem s_So_suits_53 (v : Int32) (l : Launch) (d b lo gz n0 s0 : Nat) (Po : Option Value → xHp → Prop) (L : List Value) (hp : xHp) : (xV k_So_suits (l, d, b, lo, gz, n0, s0, m_So_suits, Po) 53 L [.int v] hp) = ((v = 0 ∨ v = 1) ∧ Po (some (.int v)) hp) := xVe _ _ _ _ _ _
theorem s_So_suits_54 (C : xCx) (r : List Value) (hp : xHp) (x : Nat) (a1 a2 a3 : Value) : (xV k_So_suits C 54 [.ref x, a1, a2, a3] r hp) = (True ∧ xV k_So_suits C 55 [.ref x, a1, a2, a3] (.ref x :: r) hp) := xVe _ _ _ _ _ _
theorem s_So_suits_55 (a : Nat) (C : xCx) (L r : List Value) (hp : xHp) : (xV k_So_suits C 55 L (.ref a :: r) hp) = (xF hp a 0 6 (fun v => xV k_So_suits C 58 L (v :: r) hp)) := xVe _ _ _ _ _ _
theorem s_So_suits_58 (C : xCx) (r : List Value) (hp : xHp) (x : Int32) (a0 a2 a3 : Value) : (xV k_So_suits C 58 [a0, .int x, a2, a3] r hp) = (xV k_So_suits C 59 [a0, .int x, a2, a3] (.int x :: r) hp) := xVe _ _ _ _ _ _
theorem s_So_suits_59 (x0 : Int32) (a : Nat) (l : Launch) (d b lo gz n0 s0 : Nat) (Po : Option Value → xHp → Prop) (L r : List Value) (hp : xHp) : (xV k_So_suits (l, d + 1, b, lo, gz, n0, s0, m_So_suits, Po) 59 L (.int x0 :: .ref a :: r) hp) = (xO hp a 3 ∧ xcs r 8 ∧ xMi l d b lo gz m_Folk_spot [.ref a, .int x0] hp (fun x hp' => xV k_So_suits (l, d + 1, b, lo, gz, n0, s0, m_So_suits, Po) 62 L (.int x :: r) hp')) := xVe _ _ _ _ _ _
theorem s_So_suits_62 (C : xCx) (r : List Value) (hp : xHp) (x : Int32) (a0 a1 a2 : Value) : (xV k_So_suits C 62 [a0, a1, a2, .int x] r hp) = (xV k_So_suits C 63 [a0, a1, a2, .int x] (.int x :: r) hp) := xVe _ _ _ _ _ _
theorem s_So_suits_63 (x y : Int32) (C : xCx) (L r : List Value) (hp : xHp) : (xV k_So_suits C 63 L (.int y :: .int x :: r) hp) = (((¬ x = y → xV k_So_suits C 70 L r hp) ∧ (x = y → xV k_So_suits C 66 L r hp))) := xVe _ _ _ _ _ _
theorem s_So_suits_66  (C : xCx) (L r : List Value) (hp : xHp) : (xV k_So_suits C 66 L (r) hp) = (xV k_So_suits C 67 L (.int (1) :: r) hp) := xVe _ _ _ _ _ _
theorem s_So_suits_67 (C : xCx) (L r : List Value) (hp : xHp) : (xV k_So_suits C 67 L r hp) = (xV k_So_suits C 71 L r hp) := xVe _ _ _ _ _ _
theorem s_So_suits_70  (C : xCx) (L r : List Value) (hp : xHp) : (xV k_So_suits C 70 L (r) hp) = (xV k_So_suits C 71 L (.int (0) :: r) hp) := xVe _ _ _ _ _ _
theorem s_So_suits_71 (v : Int32) (l : Launch) (d b lo gz n0 s0 : Nat) (Po : Option Value → xHp → Prop) (L : List Value) (hp : xHp) : (xV k_So_suits (l, d, b, lo, gz, n0, s0, m_So_suits, Po) 71 L [.int v] hp) = ((v = 0 ∨ v = 1) ∧ Po (some (.int v)) hp) := xVe _ _ _ _ _ _
theorem s_So_suits_72 (C : xCx) (r : List Value) (hp : xHp) (x : Nat) (a1 a2 a3 : Value) : (xV k_So_suits C 72 [.ref x, a1, a2, a3] r hp) = (True ∧ xV k_So_suits C 73 [.ref x, a1, a2, a3] (.ref x :: r) hp) := xVe _ _ _ _ _ _
theorem s_So_suits_73 (a : Nat) (C : xCx) (L r : List Value) (hp : xHp) : (xV k_So_suits C 73 L (.ref a :: r) hp) = (xF hp a 0 6 (fun v => xV k_So_suits C 76 L (v :: r) hp)) := xVe _ _ _ _ _ _
theorem s_So_suits_76 (C : xCx) (r : List Value) (hp : xHp) (x : Int32) (a0 a2 a3 : Value) : (xV k_So_suits C 76 [a0, .int x, a2, a3] r hp) = (xV k_So_suits C 77 [a0, .int x, a2, a3] (.int x :: r) hp) := xVe _ _ _ _ _ _
theorem s_So_suits_77 (x0 : Int32) (a : Nat) (l : Launch) (d b lo gz n0 s0 : Nat) (Po : Option Value → xHp → Prop) (L r : List Value) (hp : xHp) : (xV k_So_suits (l, d + 1, b, lo, gz, n0, s0, m_So_suits, Po) 77 L (.int x0 :: .ref a :: r) hp) = (xO hp a 3 ∧ xcs r 8 ∧ xMi l d b lo gz m_Folk_sins [.ref a, .int x0] hp (fun x hp' => xV k_So_suits (l, d + 1, b, lo, gz, n0, s0, m_So_suits, Po) 80 L (.int x :: r) hp')) := xVe _ _ _ _ _ _
theorem s_So_suits_80 (C : xCx) (r : List Value) (hp : xHp) (x : Int32) (a0 a1 a2 : Value) : (xV k_So_suits C 80 [a0, a1, a2, .int x] r hp) = (xV k_So_suits C 81 [a0, a1, a2, .int x] (.int x :: r) hp) := xVe _ _ _ _ _ _
theorem s_So_suits_81 (x y : Int32) (C : xCx) (L r : List Value) (hp : xHp) : (xV k_So_suits C 81 L (.int y :: .int x :: r) hp) = (((x < y → xV k_So_suits C 88 L r hp) ∧ (¬ x < y → xV k_So_suits C 84 L r hp))) := xVe _ _ _ _ _ _
theorem s_So_suits_84  (C : xCx) (L r : List Value) (hp : xHp) : (xV k_So_suits C 84 L (r) hp) = (xV k_So_suits C 85 L (.int (1) :: r) hp) := xVe _ _ _ _ _ _
theorem s_So_suits_85 (C : xCx) (L r : List Value) (hp : xHp) : (xV k_So_suits C 85 L r hp) = (xV k_So_suits C 89 L r hp) := xVe _ _ _ _ _ _
theorem s_So_suits_88  (C : xCx) (L r : List Value) (hp : xHp) : (xV k_So_suits C 88 L (r) hp) = (xV k_So_suits C 89 L (.int (0) :: r) hp) := xVe _ _ _ _ _ _
theorem s_So_suits_89 (v : Int32) (l : Launch) (d b lo gz n0 s0 : Nat) (Po : Option Value → xHp → Prop) (L : List Value) (hp : xHp) : (xV k_So_suits (l, d, b, lo, gz, n0, s0, m_So_suits, Po) 89 L [.int v] hp) = ((v = 0 ∨ v = 1) ∧ Po (some (.int v)) hp) := xVe _ _ _ _ _ _
theorem s_So_suits_90 (C : xCx) (r : List Value) (hp : xHp) (x : Nat) (a1 a2 a3 : Value) : (xV k_So_suits C 90 [.ref x, a1, a2, a3] r hp) = (True ∧ xV k_So_suits C 91 [.ref x, a1, a2, a3] (.ref x :: r) hp) := xVe _ _ _ _ _ _
theorem s_So_suits_91 (a : Nat) (C : xCx) (L r : List Value) (hp : xHp) : (xV k_So_suits C 91 L (.ref a :: r) hp) = (xF hp a 0 5 (fun v => xV k_So_suits C 94 L (v :: r) hp)) := xVe _ _ _ _ _ _
theorem s_So_suits_94 (C : xCx) (r : List Value) (hp : xHp) (x : Nat) (a1 a2 a3 : Value) : (xV k_So_suits C 94 [.ref x, a1, a2, a3] r hp) = (True ∧ xV k_So_suits C 95 [.ref x, a1, a2, a3] (.ref x :: r) hp) := xVe _ _ _ _ _ _
theorem s_So_suits_95 (a : Nat) (C : xCx) (L r : List Value) (hp : xHp) : (xV k_So_suits C 95 L (.ref a :: r) hp) = (xF hp a 0 6 (fun v => xV k_So_suits C 98 L (v :: r) hp)) := xVe _ _ _ _ _ _
theorem s_So_suits_98 (C : xCx) (r : List Value) (hp : xHp) (x : Int32) (a0 a2 a3 : Value) : (xV k_So_suits C 98 [a0, .int x, a2, a3] r hp) = (xV k_So_suits C 99 [a0, .int x, a2, a3] (.int x :: r) hp) := xVe _ _ _ _ _ _
theorem s_So_suits_99 (x0 : Nat) (x1 : Int32) (a : Nat) (l : Launch) (d b lo gz n0 s0 : Nat) (Po : Option Value → xHp → Prop) (L r : List Value) (hp : xHp) : (xV k_So_suits (l, d + 1, b, lo, gz, n0, s0, m_So_suits, Po) 99 L (.int x1 :: .ref x0 :: .ref a :: r) hp) = (xO hp a 9 ∧ xcs r 8 ∧ xMi l d b lo gz m_Sun_hoursOf [.ref a, .ref x0, .int x1] hp (fun x hp' => xV k_So_suits (l, d + 1, b, lo, gz, n0, s0, m_So_suits, Po) 102 L (.int x :: r) hp')) := xVe _ _ _ _ _ _
theorem s_So_suits_102 (C : xCx) (r : List Value) (hp : xHp) (x : Int32) (a0 a1 a2 : Value) : (xV k_So_suits C 102 [a0, a1, a2, .int x] r hp) = (xV k_So_suits C 103 [a0, a1, a2, .int x] (.int x :: r) hp) := xVe _ _ _ _ _ _
theorem s_So_suits_103 (x y : Int32) (C : xCx) (L r : List Value) (hp : xHp) : (xV k_So_suits C 103 L (.int y :: .int x :: r) hp) = (((x < y → xV k_So_suits C 110 L r hp) ∧ (¬ x < y → xV k_So_suits C 106 L r hp))) := xVe _ _ _ _ _ _
theorem s_So_suits_106  (C : xCx) (L r : List Value) (hp : xHp) : (xV k_So_suits C 106 L (r) hp) = (xV k_So_suits C 107 L (.int (1) :: r) hp) := xVe _ _ _ _ _ _
theorem s_So_suits_107 (C : xCx) (L r : List Value) (hp : xHp) : (xV k_So_suits C 107 L r hp) = (xV k_So_suits C 111 L r hp) := xVe _ _ _ _ _ _
theorem s_So_suits_110  (C : xCx) (L r : List Value) (hp : xHp) : (xV k_So_suits C 110 L (r) hp) = (xV k_So_suits C 111 L (.int (0) :: r) hp) := xVe _ _ _ _ _ _
theorem s_So_suits_111 (v : Int32) (l : Launch) (d b lo gz n0 s0 : Nat) (Po : Option Value → xHp → Prop) (L : List Value) (hp : xHp) : (xV k_So_suits (l, d, b, lo, gz, n0, s0, m_So_suits, Po) 111 L [.int v] hp) = ((v = 0 ∨ v = 1) ∧ Po (some (.int v)) hp) := xVe _ _ _ _ _ _
theorem s_So_suits_112 (C : xCx) (r : List Value) (hp : xHp) (x : Nat) (a1 a2 a3 : Value) : (xV k_So_suits C 112 [.ref x, a1, a2, a3] r hp) = (True ∧ xV k_So_suits C 113 [.ref x, a1, a2, a3] (.ref x :: r) hp) := xVe _ _ _ _ _ _
theorem s_So_suits_113 (a : Nat) (C : xCx) (L r : List Value) (hp : xHp) : (xV k_So_suits C 113 L (.ref a :: r) hp) = (xF hp a 0 6 (fun v => xV k_So_suits C 116 L (v :: r) hp)) := xVe _ _ _ _ _ _
theorem s_So_suits_116 (C : xCx) (r : List Value) (hp : xHp) (x : Nat) (a1 a2 a3 : Value) : (xV k_So_suits C 116 [.ref x, a1, a2, a3] r hp) = (True ∧ xV k_So_suits C 117 [.ref x, a1, a2, a3] (.ref x :: r) hp) := xVe _ _ _ _ _ _
theorem s_So_suits_117 (a : Nat) (C : xCx) (L r : List Value) (hp : xHp) : (xV k_So_suits C 117 L (.ref a :: r) hp) = (xF hp a 0 6 (fun v => xV k_So_suits C 120 L (v :: r) hp)) := xVe _ _ _ _ _ _
theorem s_So_suits_120 (C : xCx) (r : List Value) (hp : xHp) (x : Int32) (a0 a2 a3 : Value) : (xV k_So_suits C 120 [a0, .int x, a2, a3] r hp) = (xV k_So_suits C 121 [a0, .int x, a2, a3] (.int x :: r) hp) := xVe _ _ _ _ _ _
theorem s_So_suits_121 (x0 : Int32) (a : Nat) (l : Launch) (d b lo gz n0 s0 : Nat) (Po : Option Value → xHp → Prop) (L r : List Value) (hp : xHp) : (xV k_So_suits (l, d + 1, b, lo, gz, n0, s0, m_So_suits, Po) 121 L (.int x0 :: .ref a :: r) hp) = (xO hp a 3 ∧ xcs r 8 ∧ xMi l d b lo gz m_Folk_spot [.ref a, .int x0] hp (fun x hp' => xV k_So_suits (l, d + 1, b, lo, gz, n0, s0, m_So_suits, Po) 124 L (.int x :: r) hp')) := xVe _ _ _ _ _ _
theorem s_So_suits_124 (C : xCx) (r : List Value) (hp : xHp) (x : Int32) (a0 a2 a3 : Value) : (xV k_So_suits C 124 [a0, .int x, a2, a3] r hp) = (xV k_So_suits C 125 [a0, .int x, a2, a3] (.int x :: r) hp) := xVe _ _ _ _ _ _
theorem s_So_suits_125 (x0 : Int32) (x1 : Int32) (a : Nat) (l : Launch) (d b lo gz n0 s0 : Nat) (Po : Option Value → xHp → Prop) (L r : List Value) (hp : xHp) : (xV k_So_suits (l, d + 1, b, lo, gz, n0, s0, m_So_suits, Po) 125 L (.int x1 :: .int x0 :: .ref a :: r) hp) = (xO hp a 3 ∧ xcs r 8 ∧ xMi l d b lo gz m_Folk_othersAt [.ref a, .int x0, .int x1] hp (fun x hp' => xV k_So_suits (l, d + 1, b, lo, gz, n0, s0, m_So_suits, Po) 128 L (.int x :: r) hp')) := xVe _ _ _ _ _ _
theorem s_So_suits_128 (x : Int32) (C : xCx) (L r : List Value) (hp : xHp) : (xV k_So_suits C 128 L (.int x :: r) hp) = (((¬ x = 0 → xV k_So_suits C 135 L r hp) ∧ (x = 0 → xV k_So_suits C 131 L r hp))) := xVe _ _ _ _ _ _
theorem s_So_suits_131  (C : xCx) (L r : List Value) (hp : xHp) : (xV k_So_suits C 131 L (r) hp) = (xV k_So_suits C 132 L (.int (1) :: r) hp) := xVe _ _ _ _ _ _
theorem s_So_suits_132 (C : xCx) (L r : List Value) (hp : xHp) : (xV k_So_suits C 132 L r hp) = (xV k_So_suits C 136 L r hp) := xVe _ _ _ _ _ _
theorem s_So_suits_135  (C : xCx) (L r : List Value) (hp : xHp) : (xV k_So_suits C 135 L (r) hp) = (xV k_So_suits C 136 L (.int (0) :: r) hp) := xVe _ _ _ _ _ _
theorem s_So_suits_136 (C : xCx) (r : List Value) (hp : xHp) (x : Int32) (a0 a1 a2 : Value) : (xV k_So_suits C 136 [a0, a1, a2, .int x] r hp) = (xV k_So_suits C 137 [a0, a1, a2, .int x] (.int x :: r) hp) := xVe _ _ _ _ _ _
theorem s_So_suits_137  (C : xCx) (L r : List Value) (hp : xHp) : (xV k_So_suits C 137 L (r) hp) = (xV k_So_suits C 138 L (.int (1) :: r) hp) := xVe _ _ _ _ _ _
theorem s_So_suits_138 (x y : Int32) (C : xCx) (L r : List Value) (hp : xHp) : (xV k_So_suits C 138 L (.int y :: .int x :: r) hp) = (((¬ x = y → xV k_So_suits C 145 L r hp) ∧ (x = y → xV k_So_suits C 141 L r hp))) := xVe _ _ _ _ _ _
theorem s_So_suits_141  (C : xCx) (L r : List Value) (hp : xHp) : (xV k_So_suits C 141 L (r) hp) = (xV k_So_suits C 142 L (.int (1) :: r) hp) := xVe _ _ _ _ _ _
theorem s_So_suits_142 (C : xCx) (L r : List Value) (hp : xHp) : (xV k_So_suits C 142 L r hp) = (xV k_So_suits C 146 L r hp) := xVe _ _ _ _ _ _
theorem s_So_suits_145  (C : xCx) (L r : List Value) (hp : xHp) : (xV k_So_suits C 145 L (r) hp) = (xV k_So_suits C 146 L (.int (0) :: r) hp) := xVe _ _ _ _ _ _
theorem s_So_suits_146 (x y : Int32) (C : xCx) (L r : List Value) (hp : xHp) : (xV k_So_suits C 146 L (.int y :: .int x :: r) hp) = (((¬ x = y → xV k_So_suits C 153 L r hp) ∧ (x = y → xV k_So_suits C 149 L r hp))) := xVe _ _ _ _ _ _
theorem s_So_suits_149  (C : xCx) (L r : List Value) (hp : xHp) : (xV k_So_suits C 149 L (r) hp) = (xV k_So_suits C 150 L (.int (1) :: r) hp) := xVe _ _ _ _ _ _
theorem s_So_suits_150 (C : xCx) (L r : List Value) (hp : xHp) : (xV k_So_suits C 150 L r hp) = (xV k_So_suits C 154 L r hp) := xVe _ _ _ _ _ _
theorem s_So_suits_153  (C : xCx) (L r : List Value) (hp : xHp) : (xV k_So_suits C 153 L (r) hp) = (xV k_So_suits C 154 L (.int (0) :: r) hp) := xVe _ _ _ _ _ _
theorem s_So_suits_154 (v : Int32) (l : Launch) (d b lo gz n0 s0 : Nat) (Po : Option Value → xHp → Prop) (L : List Value) (hp : xHp) : (xV k_So_suits (l, d, b, lo, gz, n0, s0, m_So_suits, Po) 154 L [.int v] hp) = ((v = 0 ∨ v = 1) ∧ Po (some (.int v)) hp) := xVe _ _ _ _ _ _
theorem s_So_suits_155  (C : xCx) (L r : List Value) (hp : xHp) : (xV k_So_suits C 155 L (r) hp) = (xV k_So_suits C 156 L (.int (0) :: r) hp) := xVe _ _ _ _ _ _
theorem s_So_suits_156 (v : Int32) (l : Launch) (d b lo gz n0 s0 : Nat) (Po : Option Value → xHp → Prop) (L : List Value) (hp : xHp) : (xV k_So_suits (l, d, b, lo, gz, n0, s0, m_So_suits, Po) 156 L [.int v] hp) = ((v = 0 ∨ v = 1) ∧ Po (some (.int v)) hp) := xVe _ _ _ _ _ _
theorem ml_So_376 : xLk "SunnyOnes" 376 m_So_howManySuit := Or.inl (wg5 4 (by decide +kernel) rfl)
def k_So_asks : List xEC := [
  (0, .aload_n 0, 1, 0, 0, 0, m_x),
  (1, .invokevirtual 373, 4, 0, 0, 0, m_So_likelyOnes),
  (4, .istore_n 1, 5, 0, 0, 0, m_x),
  (5, .iload_n 1, 6, 0, 0, 0, m_x),
  (6, .ifCond .ne 6, 9, 0, 12, 0, m_x),
  (9, .bipush (-2), 11, 0, 0, 0, m_x),
  (11, .ireturn, 12, 0, 0, 0, m_x),
  (12, .iload_n 1, 13, 0, 0, 0, m_x),
  (13, .invokestatic 353, 16, 0, 0, 0, m_Integer_bitCount),
  (16, .istore_n 2, 17, 0, 0, 0, m_x),
  (17, .iconst 0, 18, 0, 0, 0, m_x),
  (18, .istore_n 3, 19, 0, 0, 0, m_x),
  (19, .iload_n 2, 20, 0, 0, 0, m_x),
  (20, .iconst 1, 21, 0, 0, 0, m_x),
  (21, .iadd, 22, 0, 0, 0, m_x),
  (22, .istore 4, 24, 0, 0, 0, m_x),
  (24, .iconst 1, 25, 0, 0, 0, m_x),
  (25, .istore 5, 27, 0, 0, 0, m_x),
  (27, .iload 5, 29, 0, 0, 0, m_x),
  (29, .iconst 4, 30, 0, 0, 0, m_x),
  (30, .if_icmp .gt 76, 33, 0, 106, 0, m_x),
  (33, .iconst 0, 34, 0, 0, 0, m_x),
  (34, .istore 6, 36, 0, 0, 0, m_x),
  (36, .iload 5, 38, 0, 0, 0, m_x),
  (38, .iconst 2, 39, 0, 0, 0, m_x),
  (39, .if_icmp .eq 61, 42, 0, 100, 0, m_x),
  (42, .iload 6, 44, 0, 0, 0, m_x),
  (44, .iload 5, 46, 0, 0, 0, m_x),
  (46, .invokestatic 370, 49, 0, 0, 0, m_So_mostHeard),
  (49, .if_icmp .gt 51, 52, 0, 100, 0, m_x),
  (52, .aload_n 0, 53, 0, 0, 0, m_x),
  (53, .iload_n 1, 54, 0, 0, 0, m_x),
  (54, .iload 5, 56, 0, 0, 0, m_x),
  (56, .iload 6, 58, 0, 0, 0, m_x),
  (58, .invokevirtual 376, 61, 0, 0, 0, m_So_howManySuit),
  (61, .istore 7, 63, 0, 0, 0, m_x),
  (63, .iload 7, 65, 0, 0, 0, m_x),
  (65, .iload_n 2, 66, 0, 0, 0, m_x),
  (66, .iload 7, 68, 0, 0, 0, m_x),
  (68, .isub, 69, 0, 0, 0, m_x),
  (69, .invokestatic 278, 72, 0, 0, 0, m_Math_max),
  (72, .istore 8, 74, 0, 0, 0, m_x),
  (74, .iload 8, 76, 0, 0, 0, m_x),
  (76, .iload 4, 78, 0, 0, 0, m_x),
  (78, .if_icmp .ge 16, 81, 0, 94, 0, m_x),
  (81, .iload 8, 83, 0, 0, 0, m_x),
  (83, .istore 4, 85, 0, 0, 0, m_x),
  (85, .bipush 10, 87, 0, 0, 0, m_x),
  (87, .iload 5, 89, 0, 0, 0, m_x),
  (89, .imul, 90, 0, 0, 0, m_x),
  (90, .iload 6, 92, 0, 0, 0, m_x),
  (92, .iadd, 93, 0, 0, 0, m_x),
  (93, .istore_n 3, 94, 0, 0, 0, m_x),
  (94, .iinc 6 1, 97, 0, 0, 0, m_x),
  (97, .goto (-61), 100, 0, 36, 0, m_x),
  (100, .iinc 5 1, 103, 0, 0, 0, m_x),
  (103, .goto (-76), 106, 0, 27, 0, m_x),
  (106, .aload_n 0, 107, 0, 0, 0, m_x),
  (107, .getfield 19, 110, 0, 1, 0, m_x),
  (110, .iload 4, 112, 0, 0, 0, m_x),
  (112, .i2l, 113, 0, 0, 0, m_x),
  (113, .invokevirtual 287, 116, 7, 0, 0, m_Row_tell1),
  (116, .iload_n 3, 117, 0, 0, 0, m_x),
  (117, .ireturn, 118, 0, 0, 0, m_x)]
theorem dc_So_asks : ∀ E ∈ k_So_asks, xDc m_So_asks E := by decide +kernel
set_option maxRecDepth 20000 in
theorem ok_So_asks : ∀ E ∈ k_So_asks, xOk m_So_asks E := xok_of dc_So_asks (xfc trivial (xfc ⟨ml_So_373, kd_So_likelyOnes⟩ (xfc trivial (xfc trivial (xfc (show ((6 : Nat) : Int) + (6) = ((12 : Nat) : Int) from by decide) (xfc trivial (xfc trivial (xfc trivial (xfc ⟨ml_So_353, kd_Integer_bitCount⟩ (xfc trivial (xfc trivial (xfc trivial (xfc trivial (xfc trivial (xfc trivial (xfc trivial (xfc trivial (xfc trivial (xfc trivial (xfc trivial (xfc (show ((30 : Nat) : Int) + (76) = ((106 : Nat) : Int) from by decide) (xfc trivial (xfc trivial (xfc trivial (xfc trivial (xfc (show ((39 : Nat) : Int) + (61) = ((100 : Nat) : Int) from by decide) (xfc trivial (xfc trivial (xfc ⟨ml_So_370, kd_So_mostHeard⟩ (xfc (show ((49 : Nat) : Int) + (51) = ((100 : Nat) : Int) from by decide) (xfc trivial (xfc trivial (xfc trivial (xfc trivial (xfc ⟨ml_So_376, kd_So_howManySuit⟩ (xfc trivial (xfc trivial (xfc trivial (xfc trivial (xfc trivial (xfc ⟨ml_So_278, kd_Math_max⟩ (xfc trivial (xfc trivial (xfc trivial (xfc (show ((78 : Nat) : Int) + (16) = ((94 : Nat) : Int) from by decide) (xfc trivial (xfc trivial (xfc trivial (xfc trivial (xfc trivial (xfc trivial (xfc trivial (xfc trivial (xfc trivial (xfc (show ((97 : Nat) : Int) + (-61) = ((36 : Nat) : Int) from by decide) (xfc trivial (xfc (show ((103 : Nat) : Int) + (-76) = ((27 : Nat) : Int) from by decide) (xfc trivial (xfc fl_So_19 (xfc trivial (xfc trivial (xfc ⟨ml_So_287, kd_Row_tell1⟩ (xfc trivial (xfc trivial (xfn)))))))))))))))))))))))))))))))))))))))))))))))))))))))))))))))))
theorem s_So_asks_0 (C : xCx) (r : List Value) (hp : xHp) (x : Nat) (a1 a2 a3 a4 a5 a6 a7 a8 : Value) : (xV k_So_asks C 0 [.ref x, a1, a2, a3, a4, a5, a6, a7, a8] r hp) = (True ∧ xV k_So_asks C 1 [.ref x, a1, a2, a3, a4, a5, a6, a7, a8] (.ref x :: r) hp) := xVe _ _ _ _ _ _
theorem s_So_asks_1 (a : Nat) (l : Launch) (d b lo gz n0 s0 : Nat) (Po : Option Value → xHp → Prop) (L r : List Value) (hp : xHp) : (xV k_So_asks (l, d + 1, b, lo, gz, n0, s0, m_So_asks, Po) 1 L (.ref a :: r) hp) = (xO hp a 0 ∧ xcs r 8 ∧ xMi l d b lo gz m_So_likelyOnes [.ref a] hp (fun x hp' => xV k_So_asks (l, d + 1, b, lo, gz, n0, s0, m_So_asks, Po) 4 L (.int x :: r) hp')) := xVe _ _ _ _ _ _
theorem s_So_asks_4 (C : xCx) (r : List Value) (hp : xHp) (x : Int32) (a0 a1 a2 a3 a4 a5 a6 a7 a8 : Value) : (xV k_So_asks C 4 [a0, a1, a2, a3, a4, a5, a6, a7, a8] (.int x :: r) hp) = (1 < 9 ∧ xNl [a0, a1, a2, a3, a4, a5, a6, a7, a8] 1 ∧ xV k_So_asks C 5 [a0, .int x, a2, a3, a4, a5, a6, a7, a8] r hp) := xVe _ _ _ _ _ _
theorem s_So_asks_5 (C : xCx) (r : List Value) (hp : xHp) (x : Int32) (a0 a2 a3 a4 a5 a6 a7 a8 : Value) : (xV k_So_asks C 5 [a0, .int x, a2, a3, a4, a5, a6, a7, a8] r hp) = (xV k_So_asks C 6 [a0, .int x, a2, a3, a4, a5, a6, a7, a8] (.int x :: r) hp) := xVe _ _ _ _ _ _
theorem s_So_asks_6 (x : Int32) (C : xCx) (L r : List Value) (hp : xHp) : (xV k_So_asks C 6 L (.int x :: r) hp) = (((¬ x = 0 → xV k_So_asks C 12 L r hp) ∧ (x = 0 → xV k_So_asks C 9 L r hp))) := xVe _ _ _ _ _ _
theorem s_So_asks_9  (C : xCx) (L r : List Value) (hp : xHp) : (xV k_So_asks C 9 L (r) hp) = (xV k_So_asks C 11 L (.int (-2) :: r) hp) := xVe _ _ _ _ _ _
theorem s_So_asks_11 (v : Int32) (l : Launch) (d b lo gz n0 s0 : Nat) (Po : Option Value → xHp → Prop) (L : List Value) (hp : xHp) : (xV k_So_asks (l, d, b, lo, gz, n0, s0, m_So_asks, Po) 11 L [.int v] hp) = (Po (some (.int v)) hp) := xVe _ _ _ _ _ _
theorem s_So_asks_12 (C : xCx) (r : List Value) (hp : xHp) (x : Int32) (a0 a2 a3 a4 a5 a6 a7 a8 : Value) : (xV k_So_asks C 12 [a0, .int x, a2, a3, a4, a5, a6, a7, a8] r hp) = (xV k_So_asks C 13 [a0, .int x, a2, a3, a4, a5, a6, a7, a8] (.int x :: r) hp) := xVe _ _ _ _ _ _
theorem s_So_asks_13 (x0 : Int32) (l : Launch) (d b lo gz n0 s0 : Nat) (Po : Option Value → xHp → Prop) (L r : List Value) (hp : xHp) : (xV k_So_asks (l, d + 1, b, lo, gz, n0, s0, m_So_asks, Po) 13 L (.int x0 :: r) hp) = (1 ≤ List.length (.int x0 :: r) ∧ xcs r 8 ∧ xMi l d b lo gz m_Integer_bitCount [.int x0] hp (fun x hp' => xV k_So_asks (l, d + 1, b, lo, gz, n0, s0, m_So_asks, Po) 16 L (.int x :: r) hp')) := xVe _ _ _ _ _ _
theorem s_So_asks_16 (C : xCx) (r : List Value) (hp : xHp) (x : Int32) (a0 a1 a2 a3 a4 a5 a6 a7 a8 : Value) : (xV k_So_asks C 16 [a0, a1, a2, a3, a4, a5, a6, a7, a8] (.int x :: r) hp) = (2 < 9 ∧ xNl [a0, a1, a2, a3, a4, a5, a6, a7, a8] 2 ∧ xV k_So_asks C 17 [a0, a1, .int x, a3, a4, a5, a6, a7, a8] r hp) := xVe _ _ _ _ _ _
theorem s_So_asks_17  (C : xCx) (L r : List Value) (hp : xHp) : (xV k_So_asks C 17 L (r) hp) = (xV k_So_asks C 18 L (.int (0) :: r) hp) := xVe _ _ _ _ _ _
theorem s_So_asks_18 (C : xCx) (r : List Value) (hp : xHp) (x : Int32) (a0 a1 a2 a3 a4 a5 a6 a7 a8 : Value) : (xV k_So_asks C 18 [a0, a1, a2, a3, a4, a5, a6, a7, a8] (.int x :: r) hp) = (3 < 9 ∧ xNl [a0, a1, a2, a3, a4, a5, a6, a7, a8] 3 ∧ xV k_So_asks C 19 [a0, a1, a2, .int x, a4, a5, a6, a7, a8] r hp) := xVe _ _ _ _ _ _
theorem s_So_asks_19 (C : xCx) (r : List Value) (hp : xHp) (x : Int32) (a0 a1 a3 a4 a5 a6 a7 a8 : Value) : (xV k_So_asks C 19 [a0, a1, .int x, a3, a4, a5, a6, a7, a8] r hp) = (xV k_So_asks C 20 [a0, a1, .int x, a3, a4, a5, a6, a7, a8] (.int x :: r) hp) := xVe _ _ _ _ _ _
theorem s_So_asks_20  (C : xCx) (L r : List Value) (hp : xHp) : (xV k_So_asks C 20 L (r) hp) = (xV k_So_asks C 21 L (.int (1) :: r) hp) := xVe _ _ _ _ _ _
theorem s_So_asks_21 (x y : Int32) (C : xCx) (L r : List Value) (hp : xHp) : (xV k_So_asks C 21 L (.int y :: .int x :: r) hp) = (xV k_So_asks C 22 L (.int (x + y) :: r) hp) := xVe _ _ _ _ _ _
theorem s_So_asks_22 (C : xCx) (r : List Value) (hp : xHp) (x : Int32) (a0 a1 a2 a3 a4 a5 a6 a7 a8 : Value) : (xV k_So_asks C 22 [a0, a1, a2, a3, a4, a5, a6, a7, a8] (.int x :: r) hp) = (4 < 9 ∧ xNl [a0, a1, a2, a3, a4, a5, a6, a7, a8] 4 ∧ xV k_So_asks C 24 [a0, a1, a2, a3, .int x, a5, a6, a7, a8] r hp) := xVe _ _ _ _ _ _
theorem s_So_asks_24  (C : xCx) (L r : List Value) (hp : xHp) : (xV k_So_asks C 24 L (r) hp) = (xV k_So_asks C 25 L (.int (1) :: r) hp) := xVe _ _ _ _ _ _
theorem s_So_asks_25 (C : xCx) (r : List Value) (hp : xHp) (x : Int32) (a0 a1 a2 a3 a4 a5 a6 a7 a8 : Value) : (xV k_So_asks C 25 [a0, a1, a2, a3, a4, a5, a6, a7, a8] (.int x :: r) hp) = (5 < 9 ∧ xNl [a0, a1, a2, a3, a4, a5, a6, a7, a8] 5 ∧ xV k_So_asks C 27 [a0, a1, a2, a3, a4, .int x, a6, a7, a8] r hp) := xVe _ _ _ _ _ _
theorem s_So_asks_27 (C : xCx) (r : List Value) (hp : xHp) (x : Int32) (a0 a1 a2 a3 a4 a6 a7 a8 : Value) : (xV k_So_asks C 27 [a0, a1, a2, a3, a4, .int x, a6, a7, a8] r hp) = (xV k_So_asks C 29 [a0, a1, a2, a3, a4, .int x, a6, a7, a8] (.int x :: r) hp) := xVe _ _ _ _ _ _
theorem s_So_asks_29  (C : xCx) (L r : List Value) (hp : xHp) : (xV k_So_asks C 29 L (r) hp) = (xV k_So_asks C 30 L (.int (4) :: r) hp) := xVe _ _ _ _ _ _
theorem s_So_asks_30 (x y : Int32) (C : xCx) (L r : List Value) (hp : xHp) : (xV k_So_asks C 30 L (.int y :: .int x :: r) hp) = (((y < x → xV k_So_asks C 106 L r hp) ∧ (¬ y < x → xV k_So_asks C 33 L r hp))) := xVe _ _ _ _ _ _
theorem s_So_asks_33  (C : xCx) (L r : List Value) (hp : xHp) : (xV k_So_asks C 33 L (r) hp) = (xV k_So_asks C 34 L (.int (0) :: r) hp) := xVe _ _ _ _ _ _
theorem s_So_asks_34 (C : xCx) (r : List Value) (hp : xHp) (x : Int32) (a0 a1 a2 a3 a4 a5 a6 a7 a8 : Value) : (xV k_So_asks C 34 [a0, a1, a2, a3, a4, a5, a6, a7, a8] (.int x :: r) hp) = (6 < 9 ∧ xNl [a0, a1, a2, a3, a4, a5, a6, a7, a8] 6 ∧ xV k_So_asks C 36 [a0, a1, a2, a3, a4, a5, .int x, a7, a8] r hp) := xVe _ _ _ _ _ _
theorem s_So_asks_36 (C : xCx) (r : List Value) (hp : xHp) (x : Int32) (a0 a1 a2 a3 a4 a6 a7 a8 : Value) : (xV k_So_asks C 36 [a0, a1, a2, a3, a4, .int x, a6, a7, a8] r hp) = (xV k_So_asks C 38 [a0, a1, a2, a3, a4, .int x, a6, a7, a8] (.int x :: r) hp) := xVe _ _ _ _ _ _
theorem s_So_asks_38  (C : xCx) (L r : List Value) (hp : xHp) : (xV k_So_asks C 38 L (r) hp) = (xV k_So_asks C 39 L (.int (2) :: r) hp) := xVe _ _ _ _ _ _
theorem s_So_asks_39 (x y : Int32) (C : xCx) (L r : List Value) (hp : xHp) : (xV k_So_asks C 39 L (.int y :: .int x :: r) hp) = (((x = y → xV k_So_asks C 100 L r hp) ∧ (¬ x = y → xV k_So_asks C 42 L r hp))) := xVe _ _ _ _ _ _
theorem s_So_asks_42 (C : xCx) (r : List Value) (hp : xHp) (x : Int32) (a0 a1 a2 a3 a4 a5 a7 a8 : Value) : (xV k_So_asks C 42 [a0, a1, a2, a3, a4, a5, .int x, a7, a8] r hp) = (xV k_So_asks C 44 [a0, a1, a2, a3, a4, a5, .int x, a7, a8] (.int x :: r) hp) := xVe _ _ _ _ _ _
theorem s_So_asks_44 (C : xCx) (r : List Value) (hp : xHp) (x : Int32) (a0 a1 a2 a3 a4 a6 a7 a8 : Value) : (xV k_So_asks C 44 [a0, a1, a2, a3, a4, .int x, a6, a7, a8] r hp) = (xV k_So_asks C 46 [a0, a1, a2, a3, a4, .int x, a6, a7, a8] (.int x :: r) hp) := xVe _ _ _ _ _ _
theorem s_So_asks_46 (x0 : Int32) (l : Launch) (d b lo gz n0 s0 : Nat) (Po : Option Value → xHp → Prop) (L r : List Value) (hp : xHp) : (xV k_So_asks (l, d + 1, b, lo, gz, n0, s0, m_So_asks, Po) 46 L (.int x0 :: r) hp) = (1 ≤ List.length (.int x0 :: r) ∧ xcs r 8 ∧ xMi l d b lo gz m_So_mostHeard [.int x0] hp (fun x hp' => xV k_So_asks (l, d + 1, b, lo, gz, n0, s0, m_So_asks, Po) 49 L (.int x :: r) hp')) := xVe _ _ _ _ _ _
theorem s_So_asks_49 (x y : Int32) (C : xCx) (L r : List Value) (hp : xHp) : (xV k_So_asks C 49 L (.int y :: .int x :: r) hp) = (((y < x → xV k_So_asks C 100 L r hp) ∧ (¬ y < x → xV k_So_asks C 52 L r hp))) := xVe _ _ _ _ _ _
theorem s_So_asks_52 (C : xCx) (r : List Value) (hp : xHp) (x : Nat) (a1 a2 a3 a4 a5 a6 a7 a8 : Value) : (xV k_So_asks C 52 [.ref x, a1, a2, a3, a4, a5, a6, a7, a8] r hp) = (True ∧ xV k_So_asks C 53 [.ref x, a1, a2, a3, a4, a5, a6, a7, a8] (.ref x :: r) hp) := xVe _ _ _ _ _ _
theorem s_So_asks_53 (C : xCx) (r : List Value) (hp : xHp) (x : Int32) (a0 a2 a3 a4 a5 a6 a7 a8 : Value) : (xV k_So_asks C 53 [a0, .int x, a2, a3, a4, a5, a6, a7, a8] r hp) = (xV k_So_asks C 54 [a0, .int x, a2, a3, a4, a5, a6, a7, a8] (.int x :: r) hp) := xVe _ _ _ _ _ _
theorem s_So_asks_54 (C : xCx) (r : List Value) (hp : xHp) (x : Int32) (a0 a1 a2 a3 a4 a6 a7 a8 : Value) : (xV k_So_asks C 54 [a0, a1, a2, a3, a4, .int x, a6, a7, a8] r hp) = (xV k_So_asks C 56 [a0, a1, a2, a3, a4, .int x, a6, a7, a8] (.int x :: r) hp) := xVe _ _ _ _ _ _
theorem s_So_asks_56 (C : xCx) (r : List Value) (hp : xHp) (x : Int32) (a0 a1 a2 a3 a4 a5 a7 a8 : Value) : (xV k_So_asks C 56 [a0, a1, a2, a3, a4, a5, .int x, a7, a8] r hp) = (xV k_So_asks C 58 [a0, a1, a2, a3, a4, a5, .int x, a7, a8] (.int x :: r) hp) := xVe _ _ _ _ _ _
theorem s_So_asks_58 (x0 : Int32) (x1 : Int32) (x2 : Int32) (a : Nat) (l : Launch) (d b lo gz n0 s0 : Nat) (Po : Option Value → xHp → Prop) (L r : List Value) (hp : xHp) : (xV k_So_asks (l, d + 1, b, lo, gz, n0, s0, m_So_asks, Po) 58 L (.int x2 :: .int x1 :: .int x0 :: .ref a :: r) hp) = (xO hp a 0 ∧ xcs r 8 ∧ xMi l d b lo gz m_So_howManySuit [.ref a, .int x0, .int x1, .int x2] hp (fun x hp' => xV k_So_asks (l, d + 1, b, lo, gz, n0, s0, m_So_asks, Po) 61 L (.int x :: r) hp')) := xVe _ _ _ _ _ _
theorem s_So_asks_61 (C : xCx) (r : List Value) (hp : xHp) (x : Int32) (a0 a1 a2 a3 a4 a5 a6 a7 a8 : Value) : (xV k_So_asks C 61 [a0, a1, a2, a3, a4, a5, a6, a7, a8] (.int x :: r) hp) = (7 < 9 ∧ xNl [a0, a1, a2, a3, a4, a5, a6, a7, a8] 7 ∧ xV k_So_asks C 63 [a0, a1, a2, a3, a4, a5, a6, .int x, a8] r hp) := xVe _ _ _ _ _ _
theorem s_So_asks_63 (C : xCx) (r : List Value) (hp : xHp) (x : Int32) (a0 a1 a2 a3 a4 a5 a6 a8 : Value) : (xV k_So_asks C 63 [a0, a1, a2, a3, a4, a5, a6, .int x, a8] r hp) = (xV k_So_asks C 65 [a0, a1, a2, a3, a4, a5, a6, .int x, a8] (.int x :: r) hp) := xVe _ _ _ _ _ _
theorem s_So_asks_65 (C : xCx) (r : List Value) (hp : xHp) (x : Int32) (a0 a1 a3 a4 a5 a6 a7 a8 : Value) : (xV k_So_asks C 65 [a0, a1, .int x, a3, a4, a5, a6, a7, a8] r hp) = (xV k_So_asks C 66 [a0, a1, .int x, a3, a4, a5, a6, a7, a8] (.int x :: r) hp) := xVe _ _ _ _ _ _
theorem s_So_asks_66 (C : xCx) (r : List Value) (hp : xHp) (x : Int32) (a0 a1 a2 a3 a4 a5 a6 a8 : Value) : (xV k_So_asks C 66 [a0, a1, a2, a3, a4, a5, a6, .int x, a8] r hp) = (xV k_So_asks C 68 [a0, a1, a2, a3, a4, a5, a6, .int x, a8] (.int x :: r) hp) := xVe _ _ _ _ _ _
theorem s_So_asks_68 (x y : Int32) (C : xCx) (L r : List Value) (hp : xHp) : (xV k_So_asks C 68 L (.int y :: .int x :: r) hp) = (xV k_So_asks C 69 L (.int (x - y) :: r) hp) := xVe _ _ _ _ _ _
theorem s_So_asks_69 (x0 : Int32) (x1 : Int32) (l : Launch) (d b lo gz n0 s0 : Nat) (Po : Option Value → xHp → Prop) (L r : List Value) (hp : xHp) : (xV k_So_asks (l, d + 1, b, lo, gz, n0, s0, m_So_asks, Po) 69 L (.int x1 :: .int x0 :: r) hp) = (2 ≤ List.length (.int x1 :: .int x0 :: r) ∧ xcs r 8 ∧ xMi l d b lo gz m_Math_max [.int x0, .int x1] hp (fun x hp' => xV k_So_asks (l, d + 1, b, lo, gz, n0, s0, m_So_asks, Po) 72 L (.int x :: r) hp')) := xVe _ _ _ _ _ _
theorem s_So_asks_72 (C : xCx) (r : List Value) (hp : xHp) (x : Int32) (a0 a1 a2 a3 a4 a5 a6 a7 a8 : Value) : (xV k_So_asks C 72 [a0, a1, a2, a3, a4, a5, a6, a7, a8] (.int x :: r) hp) = (8 < 9 ∧ xNl [a0, a1, a2, a3, a4, a5, a6, a7, a8] 8 ∧ xV k_So_asks C 74 [a0, a1, a2, a3, a4, a5, a6, a7, .int x] r hp) := xVe _ _ _ _ _ _
theorem s_So_asks_74 (C : xCx) (r : List Value) (hp : xHp) (x : Int32) (a0 a1 a2 a3 a4 a5 a6 a7 : Value) : (xV k_So_asks C 74 [a0, a1, a2, a3, a4, a5, a6, a7, .int x] r hp) = (xV k_So_asks C 76 [a0, a1, a2, a3, a4, a5, a6, a7, .int x] (.int x :: r) hp) := xVe _ _ _ _ _ _
theorem s_So_asks_76 (C : xCx) (r : List Value) (hp : xHp) (x : Int32) (a0 a1 a2 a3 a5 a6 a7 a8 : Value) : (xV k_So_asks C 76 [a0, a1, a2, a3, .int x, a5, a6, a7, a8] r hp) = (xV k_So_asks C 78 [a0, a1, a2, a3, .int x, a5, a6, a7, a8] (.int x :: r) hp) := xVe _ _ _ _ _ _
theorem s_So_asks_78 (x y : Int32) (C : xCx) (L r : List Value) (hp : xHp) : (xV k_So_asks C 78 L (.int y :: .int x :: r) hp) = (((y ≤ x → xV k_So_asks C 94 L r hp) ∧ (¬ y ≤ x → xV k_So_asks C 81 L r hp))) := xVe _ _ _ _ _ _
theorem s_So_asks_81 (C : xCx) (r : List Value) (hp : xHp) (x : Int32) (a0 a1 a2 a3 a4 a5 a6 a7 : Value) : (xV k_So_asks C 81 [a0, a1, a2, a3, a4, a5, a6, a7, .int x] r hp) = (xV k_So_asks C 83 [a0, a1, a2, a3, a4, a5, a6, a7, .int x] (.int x :: r) hp) := xVe _ _ _ _ _ _
theorem s_So_asks_83 (C : xCx) (r : List Value) (hp : xHp) (x : Int32) (a0 a1 a2 a3 a4 a5 a6 a7 a8 : Value) : (xV k_So_asks C 83 [a0, a1, a2, a3, a4, a5, a6, a7, a8] (.int x :: r) hp) = (4 < 9 ∧ xNl [a0, a1, a2, a3, a4, a5, a6, a7, a8] 4 ∧ xV k_So_asks C 85 [a0, a1, a2, a3, .int x, a5, a6, a7, a8] r hp) := xVe _ _ _ _ _ _
theorem s_So_asks_85  (C : xCx) (L r : List Value) (hp : xHp) : (xV k_So_asks C 85 L (r) hp) = (xV k_So_asks C 87 L (.int (10) :: r) hp) := xVe _ _ _ _ _ _
theorem s_So_asks_87 (C : xCx) (r : List Value) (hp : xHp) (x : Int32) (a0 a1 a2 a3 a4 a6 a7 a8 : Value) : (xV k_So_asks C 87 [a0, a1, a2, a3, a4, .int x, a6, a7, a8] r hp) = (xV k_So_asks C 89 [a0, a1, a2, a3, a4, .int x, a6, a7, a8] (.int x :: r) hp) := xVe _ _ _ _ _ _
theorem s_So_asks_89 (x y : Int32) (C : xCx) (L r : List Value) (hp : xHp) : (xV k_So_asks C 89 L (.int y :: .int x :: r) hp) = (xV k_So_asks C 90 L (.int (x * y) :: r) hp) := xVe _ _ _ _ _ _
theorem s_So_asks_90 (C : xCx) (r : List Value) (hp : xHp) (x : Int32) (a0 a1 a2 a3 a4 a5 a7 a8 : Value) : (xV k_So_asks C 90 [a0, a1, a2, a3, a4, a5, .int x, a7, a8] r hp) = (xV k_So_asks C 92 [a0, a1, a2, a3, a4, a5, .int x, a7, a8] (.int x :: r) hp) := xVe _ _ _ _ _ _
theorem s_So_asks_92 (x y : Int32) (C : xCx) (L r : List Value) (hp : xHp) : (xV k_So_asks C 92 L (.int y :: .int x :: r) hp) = (xV k_So_asks C 93 L (.int (x + y) :: r) hp) := xVe _ _ _ _ _ _
theorem s_So_asks_93 (C : xCx) (r : List Value) (hp : xHp) (x : Int32) (a0 a1 a2 a3 a4 a5 a6 a7 a8 : Value) : (xV k_So_asks C 93 [a0, a1, a2, a3, a4, a5, a6, a7, a8] (.int x :: r) hp) = (3 < 9 ∧ xNl [a0, a1, a2, a3, a4, a5, a6, a7, a8] 3 ∧ xV k_So_asks C 94 [a0, a1, a2, .int x, a4, a5, a6, a7, a8] r hp) := xVe _ _ _ _ _ _
theorem s_So_asks_94 (C : xCx) (r : List Value) (hp : xHp) (x : Int32) (a0 a1 a2 a3 a4 a5 a7 a8 : Value) : (xV k_So_asks C 94 [a0, a1, a2, a3, a4, a5, .int x, a7, a8] r hp) = (xNl [a0, a1, a2, a3, a4, a5, .int x, a7, a8] 6 ∧ xV k_So_asks C 97 [a0, a1, a2, a3, a4, a5, .int (x + (1)), a7, a8] r hp) := xVe _ _ _ _ _ _
theorem s_So_asks_97 (C : xCx) (L r : List Value) (hp : xHp) : (xV k_So_asks C 97 L r hp) = (xV k_So_asks C 36 L r hp) := xVe _ _ _ _ _ _
theorem s_So_asks_100 (C : xCx) (r : List Value) (hp : xHp) (x : Int32) (a0 a1 a2 a3 a4 a6 a7 a8 : Value) : (xV k_So_asks C 100 [a0, a1, a2, a3, a4, .int x, a6, a7, a8] r hp) = (xNl [a0, a1, a2, a3, a4, .int x, a6, a7, a8] 5 ∧ xV k_So_asks C 103 [a0, a1, a2, a3, a4, .int (x + (1)), a6, a7, a8] r hp) := xVe _ _ _ _ _ _
theorem s_So_asks_103 (C : xCx) (L r : List Value) (hp : xHp) : (xV k_So_asks C 103 L r hp) = (xV k_So_asks C 27 L r hp) := xVe _ _ _ _ _ _
theorem s_So_asks_106 (C : xCx) (r : List Value) (hp : xHp) (x : Nat) (a1 a2 a3 a4 a5 a6 a7 a8 : Value) : (xV k_So_asks C 106 [.ref x, a1, a2, a3, a4, a5, a6, a7, a8] r hp) = (True ∧ xV k_So_asks C 107 [.ref x, a1, a2, a3, a4, a5, a6, a7, a8] (.ref x :: r) hp) := xVe _ _ _ _ _ _
theorem s_So_asks_107 (a : Nat) (C : xCx) (L r : List Value) (hp : xHp) : (xV k_So_asks C 107 L (.ref a :: r) hp) = (xF hp a 0 1 (fun v => xV k_So_asks C 110 L (v :: r) hp)) := xVe _ _ _ _ _ _
theorem s_So_asks_110 (C : xCx) (r : List Value) (hp : xHp) (x : Int32) (a0 a1 a2 a3 a5 a6 a7 a8 : Value) : (xV k_So_asks C 110 [a0, a1, a2, a3, .int x, a5, a6, a7, a8] r hp) = (xV k_So_asks C 112 [a0, a1, a2, a3, .int x, a5, a6, a7, a8] (.int x :: r) hp) := xVe _ _ _ _ _ _
theorem s_So_asks_112 (x : Int32) (C : xCx) (L r : List Value) (hp : xHp) : (xV k_So_asks C 112 L (.int x :: r) hp) = (xV k_So_asks C 113 L (.long x.toInt64 :: r) hp) := xVe _ _ _ _ _ _
theorem s_So_asks_113 (x0 : Int64) (a : Nat) (l : Launch) (d b lo gz n0 s0 : Nat) (Po : Option Value → xHp → Prop) (L r : List Value) (hp : xHp) : (xV k_So_asks (l, d + 1, b, lo, gz, n0, s0, m_So_asks, Po) 113 L (.long x0 :: .ref a :: r) hp) = (xO hp a 7 ∧ xcs r 8 ∧ xMv l d b lo gz m_Row_tell1 [.ref a, .long x0] hp (fun hp' => xV k_So_asks (l, d + 1, b, lo, gz, n0, s0, m_So_asks, Po) 116 L r hp')) := xVe _ _ _ _ _ _
theorem s_So_asks_116 (C : xCx) (r : List Value) (hp : xHp) (x : Int32) (a0 a1 a2 a4 a5 a6 a7 a8 : Value) : (xV k_So_asks C 116 [a0, a1, a2, .int x, a4, a5, a6, a7, a8] r hp) = (xV k_So_asks C 117 [a0, a1, a2, .int x, a4, a5, a6, a7, a8] (.int x :: r) hp) := xVe _ _ _ _ _ _
theorem s_So_asks_117 (v : Int32) (l : Launch) (d b lo gz n0 s0 : Nat) (Po : Option Value → xHp → Prop) (L : List Value) (hp : xHp) : (xV k_So_asks (l, d, b, lo, gz, n0, s0, m_So_asks, Po) 117 L [.int v] hp) = (Po (some (.int v)) hp) := xVe _ _ _ _ _ _
def k_So_howManySuit : List xEC := [
  (0, .iconst 0, 1, 0, 0, 0, m_x),
  (1, .istore 4, 3, 0, 0, 0, m_x),
  (3, .iconst 0, 4, 0, 0, 0, m_x),
  (4, .istore 5, 6, 0, 0, 0, m_x),
  (6, .iload 5, 8, 0, 0, 0, m_x),
  (8, .aload_n 0, 9, 0, 0, 0, m_x),
  (9, .getfield 54, 12, 0, 6, 0, m_x),
  (12, .invokevirtual 150, 15, 3, 0, 0, m_Folk_size),
  (15, .if_icmp .ge 32, 18, 0, 47, 0, m_x),
  (18, .iload_n 1, 19, 0, 0, 0, m_x),
  (19, .iconst 1, 20, 0, 0, 0, m_x),
  (20, .iload 5, 22, 0, 0, 0, m_x),
  (22, .ishl, 23, 0, 0, 0, m_x),
  (23, .iand, 24, 0, 0, 0, m_x),
  (24, .ifCond .eq 17, 27, 0, 41, 0, m_x),
  (27, .aload_n 0, 28, 0, 0, 0, m_x),
  (28, .iload 5, 30, 0, 0, 0, m_x),
  (30, .iload_n 2, 31, 0, 0, 0, m_x),
  (31, .iload_n 3, 32, 0, 0, 0, m_x),
  (32, .invokevirtual 379, 35, 0, 0, 0, m_So_suits),
  (35, .ifCond .eq 6, 38, 0, 41, 0, m_x),
  (38, .iinc 4 1, 41, 0, 0, 0, m_x),
  (41, .iinc 5 1, 44, 0, 0, 0, m_x),
  (44, .goto (-38), 47, 0, 6, 0, m_x),
  (47, .iload 4, 49, 0, 0, 0, m_x),
  (49, .ireturn, 50, 0, 0, 0, m_x)]
theorem dc_So_howManySuit : ∀ E ∈ k_So_howManySuit, xDc m_So_howManySuit E := by decide +kernel
set_option maxRecDepth 20000 in
theorem ok_So_howManySuit : ∀ E ∈ k_So_howManySuit, xOk m_So_howManySuit E := xok_of dc_So_howManySuit (xfc trivial (xfc trivial (xfc trivial (xfc trivial (xfc trivial (xfc trivial (xfc fl_So_54 (xfc ⟨ml_So_150, kd_Folk_size⟩ (xfc (show ((15 : Nat) : Int) + (32) = ((47 : Nat) : Int) from by decide) (xfc trivial (xfc trivial (xfc trivial (xfc trivial (xfc trivial (xfc (show ((24 : Nat) : Int) + (17) = ((41 : Nat) : Int) from by decide) (xfc trivial (xfc trivial (xfc trivial (xfc trivial (xfc ⟨ml_So_379, kd_So_suits⟩ (xfc (show ((35 : Nat) : Int) + (6) = ((41 : Nat) : Int) from by decide) (xfc trivial (xfc trivial (xfc (show ((44 : Nat) : Int) + (-38) = ((6 : Nat) : Int) from by decide) (xfc trivial (xfc trivial (xfn)))))))))))))))))))))))))))
theorem s_So_howManySuit_0  (C : xCx) (L r : List Value) (hp : xHp) : (xV k_So_howManySuit C 0 L (r) hp) = (xV k_So_howManySuit C 1 L (.int (0) :: r) hp) := xVe _ _ _ _ _ _
theorem s_So_howManySuit_1 (C : xCx) (r : List Value) (hp : xHp) (x : Int32) (a0 a1 a2 a3 a4 a5 : Value) : (xV k_So_howManySuit C 1 [a0, a1, a2, a3, a4, a5] (.int x :: r) hp) = (4 < 6 ∧ xNl [a0, a1, a2, a3, a4, a5] 4 ∧ xV k_So_howManySuit C 3 [a0, a1, a2, a3, .int x, a5] r hp) := xVe _ _ _ _ _ _
theorem s_So_howManySuit_3  (C : xCx) (L r : List Value) (hp : xHp) : (xV k_So_howManySuit C 3 L (r) hp) = (xV k_So_howManySuit C 4 L (.int (0) :: r) hp) := xVe _ _ _ _ _ _
theorem s_So_howManySuit_4 (C : xCx) (r : List Value) (hp : xHp) (x : Int32) (a0 a1 a2 a3 a4 a5 : Value) : (xV k_So_howManySuit C 4 [a0, a1, a2, a3, a4, a5] (.int x :: r) hp) = (5 < 6 ∧ xNl [a0, a1, a2, a3, a4, a5] 5 ∧ xV k_So_howManySuit C 6 [a0, a1, a2, a3, a4, .int x] r hp) := xVe _ _ _ _ _ _
theorem s_So_howManySuit_6 (C : xCx) (r : List Value) (hp : xHp) (x : Int32) (a0 a1 a2 a3 a4 : Value) : (xV k_So_howManySuit C 6 [a0, a1, a2, a3, a4, .int x] r hp) = (xV k_So_howManySuit C 8 [a0, a1, a2, a3, a4, .int x] (.int x :: r) hp) := xVe _ _ _ _ _ _
theorem s_So_howManySuit_8 (C : xCx) (r : List Value) (hp : xHp) (x : Nat) (a1 a2 a3 a4 a5 : Value) : (xV k_So_howManySuit C 8 [.ref x, a1, a2, a3, a4, a5] r hp) = (True ∧ xV k_So_howManySuit C 9 [.ref x, a1, a2, a3, a4, a5] (.ref x :: r) hp) := xVe _ _ _ _ _ _
theorem s_So_howManySuit_9 (a : Nat) (C : xCx) (L r : List Value) (hp : xHp) : (xV k_So_howManySuit C 9 L (.ref a :: r) hp) = (xF hp a 0 6 (fun v => xV k_So_howManySuit C 12 L (v :: r) hp)) := xVe _ _ _ _ _ _
theorem s_So_howManySuit_12 (a : Nat) (l : Launch) (d b lo gz n0 s0 : Nat) (Po : Option Value → xHp → Prop) (L r : List Value) (hp : xHp) : (xV k_So_howManySuit (l, d + 1, b, lo, gz, n0, s0, m_So_howManySuit, Po) 12 L (.ref a :: r) hp) = (xO hp a 3 ∧ xcs r 8 ∧ xMi l d b lo gz m_Folk_size [.ref a] hp (fun x hp' => xV k_So_howManySuit (l, d + 1, b, lo, gz, n0, s0, m_So_howManySuit, Po) 15 L (.int x :: r) hp')) := xVe _ _ _ _ _ _
theorem s_So_howManySuit_15 (x y : Int32) (C : xCx) (L r : List Value) (hp : xHp) : (xV k_So_howManySuit C 15 L (.int y :: .int x :: r) hp) = (((y ≤ x → xV k_So_howManySuit C 47 L r hp) ∧ (¬ y ≤ x → xV k_So_howManySuit C 18 L r hp))) := xVe _ _ _ _ _ _
theorem s_So_howManySuit_18 (C : xCx) (r : List Value) (hp : xHp) (x : Int32) (a0 a2 a3 a4 a5 : Value) : (xV k_So_howManySuit C 18 [a0, .int x, a2, a3, a4, a5] r hp) = (xV k_So_howManySuit C 19 [a0, .int x, a2, a3, a4, a5] (.int x :: r) hp) := xVe _ _ _ _ _ _
theorem s_So_howManySuit_19  (C : xCx) (L r : List Value) (hp : xHp) : (xV k_So_howManySuit C 19 L (r) hp) = (xV k_So_howManySuit C 20 L (.int (1) :: r) hp) := xVe _ _ _ _ _ _
theorem s_So_howManySuit_20 (C : xCx) (r : List Value) (hp : xHp) (x : Int32) (a0 a1 a2 a3 a4 : Value) : (xV k_So_howManySuit C 20 [a0, a1, a2, a3, a4, .int x] r hp) = (xV k_So_howManySuit C 22 [a0, a1, a2, a3, a4, .int x] (.int x :: r) hp) := xVe _ _ _ _ _ _
theorem s_So_howManySuit_22 (x y : Int32) (C : xCx) (L r : List Value) (hp : xHp) : (xV k_So_howManySuit C 22 L (.int y :: .int x :: r) hp) = (xV k_So_howManySuit C 23 L (.int (x <<< (y &&& 31)) :: r) hp) := xVe _ _ _ _ _ _
theorem s_So_howManySuit_23 (x y : Int32) (C : xCx) (L r : List Value) (hp : xHp) : (xV k_So_howManySuit C 23 L (.int y :: .int x :: r) hp) = (xV k_So_howManySuit C 24 L (.int (x &&& y) :: r) hp) := xVe _ _ _ _ _ _
theorem s_So_howManySuit_24 (x : Int32) (C : xCx) (L r : List Value) (hp : xHp) : (xV k_So_howManySuit C 24 L (.int x :: r) hp) = (((x = 0 → xV k_So_howManySuit C 41 L r hp) ∧ (¬ x = 0 → xV k_So_howManySuit C 27 L r hp))) := xVe _ _ _ _ _ _
theorem s_So_howManySuit_27 (C : xCx) (r : List Value) (hp : xHp) (x : Nat) (a1 a2 a3 a4 a5 : Value) : (xV k_So_howManySuit C 27 [.ref x, a1, a2, a3, a4, a5] r hp) = (True ∧ xV k_So_howManySuit C 28 [.ref x, a1, a2, a3, a4, a5] (.ref x :: r) hp) := xVe _ _ _ _ _ _
theorem s_So_howManySuit_28 (C : xCx) (r : List Value) (hp : xHp) (x : Int32) (a0 a1 a2 a3 a4 : Value) : (xV k_So_howManySuit C 28 [a0, a1, a2, a3, a4, .int x] r hp) = (xV k_So_howManySuit C 30 [a0, a1, a2, a3, a4, .int x] (.int x :: r) hp) := xVe _ _ _ _ _ _
theorem s_So_howManySuit_30 (C : xCx) (r : List Value) (hp : xHp) (x : Int32) (a0 a1 a3 a4 a5 : Value) : (xV k_So_howManySuit C 30 [a0, a1, .int x, a3, a4, a5] r hp) = (xV k_So_howManySuit C 31 [a0, a1, .int x, a3, a4, a5] (.int x :: r) hp) := xVe _ _ _ _ _ _
theorem s_So_howManySuit_31 (C : xCx) (r : List Value) (hp : xHp) (x : Int32) (a0 a1 a2 a4 a5 : Value) : (xV k_So_howManySuit C 31 [a0, a1, a2, .int x, a4, a5] r hp) = (xV k_So_howManySuit C 32 [a0, a1, a2, .int x, a4, a5] (.int x :: r) hp) := xVe _ _ _ _ _ _
theorem s_So_howManySuit_32 (x0 : Int32) (x1 : Int32) (x2 : Int32) (a : Nat) (l : Launch) (d b lo gz n0 s0 : Nat) (Po : Option Value → xHp → Prop) (L r : List Value) (hp : xHp) : (xV k_So_howManySuit (l, d + 1, b, lo, gz, n0, s0, m_So_howManySuit, Po) 32 L (.int x2 :: .int x1 :: .int x0 :: .ref a :: r) hp) = (xO hp a 0 ∧ xcs r 8 ∧ xMi l d b lo gz m_So_suits [.ref a, .int x0, .int x1, .int x2] hp (fun x hp' => xV k_So_howManySuit (l, d + 1, b, lo, gz, n0, s0, m_So_howManySuit, Po) 35 L (.int x :: r) hp')) := xVe _ _ _ _ _ _
theorem s_So_howManySuit_35 (x : Int32) (C : xCx) (L r : List Value) (hp : xHp) : (xV k_So_howManySuit C 35 L (.int x :: r) hp) = (((x = 0 → xV k_So_howManySuit C 41 L r hp) ∧ (¬ x = 0 → xV k_So_howManySuit C 38 L r hp))) := xVe _ _ _ _ _ _
theorem s_So_howManySuit_38 (C : xCx) (r : List Value) (hp : xHp) (x : Int32) (a0 a1 a2 a3 a5 : Value) : (xV k_So_howManySuit C 38 [a0, a1, a2, a3, .int x, a5] r hp) = (xNl [a0, a1, a2, a3, .int x, a5] 4 ∧ xV k_So_howManySuit C 41 [a0, a1, a2, a3, .int (x + (1)), a5] r hp) := xVe _ _ _ _ _ _
theorem s_So_howManySuit_41 (C : xCx) (r : List Value) (hp : xHp) (x : Int32) (a0 a1 a2 a3 a4 : Value) : (xV k_So_howManySuit C 41 [a0, a1, a2, a3, a4, .int x] r hp) = (xNl [a0, a1, a2, a3, a4, .int x] 5 ∧ xV k_So_howManySuit C 44 [a0, a1, a2, a3, a4, .int (x + (1))] r hp) := xVe _ _ _ _ _ _
theorem s_So_howManySuit_44 (C : xCx) (L r : List Value) (hp : xHp) : (xV k_So_howManySuit C 44 L r hp) = (xV k_So_howManySuit C 6 L r hp) := xVe _ _ _ _ _ _
theorem s_So_howManySuit_47 (C : xCx) (r : List Value) (hp : xHp) (x : Int32) (a0 a1 a2 a3 a5 : Value) : (xV k_So_howManySuit C 47 [a0, a1, a2, a3, .int x, a5] r hp) = (xV k_So_howManySuit C 49 [a0, a1, a2, a3, .int x, a5] (.int x :: r) hp) := xVe _ _ _ _ _ _
theorem s_So_howManySuit_49 (v : Int32) (l : Launch) (d b lo gz n0 s0 : Nat) (Po : Option Value → xHp → Prop) (L : List Value) (hp : xHp) : (xV k_So_howManySuit (l, d, b, lo, gz, n0, s0, m_So_howManySuit, Po) 49 L [.int v] hp) = (Po (some (.int v)) hp) := xVe _ _ _ _ _ _
theorem ml_So_385 : xLk "SunnyOnes" 385 m_Chance_tell := Or.inl (wg5 12 (by decide +kernel) rfl)
def k_So_chance : List xEC := [
  (0, .aload_n 0, 1, 0, 0, 0, m_x),
  (1, .iload_n 1, 2, 0, 0, 0, m_x),
  (2, .invokevirtual 179, 5, 0, 0, 0, m_So_has),
  (5, .ifCond .eq 23, 8, 0, 28, 0, m_x),
  (8, .iload_n 2, 9, 0, 0, 0, m_x),
  (9, .ifCond .lt 19, 12, 0, 28, 0, m_x),
  (12, .iload_n 2, 13, 0, 0, 0, m_x),
  (13, .bipush 8, 15, 0, 0, 0, m_x),
  (15, .if_icmp .gt 13, 18, 0, 28, 0, m_x),
  (18, .iload_n 3, 19, 0, 0, 0, m_x),
  (19, .ifCond .lt 9, 22, 0, 28, 0, m_x),
  (22, .iload_n 3, 23, 0, 0, 0, m_x),
  (23, .bipush 10, 25, 0, 0, 0, m_x),
  (25, .if_icmp .le 5, 28, 0, 30, 0, m_x),
  (28, .iconst (-1), 29, 0, 0, 0, m_x),
  (29, .ireturn, 30, 0, 0, 0, m_x),
  (30, .iload 4, 32, 0, 0, 0, m_x),
  (32, .ifCond .lt 10, 35, 0, 42, 0, m_x),
  (35, .iload 4, 37, 0, 0, 0, m_x),
  (37, .bipush 72, 39, 0, 0, 0, m_x),
  (39, .if_icmp .le 5, 42, 0, 44, 0, m_x),
  (42, .iconst (-1), 43, 0, 0, 0, m_x),
  (43, .ireturn, 44, 0, 0, 0, m_x),
  (44, .aload_n 0, 45, 0, 0, 0, m_x),
  (45, .getfield 58, 48, 0, 7, 0, m_x),
  (48, .aload_n 0, 49, 0, 0, 0, m_x),
  (49, .getfield 54, 52, 0, 6, 0, m_x),
  (52, .invokevirtual 215, 55, 3, 0, 0, m_Folk_copyFrom),
  (55, .aload_n 0, 56, 0, 0, 0, m_x),
  (56, .getfield 106, 59, 0, 14, 0, m_x),
  (59, .iload_n 1, 60, 0, 0, 0, m_x),
  (60, .iload_n 2, 61, 0, 0, 0, m_x),
  (61, .iload_n 3, 62, 0, 0, 0, m_x),
  (62, .iload 4, 64, 0, 0, 0, m_x),
  (64, .aload_n 0, 65, 0, 0, 0, m_x),
  (65, .getfield 19, 68, 0, 1, 0, m_x),
  (68, .invokevirtual 385, 71, 1, 0, 0, m_Chance_tell),
  (71, .iconst 0, 72, 0, 0, 0, m_x),
  (72, .ireturn, 73, 0, 0, 0, m_x)]
theorem dc_So_chance : ∀ E ∈ k_So_chance, xDc m_So_chance E := by decide +kernel
set_option maxRecDepth 20000 in
theorem ok_So_chance : ∀ E ∈ k_So_chance, xOk m_So_chance E := xok_of dc_So_chance (xfc trivial (xfc trivial (xfc ⟨ml_So_179, kd_So_has⟩ (xfc (show ((5 : Nat) : Int) + (23) = ((28 : Nat) : Int) from by decide) (xfc trivial (xfc (show ((9 : Nat) : Int) + (19) = ((28 : Nat) : Int) from by decide) (xfc trivial (xfc trivial (xfc (show ((15 : Nat) : Int) + (13) = ((28 : Nat) : Int) from by decide) (xfc trivial (xfc (show ((19 : Nat) : Int) + (9) = ((28 : Nat) : Int) from by decide) (xfc trivial (xfc trivial (xfc (show ((25 : Nat) : Int) + (5) = ((30 : Nat) : Int) from by decide) (xfc trivial (xfc trivial (xfc trivial (xfc (show ((32 : Nat) : Int) + (10) = ((42 : Nat) : Int) from by decide) (xfc trivial (xfc trivial (xfc (show ((39 : Nat) : Int) + (5) = ((44 : Nat) : Int) from by decide) (xfc trivial (xfc trivial (xfc trivial (xfc fl_So_58 (xfc trivial (xfc fl_So_54 (xfc ⟨ml_So_215, kd_Folk_copyFrom⟩ (xfc trivial (xfc fl_So_106 (xfc trivial (xfc trivial (xfc trivial (xfc trivial (xfc trivial (xfc fl_So_19 (xfc ⟨ml_So_385, kd_Chance_tell⟩ (xfc trivial (xfc trivial (xfn))))))))))))))))))))))))))))))))))))))))
theorem s_So_chance_0 (C : xCx) (r : List Value) (hp : xHp) (x : Nat) (a1 a2 a3 a4 : Value) : (xV k_So_chance C 0 [.ref x, a1, a2, a3, a4] r hp) = (True ∧ xV k_So_chance C 1 [.ref x, a1, a2, a3, a4] (.ref x :: r) hp) := xVe _ _ _ _ _ _
theorem s_So_chance_1 (C : xCx) (r : List Value) (hp : xHp) (x : Int32) (a0 a2 a3 a4 : Value) : (xV k_So_chance C 1 [a0, .int x, a2, a3, a4] r hp) = (xV k_So_chance C 2 [a0, .int x, a2, a3, a4] (.int x :: r) hp) := xVe _ _ _ _ _ _
theorem s_So_chance_2 (x0 : Int32) (a : Nat) (l : Launch) (d b lo gz n0 s0 : Nat) (Po : Option Value → xHp → Prop) (L r : List Value) (hp : xHp) : (xV k_So_chance (l, d + 1, b, lo, gz, n0, s0, m_So_chance, Po) 2 L (.int x0 :: .ref a :: r) hp) = (xO hp a 0 ∧ xcs r 8 ∧ xMi l d b lo gz m_So_has [.ref a, .int x0] hp (fun x hp' => xV k_So_chance (l, d + 1, b, lo, gz, n0, s0, m_So_chance, Po) 5 L (.int x :: r) hp')) := xVe _ _ _ _ _ _
theorem s_So_chance_5 (x : Int32) (C : xCx) (L r : List Value) (hp : xHp) : (xV k_So_chance C 5 L (.int x :: r) hp) = (((x = 0 → xV k_So_chance C 28 L r hp) ∧ (¬ x = 0 → xV k_So_chance C 8 L r hp))) := xVe _ _ _ _ _ _
theorem s_So_chance_8 (C : xCx) (r : List Value) (hp : xHp) (x : Int32) (a0 a1 a3 a4 : Value) : (xV k_So_chance C 8 [a0, a1, .int x, a3, a4] r hp) = (xV k_So_chance C 9 [a0, a1, .int x, a3, a4] (.int x :: r) hp) := xVe _ _ _ _ _ _
theorem s_So_chance_9 (x : Int32) (C : xCx) (L r : List Value) (hp : xHp) : (xV k_So_chance C 9 L (.int x :: r) hp) = (((x < 0 → xV k_So_chance C 28 L r hp) ∧ (¬ x < 0 → xV k_So_chance C 12 L r hp))) := xVe _ _ _ _ _ _
theorem s_So_chance_12 (C : xCx) (r : List Value) (hp : xHp) (x : Int32) (a0 a1 a3 a4 : Value) : (xV k_So_chance C 12 [a0, a1, .int x, a3, a4] r hp) = (xV k_So_chance C 13 [a0, a1, .int x, a3, a4] (.int x :: r) hp) := xVe _ _ _ _ _ _
theorem s_So_chance_13  (C : xCx) (L r : List Value) (hp : xHp) : (xV k_So_chance C 13 L (r) hp) = (xV k_So_chance C 15 L (.int (8) :: r) hp) := xVe _ _ _ _ _ _
theorem s_So_chance_15 (x y : Int32) (C : xCx) (L r : List Value) (hp : xHp) : (xV k_So_chance C 15 L (.int y :: .int x :: r) hp) = (((y < x → xV k_So_chance C 28 L r hp) ∧ (¬ y < x → xV k_So_chance C 18 L r hp))) := xVe _ _ _ _ _ _
theorem s_So_chance_18 (C : xCx) (r : List Value) (hp : xHp) (x : Int32) (a0 a1 a2 a4 : Value) : (xV k_So_chance C 18 [a0, a1, a2, .int x, a4] r hp) = (xV k_So_chance C 19 [a0, a1, a2, .int x, a4] (.int x :: r) hp) := xVe _ _ _ _ _ _
theorem s_So_chance_19 (x : Int32) (C : xCx) (L r : List Value) (hp : xHp) : (xV k_So_chance C 19 L (.int x :: r) hp) = (((x < 0 → xV k_So_chance C 28 L r hp) ∧ (¬ x < 0 → xV k_So_chance C 22 L r hp))) := xVe _ _ _ _ _ _
theorem s_So_chance_22 (C : xCx) (r : List Value) (hp : xHp) (x : Int32) (a0 a1 a2 a4 : Value) : (xV k_So_chance C 22 [a0, a1, a2, .int x, a4] r hp) = (xV k_So_chance C 23 [a0, a1, a2, .int x, a4] (.int x :: r) hp) := xVe _ _ _ _ _ _
theorem s_So_chance_23  (C : xCx) (L r : List Value) (hp : xHp) : (xV k_So_chance C 23 L (r) hp) = (xV k_So_chance C 25 L (.int (10) :: r) hp) := xVe _ _ _ _ _ _
theorem s_So_chance_25 (x y : Int32) (C : xCx) (L r : List Value) (hp : xHp) : (xV k_So_chance C 25 L (.int y :: .int x :: r) hp) = (((x ≤ y → xV k_So_chance C 30 L r hp) ∧ (¬ x ≤ y → xV k_So_chance C 28 L r hp))) := xVe _ _ _ _ _ _
theorem s_So_chance_28  (C : xCx) (L r : List Value) (hp : xHp) : (xV k_So_chance C 28 L (r) hp) = (xV k_So_chance C 29 L (.int (-1) :: r) hp) := xVe _ _ _ _ _ _
theorem s_So_chance_29 (v : Int32) (l : Launch) (d b lo gz n0 s0 : Nat) (Po : Option Value → xHp → Prop) (L : List Value) (hp : xHp) : (xV k_So_chance (l, d, b, lo, gz, n0, s0, m_So_chance, Po) 29 L [.int v] hp) = (Po (some (.int v)) hp) := xVe _ _ _ _ _ _
theorem s_So_chance_30 (C : xCx) (r : List Value) (hp : xHp) (x : Int32) (a0 a1 a2 a3 : Value) : (xV k_So_chance C 30 [a0, a1, a2, a3, .int x] r hp) = (xV k_So_chance C 32 [a0, a1, a2, a3, .int x] (.int x :: r) hp) := xVe _ _ _ _ _ _
theorem s_So_chance_32 (x : Int32) (C : xCx) (L r : List Value) (hp : xHp) : (xV k_So_chance C 32 L (.int x :: r) hp) = (((x < 0 → xV k_So_chance C 42 L r hp) ∧ (¬ x < 0 → xV k_So_chance C 35 L r hp))) := xVe _ _ _ _ _ _
theorem s_So_chance_35 (C : xCx) (r : List Value) (hp : xHp) (x : Int32) (a0 a1 a2 a3 : Value) : (xV k_So_chance C 35 [a0, a1, a2, a3, .int x] r hp) = (xV k_So_chance C 37 [a0, a1, a2, a3, .int x] (.int x :: r) hp) := xVe _ _ _ _ _ _
theorem s_So_chance_37  (C : xCx) (L r : List Value) (hp : xHp) : (xV k_So_chance C 37 L (r) hp) = (xV k_So_chance C 39 L (.int (72) :: r) hp) := xVe _ _ _ _ _ _
theorem s_So_chance_39 (x y : Int32) (C : xCx) (L r : List Value) (hp : xHp) : (xV k_So_chance C 39 L (.int y :: .int x :: r) hp) = (((x ≤ y → xV k_So_chance C 44 L r hp) ∧ (¬ x ≤ y → xV k_So_chance C 42 L r hp))) := xVe _ _ _ _ _ _
theorem s_So_chance_42  (C : xCx) (L r : List Value) (hp : xHp) : (xV k_So_chance C 42 L (r) hp) = (xV k_So_chance C 43 L (.int (-1) :: r) hp) := xVe _ _ _ _ _ _
theorem s_So_chance_43 (v : Int32) (l : Launch) (d b lo gz n0 s0 : Nat) (Po : Option Value → xHp → Prop) (L : List Value) (hp : xHp) : (xV k_So_chance (l, d, b, lo, gz, n0, s0, m_So_chance, Po) 43 L [.int v] hp) = (Po (some (.int v)) hp) := xVe _ _ _ _ _ _
theorem s_So_chance_44 (C : xCx) (r : List Value) (hp : xHp) (x : Nat) (a1 a2 a3 a4 : Value) : (xV k_So_chance C 44 [.ref x, a1, a2, a3, a4] r hp) = (True ∧ xV k_So_chance C 45 [.ref x, a1, a2, a3, a4] (.ref x :: r) hp) := xVe _ _ _ _ _ _
theorem s_So_chance_45 (a : Nat) (C : xCx) (L r : List Value) (hp : xHp) : (xV k_So_chance C 45 L (.ref a :: r) hp) = (xF hp a 0 7 (fun v => xV k_So_chance C 48 L (v :: r) hp)) := xVe _ _ _ _ _ _
theorem s_So_chance_48 (C : xCx) (r : List Value) (hp : xHp) (x : Nat) (a1 a2 a3 a4 : Value) : (xV k_So_chance C 48 [.ref x, a1, a2, a3, a4] r hp) = (True ∧ xV k_So_chance C 49 [.ref x, a1, a2, a3, a4] (.ref x :: r) hp) := xVe _ _ _ _ _ _
theorem s_So_chance_49 (a : Nat) (C : xCx) (L r : List Value) (hp : xHp) : (xV k_So_chance C 49 L (.ref a :: r) hp) = (xF hp a 0 6 (fun v => xV k_So_chance C 52 L (v :: r) hp)) := xVe _ _ _ _ _ _
theorem s_So_chance_52 (x0 : Nat) (a : Nat) (l : Launch) (d b lo gz n0 s0 : Nat) (Po : Option Value → xHp → Prop) (L r : List Value) (hp : xHp) : (xV k_So_chance (l, d + 1, b, lo, gz, n0, s0, m_So_chance, Po) 52 L (.ref x0 :: .ref a :: r) hp) = (xO hp a 3 ∧ xcs r 8 ∧ xMv l d b lo gz m_Folk_copyFrom [.ref a, .ref x0] hp (fun hp' => xV k_So_chance (l, d + 1, b, lo, gz, n0, s0, m_So_chance, Po) 55 L r hp')) := xVe _ _ _ _ _ _
theorem s_So_chance_55 (C : xCx) (r : List Value) (hp : xHp) (x : Nat) (a1 a2 a3 a4 : Value) : (xV k_So_chance C 55 [.ref x, a1, a2, a3, a4] r hp) = (True ∧ xV k_So_chance C 56 [.ref x, a1, a2, a3, a4] (.ref x :: r) hp) := xVe _ _ _ _ _ _
theorem s_So_chance_56 (a : Nat) (C : xCx) (L r : List Value) (hp : xHp) : (xV k_So_chance C 56 L (.ref a :: r) hp) = (xF hp a 0 14 (fun v => xV k_So_chance C 59 L (v :: r) hp)) := xVe _ _ _ _ _ _
theorem s_So_chance_59 (C : xCx) (r : List Value) (hp : xHp) (x : Int32) (a0 a2 a3 a4 : Value) : (xV k_So_chance C 59 [a0, .int x, a2, a3, a4] r hp) = (xV k_So_chance C 60 [a0, .int x, a2, a3, a4] (.int x :: r) hp) := xVe _ _ _ _ _ _
theorem s_So_chance_60 (C : xCx) (r : List Value) (hp : xHp) (x : Int32) (a0 a1 a3 a4 : Value) : (xV k_So_chance C 60 [a0, a1, .int x, a3, a4] r hp) = (xV k_So_chance C 61 [a0, a1, .int x, a3, a4] (.int x :: r) hp) := xVe _ _ _ _ _ _
theorem s_So_chance_61 (C : xCx) (r : List Value) (hp : xHp) (x : Int32) (a0 a1 a2 a4 : Value) : (xV k_So_chance C 61 [a0, a1, a2, .int x, a4] r hp) = (xV k_So_chance C 62 [a0, a1, a2, .int x, a4] (.int x :: r) hp) := xVe _ _ _ _ _ _
theorem s_So_chance_62 (C : xCx) (r : List Value) (hp : xHp) (x : Int32) (a0 a1 a2 a3 : Value) : (xV k_So_chance C 62 [a0, a1, a2, a3, .int x] r hp) = (xV k_So_chance C 64 [a0, a1, a2, a3, .int x] (.int x :: r) hp) := xVe _ _ _ _ _ _
theorem s_So_chance_64 (C : xCx) (r : List Value) (hp : xHp) (x : Nat) (a1 a2 a3 a4 : Value) : (xV k_So_chance C 64 [.ref x, a1, a2, a3, a4] r hp) = (True ∧ xV k_So_chance C 65 [.ref x, a1, a2, a3, a4] (.ref x :: r) hp) := xVe _ _ _ _ _ _
theorem s_So_chance_65 (a : Nat) (C : xCx) (L r : List Value) (hp : xHp) : (xV k_So_chance C 65 L (.ref a :: r) hp) = (xF hp a 0 1 (fun v => xV k_So_chance C 68 L (v :: r) hp)) := xVe _ _ _ _ _ _
theorem s_So_chance_68 (x0 : Int32) (x1 : Int32) (x2 : Int32) (x3 : Int32) (x4 : Nat) (a : Nat) (l : Launch) (d b lo gz n0 s0 : Nat) (Po : Option Value → xHp → Prop) (L r : List Value) (hp : xHp) : (xV k_So_chance (l, d + 1, b, lo, gz, n0, s0, m_So_chance, Po) 68 L (.ref x4 :: .int x3 :: .int x2 :: .int x1 :: .int x0 :: .ref a :: r) hp) = (xO hp a 1 ∧ xcs r 8 ∧ xMv l d b lo gz m_Chance_tell [.ref a, .int x0, .int x1, .int x2, .int x3, .ref x4] hp (fun hp' => xV k_So_chance (l, d + 1, b, lo, gz, n0, s0, m_So_chance, Po) 71 L r hp')) := xVe _ _ _ _ _ _
theorem s_So_chance_71  (C : xCx) (L r : List Value) (hp : xHp) : (xV k_So_chance C 71 L (r) hp) = (xV k_So_chance C 72 L (.int (0) :: r) hp) := xVe _ _ _ _ _ _
theorem s_So_chance_72 (v : Int32) (l : Launch) (d b lo gz n0 s0 : Nat) (Po : Option Value → xHp → Prop) (L : List Value) (hp : xHp) : (xV k_So_chance (l, d, b, lo, gz, n0, s0, m_So_chance, Po) 72 L [.int v] hp) = (Po (some (.int v)) hp) := xVe _ _ _ _ _ _
theorem ml_So_388 : xLk "SunnyOnes" 388 m_So_greatestFibonacci := Or.inl (wg5 42 (by decide +kernel) rfl)
def k_So_parasol : List xEC := [
  (0, .iload_n 1, 1, 0, 0, 0, m_x),
  (1, .ifCond .lt 9, 4, 0, 10, 0, m_x),
  (4, .iload_n 1, 5, 0, 0, 0, m_x),
  (5, .bipush 60, 7, 0, 0, 0, m_x),
  (7, .if_icmp .le 5, 10, 0, 12, 0, m_x),
  (10, .iconst (-1), 11, 0, 0, 0, m_x),
  (11, .ireturn, 12, 0, 0, 0, m_x),
  (12, .iload_n 1, 13, 0, 0, 0, m_x),
  (13, .istore_n 2, 14, 0, 0, 0, m_x),
  (14, .iload_n 1, 15, 0, 0, 0, m_x),
  (15, .istore_n 3, 16, 0, 0, 0, m_x),
  (16, .iconst 0, 17, 0, 0, 0, m_x),
  (17, .istore 4, 19, 0, 0, 0, m_x),
  (19, .iload 4, 21, 0, 0, 0, m_x),
  (21, .bipush 60, 23, 0, 0, 0, m_x),
  (23, .if_icmp .ge 22, 26, 0, 45, 0, m_x),
  (26, .iload_n 2, 27, 0, 0, 0, m_x),
  (27, .ifCond .le 18, 30, 0, 45, 0, m_x),
  (30, .iload_n 2, 31, 0, 0, 0, m_x),
  (31, .invokestatic 388, 34, 0, 0, 0, m_So_greatestFibonacci),
  (34, .istore_n 3, 35, 0, 0, 0, m_x),
  (35, .iload_n 2, 36, 0, 0, 0, m_x),
  (36, .iload_n 3, 37, 0, 0, 0, m_x),
  (37, .isub, 38, 0, 0, 0, m_x),
  (38, .istore_n 2, 39, 0, 0, 0, m_x),
  (39, .iinc 4 1, 42, 0, 0, 0, m_x),
  (42, .goto (-23), 45, 0, 19, 0, m_x),
  (45, .iload_n 3, 46, 0, 0, 0, m_x),
  (46, .iload_n 1, 47, 0, 0, 0, m_x),
  (47, .if_icmp .ne 7, 50, 0, 54, 0, m_x),
  (50, .iconst 0, 51, 0, 0, 0, m_x),
  (51, .goto 4, 54, 0, 55, 0, m_x),
  (54, .iload_n 3, 55, 0, 0, 0, m_x),
  (55, .ireturn, 56, 0, 0, 0, m_x)]
theorem dc_So_parasol : ∀ E ∈ k_So_parasol, xDc m_So_parasol E := by decide +kernel
set_option maxRecDepth 20000 in
theorem ok_So_parasol : ∀ E ∈ k_So_parasol, xOk m_So_parasol E := xok_of dc_So_parasol (xfc trivial (xfc (show ((1 : Nat) : Int) + (9) = ((10 : Nat) : Int) from by decide) (xfc trivial (xfc trivial (xfc (show ((7 : Nat) : Int) + (5) = ((12 : Nat) : Int) from by decide) (xfc trivial (xfc trivial (xfc trivial (xfc trivial (xfc trivial (xfc trivial (xfc trivial (xfc trivial (xfc trivial (xfc trivial (xfc (show ((23 : Nat) : Int) + (22) = ((45 : Nat) : Int) from by decide) (xfc trivial (xfc (show ((27 : Nat) : Int) + (18) = ((45 : Nat) : Int) from by decide) (xfc trivial (xfc ⟨ml_So_388, kd_So_greatestFibonacci⟩ (xfc trivial (xfc trivial (xfc trivial (xfc trivial (xfc trivial (xfc trivial (xfc (show ((42 : Nat) : Int) + (-23) = ((19 : Nat) : Int) from by decide) (xfc trivial (xfc trivial (xfc (show ((47 : Nat) : Int) + (7) = ((54 : Nat) : Int) from by decide) (xfc trivial (xfc (show ((51 : Nat) : Int) + (4) = ((55 : Nat) : Int) from by decide) (xfc trivial (xfc trivial (xfn)))))))))))))))))))))))))))))))))))
theorem s_So_parasol_0 (C : xCx) (r : List Value) (hp : xHp) (x : Int32) (a0 a2 a3 a4 : Value) : (xV k_So_parasol C 0 [a0, .int x, a2, a3, a4] r hp) = (xV k_So_parasol C 1 [a0, .int x, a2, a3, a4] (.int x :: r) hp) := xVe _ _ _ _ _ _
theorem s_So_parasol_1 (x : Int32) (C : xCx) (L r : List Value) (hp : xHp) : (xV k_So_parasol C 1 L (.int x :: r) hp) = (((x < 0 → xV k_So_parasol C 10 L r hp) ∧ (¬ x < 0 → xV k_So_parasol C 4 L r hp))) := xVe _ _ _ _ _ _
theorem s_So_parasol_4 (C : xCx) (r : List Value) (hp : xHp) (x : Int32) (a0 a2 a3 a4 : Value) : (xV k_So_parasol C 4 [a0, .int x, a2, a3, a4] r hp) = (xV k_So_parasol C 5 [a0, .int x, a2, a3, a4] (.int x :: r) hp) := xVe _ _ _ _ _ _
theorem s_So_parasol_5  (C : xCx) (L r : List Value) (hp : xHp) : (xV k_So_parasol C 5 L (r) hp) = (xV k_So_parasol C 7 L (.int (60) :: r) hp) := xVe _ _ _ _ _ _
theorem s_So_parasol_7 (x y : Int32) (C : xCx) (L r : List Value) (hp : xHp) : (xV k_So_parasol C 7 L (.int y :: .int x :: r) hp) = (((x ≤ y → xV k_So_parasol C 12 L r hp) ∧ (¬ x ≤ y → xV k_So_parasol C 10 L r hp))) := xVe _ _ _ _ _ _
theorem s_So_parasol_10  (C : xCx) (L r : List Value) (hp : xHp) : (xV k_So_parasol C 10 L (r) hp) = (xV k_So_parasol C 11 L (.int (-1) :: r) hp) := xVe _ _ _ _ _ _
theorem s_So_parasol_11 (v : Int32) (l : Launch) (d b lo gz n0 s0 : Nat) (Po : Option Value → xHp → Prop) (L : List Value) (hp : xHp) : (xV k_So_parasol (l, d, b, lo, gz, n0, s0, m_So_parasol, Po) 11 L [.int v] hp) = (Po (some (.int v)) hp) := xVe _ _ _ _ _ _
theorem s_So_parasol_12 (C : xCx) (r : List Value) (hp : xHp) (x : Int32) (a0 a2 a3 a4 : Value) : (xV k_So_parasol C 12 [a0, .int x, a2, a3, a4] r hp) = (xV k_So_parasol C 13 [a0, .int x, a2, a3, a4] (.int x :: r) hp) := xVe _ _ _ _ _ _
theorem s_So_parasol_13 (C : xCx) (r : List Value) (hp : xHp) (x : Int32) (a0 a1 a2 a3 a4 : Value) : (xV k_So_parasol C 13 [a0, a1, a2, a3, a4] (.int x :: r) hp) = (2 < 5 ∧ xNl [a0, a1, a2, a3, a4] 2 ∧ xV k_So_parasol C 14 [a0, a1, .int x, a3, a4] r hp) := xVe _ _ _ _ _ _
theorem s_So_parasol_14 (C : xCx) (r : List Value) (hp : xHp) (x : Int32) (a0 a2 a3 a4 : Value) : (xV k_So_parasol C 14 [a0, .int x, a2, a3, a4] r hp) = (xV k_So_parasol C 15 [a0, .int x, a2, a3, a4] (.int x :: r) hp) := xVe _ _ _ _ _ _
theorem s_So_parasol_15 (C : xCx) (r : List Value) (hp : xHp) (x : Int32) (a0 a1 a2 a3 a4 : Value) : (xV k_So_parasol C 15 [a0, a1, a2, a3, a4] (.int x :: r) hp) = (3 < 5 ∧ xNl [a0, a1, a2, a3, a4] 3 ∧ xV k_So_parasol C 16 [a0, a1, a2, .int x, a4] r hp) := xVe _ _ _ _ _ _
theorem s_So_parasol_16  (C : xCx) (L r : List Value) (hp : xHp) : (xV k_So_parasol C 16 L (r) hp) = (xV k_So_parasol C 17 L (.int (0) :: r) hp) := xVe _ _ _ _ _ _
theorem s_So_parasol_17 (C : xCx) (r : List Value) (hp : xHp) (x : Int32) (a0 a1 a2 a3 a4 : Value) : (xV k_So_parasol C 17 [a0, a1, a2, a3, a4] (.int x :: r) hp) = (4 < 5 ∧ xNl [a0, a1, a2, a3, a4] 4 ∧ xV k_So_parasol C 19 [a0, a1, a2, a3, .int x] r hp) := xVe _ _ _ _ _ _
theorem s_So_parasol_19 (C : xCx) (r : List Value) (hp : xHp) (x : Int32) (a0 a1 a2 a3 : Value) : (xV k_So_parasol C 19 [a0, a1, a2, a3, .int x] r hp) = (xV k_So_parasol C 21 [a0, a1, a2, a3, .int x] (.int x :: r) hp) := xVe _ _ _ _ _ _
theorem s_So_parasol_21  (C : xCx) (L r : List Value) (hp : xHp) : (xV k_So_parasol C 21 L (r) hp) = (xV k_So_parasol C 23 L (.int (60) :: r) hp) := xVe _ _ _ _ _ _
theorem s_So_parasol_23 (x y : Int32) (C : xCx) (L r : List Value) (hp : xHp) : (xV k_So_parasol C 23 L (.int y :: .int x :: r) hp) = (((y ≤ x → xV k_So_parasol C 45 L r hp) ∧ (¬ y ≤ x → xV k_So_parasol C 26 L r hp))) := xVe _ _ _ _ _ _
theorem s_So_parasol_26 (C : xCx) (r : List Value) (hp : xHp) (x : Int32) (a0 a1 a3 a4 : Value) : (xV k_So_parasol C 26 [a0, a1, .int x, a3, a4] r hp) = (xV k_So_parasol C 27 [a0, a1, .int x, a3, a4] (.int x :: r) hp) := xVe _ _ _ _ _ _
theorem s_So_parasol_27 (x : Int32) (C : xCx) (L r : List Value) (hp : xHp) : (xV k_So_parasol C 27 L (.int x :: r) hp) = (((x ≤ 0 → xV k_So_parasol C 45 L r hp) ∧ (¬ x ≤ 0 → xV k_So_parasol C 30 L r hp))) := xVe _ _ _ _ _ _
theorem s_So_parasol_30 (C : xCx) (r : List Value) (hp : xHp) (x : Int32) (a0 a1 a3 a4 : Value) : (xV k_So_parasol C 30 [a0, a1, .int x, a3, a4] r hp) = (xV k_So_parasol C 31 [a0, a1, .int x, a3, a4] (.int x :: r) hp) := xVe _ _ _ _ _ _
theorem s_So_parasol_31 (x0 : Int32) (l : Launch) (d b lo gz n0 s0 : Nat) (Po : Option Value → xHp → Prop) (L r : List Value) (hp : xHp) : (xV k_So_parasol (l, d + 1, b, lo, gz, n0, s0, m_So_parasol, Po) 31 L (.int x0 :: r) hp) = (1 ≤ List.length (.int x0 :: r) ∧ xcs r 8 ∧ xMi l d b lo gz m_So_greatestFibonacci [.int x0] hp (fun x hp' => xV k_So_parasol (l, d + 1, b, lo, gz, n0, s0, m_So_parasol, Po) 34 L (.int x :: r) hp')) := xVe _ _ _ _ _ _
theorem s_So_parasol_34 (C : xCx) (r : List Value) (hp : xHp) (x : Int32) (a0 a1 a2 a3 a4 : Value) : (xV k_So_parasol C 34 [a0, a1, a2, a3, a4] (.int x :: r) hp) = (3 < 5 ∧ xNl [a0, a1, a2, a3, a4] 3 ∧ xV k_So_parasol C 35 [a0, a1, a2, .int x, a4] r hp) := xVe _ _ _ _ _ _
theorem s_So_parasol_35 (C : xCx) (r : List Value) (hp : xHp) (x : Int32) (a0 a1 a3 a4 : Value) : (xV k_So_parasol C 35 [a0, a1, .int x, a3, a4] r hp) = (xV k_So_parasol C 36 [a0, a1, .int x, a3, a4] (.int x :: r) hp) := xVe _ _ _ _ _ _
theorem s_So_parasol_36 (C : xCx) (r : List Value) (hp : xHp) (x : Int32) (a0 a1 a2 a4 : Value) : (xV k_So_parasol C 36 [a0, a1, a2, .int x, a4] r hp) = (xV k_So_parasol C 37 [a0, a1, a2, .int x, a4] (.int x :: r) hp) := xVe _ _ _ _ _ _
theorem s_So_parasol_37 (x y : Int32) (C : xCx) (L r : List Value) (hp : xHp) : (xV k_So_parasol C 37 L (.int y :: .int x :: r) hp) = (xV k_So_parasol C 38 L (.int (x - y) :: r) hp) := xVe _ _ _ _ _ _
theorem s_So_parasol_38 (C : xCx) (r : List Value) (hp : xHp) (x : Int32) (a0 a1 a2 a3 a4 : Value) : (xV k_So_parasol C 38 [a0, a1, a2, a3, a4] (.int x :: r) hp) = (2 < 5 ∧ xNl [a0, a1, a2, a3, a4] 2 ∧ xV k_So_parasol C 39 [a0, a1, .int x, a3, a4] r hp) := xVe _ _ _ _ _ _
theorem s_So_parasol_39 (C : xCx) (r : List Value) (hp : xHp) (x : Int32) (a0 a1 a2 a3 : Value) : (xV k_So_parasol C 39 [a0, a1, a2, a3, .int x] r hp) = (xNl [a0, a1, a2, a3, .int x] 4 ∧ xV k_So_parasol C 42 [a0, a1, a2, a3, .int (x + (1))] r hp) := xVe _ _ _ _ _ _
theorem s_So_parasol_42 (C : xCx) (L r : List Value) (hp : xHp) : (xV k_So_parasol C 42 L r hp) = (xV k_So_parasol C 19 L r hp) := xVe _ _ _ _ _ _
theorem s_So_parasol_45 (C : xCx) (r : List Value) (hp : xHp) (x : Int32) (a0 a1 a2 a4 : Value) : (xV k_So_parasol C 45 [a0, a1, a2, .int x, a4] r hp) = (xV k_So_parasol C 46 [a0, a1, a2, .int x, a4] (.int x :: r) hp) := xVe _ _ _ _ _ _
theorem s_So_parasol_46 (C : xCx) (r : List Value) (hp : xHp) (x : Int32) (a0 a2 a3 a4 : Value) : (xV k_So_parasol C 46 [a0, .int x, a2, a3, a4] r hp) = (xV k_So_parasol C 47 [a0, .int x, a2, a3, a4] (.int x :: r) hp) := xVe _ _ _ _ _ _
theorem s_So_parasol_47 (x y : Int32) (C : xCx) (L r : List Value) (hp : xHp) : (xV k_So_parasol C 47 L (.int y :: .int x :: r) hp) = (((¬ x = y → xV k_So_parasol C 54 L r hp) ∧ (x = y → xV k_So_parasol C 50 L r hp))) := xVe _ _ _ _ _ _
theorem s_So_parasol_50  (C : xCx) (L r : List Value) (hp : xHp) : (xV k_So_parasol C 50 L (r) hp) = (xV k_So_parasol C 51 L (.int (0) :: r) hp) := xVe _ _ _ _ _ _
theorem s_So_parasol_51 (C : xCx) (L r : List Value) (hp : xHp) : (xV k_So_parasol C 51 L r hp) = (xV k_So_parasol C 55 L r hp) := xVe _ _ _ _ _ _
theorem s_So_parasol_54 (C : xCx) (r : List Value) (hp : xHp) (x : Int32) (a0 a1 a2 a4 : Value) : (xV k_So_parasol C 54 [a0, a1, a2, .int x, a4] r hp) = (xV k_So_parasol C 55 [a0, a1, a2, .int x, a4] (.int x :: r) hp) := xVe _ _ _ _ _ _
theorem s_So_parasol_55 (v : Int32) (l : Launch) (d b lo gz n0 s0 : Nat) (Po : Option Value → xHp → Prop) (L : List Value) (hp : xHp) : (xV k_So_parasol (l, d, b, lo, gz, n0, s0, m_So_parasol, Po) 55 L [.int v] hp) = (Po (some (.int v)) hp) := xVe _ _ _ _ _ _
def k_So_greatestFibonacci : List xEC := [
  (0, .iconst 1, 1, 0, 0, 0, m_x),
  (1, .istore_n 1, 2, 0, 0, 0, m_x),
  (2, .iconst 2, 3, 0, 0, 0, m_x),
  (3, .istore_n 2, 4, 0, 0, 0, m_x),
  (4, .iconst 0, 5, 0, 0, 0, m_x),
  (5, .istore_n 3, 6, 0, 0, 0, m_x),
  (6, .iload_n 3, 7, 0, 0, 0, m_x),
  (7, .bipush 60, 9, 0, 0, 0, m_x),
  (9, .if_icmp .ge 24, 12, 0, 33, 0, m_x),
  (12, .iload_n 2, 13, 0, 0, 0, m_x),
  (13, .iload_n 0, 14, 0, 0, 0, m_x),
  (14, .if_icmp .gt 19, 17, 0, 33, 0, m_x),
  (17, .iload_n 1, 18, 0, 0, 0, m_x),
  (18, .iload_n 2, 19, 0, 0, 0, m_x),
  (19, .iadd, 20, 0, 0, 0, m_x),
  (20, .istore 4, 22, 0, 0, 0, m_x),
  (22, .iload_n 2, 23, 0, 0, 0, m_x),
  (23, .istore_n 1, 24, 0, 0, 0, m_x),
  (24, .iload 4, 26, 0, 0, 0, m_x),
  (26, .istore_n 2, 27, 0, 0, 0, m_x),
  (27, .iinc 3 1, 30, 0, 0, 0, m_x),
  (30, .goto (-24), 33, 0, 6, 0, m_x),
  (33, .iload_n 1, 34, 0, 0, 0, m_x),
  (34, .ireturn, 35, 0, 0, 0, m_x)]
theorem dc_So_greatestFibonacci : ∀ E ∈ k_So_greatestFibonacci, xDc m_So_greatestFibonacci E := by decide +kernel
set_option maxRecDepth 20000 in
theorem ok_So_greatestFibonacci : ∀ E ∈ k_So_greatestFibonacci, xOk m_So_greatestFibonacci E := xok_of dc_So_greatestFibonacci (xfc trivial (xfc trivial (xfc trivial (xfc trivial (xfc trivial (xfc trivial (xfc trivial (xfc trivial (xfc (show ((9 : Nat) : Int) + (24) = ((33 : Nat) : Int) from by decide) (xfc trivial (xfc trivial (xfc (show ((14 : Nat) : Int) + (19) = ((33 : Nat) : Int) from by decide) (xfc trivial (xfc trivial (xfc trivial (xfc trivial (xfc trivial (xfc trivial (xfc trivial (xfc trivial (xfc trivial (xfc (show ((30 : Nat) : Int) + (-24) = ((6 : Nat) : Int) from by decide) (xfc trivial (xfc trivial (xfn)))))))))))))))))))))))))
theorem s_So_greatestFibonacci_0  (C : xCx) (L r : List Value) (hp : xHp) : (xV k_So_greatestFibonacci C 0 L (r) hp) = (xV k_So_greatestFibonacci C 1 L (.int (1) :: r) hp) := xVe _ _ _ _ _ _
theorem s_So_greatestFibonacci_1 (C : xCx) (r : List Value) (hp : xHp) (x : Int32) (a0 a1 a2 a3 a4 : Value) : (xV k_So_greatestFibonacci C 1 [a0, a1, a2, a3, a4] (.int x :: r) hp) = (1 < 5 ∧ xNl [a0, a1, a2, a3, a4] 1 ∧ xV k_So_greatestFibonacci C 2 [a0, .int x, a2, a3, a4] r hp) := xVe _ _ _ _ _ _
theorem s_So_greatestFibonacci_2  (C : xCx) (L r : List Value) (hp : xHp) : (xV k_So_greatestFibonacci C 2 L (r) hp) = (xV k_So_greatestFibonacci C 3 L (.int (2) :: r) hp) := xVe _ _ _ _ _ _
theorem s_So_greatestFibonacci_3 (C : xCx) (r : List Value) (hp : xHp) (x : Int32) (a0 a1 a2 a3 a4 : Value) : (xV k_So_greatestFibonacci C 3 [a0, a1, a2, a3, a4] (.int x :: r) hp) = (2 < 5 ∧ xNl [a0, a1, a2, a3, a4] 2 ∧ xV k_So_greatestFibonacci C 4 [a0, a1, .int x, a3, a4] r hp) := xVe _ _ _ _ _ _
theorem s_So_greatestFibonacci_4  (C : xCx) (L r : List Value) (hp : xHp) : (xV k_So_greatestFibonacci C 4 L (r) hp) = (xV k_So_greatestFibonacci C 5 L (.int (0) :: r) hp) := xVe _ _ _ _ _ _
theorem s_So_greatestFibonacci_5 (C : xCx) (r : List Value) (hp : xHp) (x : Int32) (a0 a1 a2 a3 a4 : Value) : (xV k_So_greatestFibonacci C 5 [a0, a1, a2, a3, a4] (.int x :: r) hp) = (3 < 5 ∧ xNl [a0, a1, a2, a3, a4] 3 ∧ xV k_So_greatestFibonacci C 6 [a0, a1, a2, .int x, a4] r hp) := xVe _ _ _ _ _ _
theorem s_So_greatestFibonacci_6 (C : xCx) (r : List Value) (hp : xHp) (x : Int32) (a0 a1 a2 a4 : Value) : (xV k_So_greatestFibonacci C 6 [a0, a1, a2, .int x, a4] r hp) = (xV k_So_greatestFibonacci C 7 [a0, a1, a2, .int x, a4] (.int x :: r) hp) := xVe _ _ _ _ _ _
theorem s_So_greatestFibonacci_7  (C : xCx) (L r : List Value) (hp : xHp) : (xV k_So_greatestFibonacci C 7 L (r) hp) = (xV k_So_greatestFibonacci C 9 L (.int (60) :: r) hp) := xVe _ _ _ _ _ _
theorem s_So_greatestFibonacci_9 (x y : Int32) (C : xCx) (L r : List Value) (hp : xHp) : (xV k_So_greatestFibonacci C 9 L (.int y :: .int x :: r) hp) = (((y ≤ x → xV k_So_greatestFibonacci C 33 L r hp) ∧ (¬ y ≤ x → xV k_So_greatestFibonacci C 12 L r hp))) := xVe _ _ _ _ _ _
theorem s_So_greatestFibonacci_12 (C : xCx) (r : List Value) (hp : xHp) (x : Int32) (a0 a1 a3 a4 : Value) : (xV k_So_greatestFibonacci C 12 [a0, a1, .int x, a3, a4] r hp) = (xV k_So_greatestFibonacci C 13 [a0, a1, .int x, a3, a4] (.int x :: r) hp) := xVe _ _ _ _ _ _
theorem s_So_greatestFibonacci_13 (C : xCx) (r : List Value) (hp : xHp) (x : Int32) (a1 a2 a3 a4 : Value) : (xV k_So_greatestFibonacci C 13 [.int x, a1, a2, a3, a4] r hp) = (xV k_So_greatestFibonacci C 14 [.int x, a1, a2, a3, a4] (.int x :: r) hp) := xVe _ _ _ _ _ _
theorem s_So_greatestFibonacci_14 (x y : Int32) (C : xCx) (L r : List Value) (hp : xHp) : (xV k_So_greatestFibonacci C 14 L (.int y :: .int x :: r) hp) = (((y < x → xV k_So_greatestFibonacci C 33 L r hp) ∧ (¬ y < x → xV k_So_greatestFibonacci C 17 L r hp))) := xVe _ _ _ _ _ _
theorem s_So_greatestFibonacci_17 (C : xCx) (r : List Value) (hp : xHp) (x : Int32) (a0 a2 a3 a4 : Value) : (xV k_So_greatestFibonacci C 17 [a0, .int x, a2, a3, a4] r hp) = (xV k_So_greatestFibonacci C 18 [a0, .int x, a2, a3, a4] (.int x :: r) hp) := xVe _ _ _ _ _ _
theorem s_So_greatestFibonacci_18 (C : xCx) (r : List Value) (hp : xHp) (x : Int32) (a0 a1 a3 a4 : Value) : (xV k_So_greatestFibonacci C 18 [a0, a1, .int x, a3, a4] r hp) = (xV k_So_greatestFibonacci C 19 [a0, a1, .int x, a3, a4] (.int x :: r) hp) := xVe _ _ _ _ _ _
theorem s_So_greatestFibonacci_19 (x y : Int32) (C : xCx) (L r : List Value) (hp : xHp) : (xV k_So_greatestFibonacci C 19 L (.int y :: .int x :: r) hp) = (xV k_So_greatestFibonacci C 20 L (.int (x + y) :: r) hp) := xVe _ _ _ _ _ _
theorem s_So_greatestFibonacci_20 (C : xCx) (r : List Value) (hp : xHp) (x : Int32) (a0 a1 a2 a3 a4 : Value) : (xV k_So_greatestFibonacci C 20 [a0, a1, a2, a3, a4] (.int x :: r) hp) = (4 < 5 ∧ xNl [a0, a1, a2, a3, a4] 4 ∧ xV k_So_greatestFibonacci C 22 [a0, a1, a2, a3, .int x] r hp) := xVe _ _ _ _ _ _
theorem s_So_greatestFibonacci_22 (C : xCx) (r : List Value) (hp : xHp) (x : Int32) (a0 a1 a3 a4 : Value) : (xV k_So_greatestFibonacci C 22 [a0, a1, .int x, a3, a4] r hp) = (xV k_So_greatestFibonacci C 23 [a0, a1, .int x, a3, a4] (.int x :: r) hp) := xVe _ _ _ _ _ _
theorem s_So_greatestFibonacci_23 (C : xCx) (r : List Value) (hp : xHp) (x : Int32) (a0 a1 a2 a3 a4 : Value) : (xV k_So_greatestFibonacci C 23 [a0, a1, a2, a3, a4] (.int x :: r) hp) = (1 < 5 ∧ xNl [a0, a1, a2, a3, a4] 1 ∧ xV k_So_greatestFibonacci C 24 [a0, .int x, a2, a3, a4] r hp) := xVe _ _ _ _ _ _
theorem s_So_greatestFibonacci_24 (C : xCx) (r : List Value) (hp : xHp) (x : Int32) (a0 a1 a2 a3 : Value) : (xV k_So_greatestFibonacci C 24 [a0, a1, a2, a3, .int x] r hp) = (xV k_So_greatestFibonacci C 26 [a0, a1, a2, a3, .int x] (.int x :: r) hp) := xVe _ _ _ _ _ _
theorem s_So_greatestFibonacci_26 (C : xCx) (r : List Value) (hp : xHp) (x : Int32) (a0 a1 a2 a3 a4 : Value) : (xV k_So_greatestFibonacci C 26 [a0, a1, a2, a3, a4] (.int x :: r) hp) = (2 < 5 ∧ xNl [a0, a1, a2, a3, a4] 2 ∧ xV k_So_greatestFibonacci C 27 [a0, a1, .int x, a3, a4] r hp) := xVe _ _ _ _ _ _
theorem s_So_greatestFibonacci_27 (C : xCx) (r : List Value) (hp : xHp) (x : Int32) (a0 a1 a2 a4 : Value) : (xV k_So_greatestFibonacci C 27 [a0, a1, a2, .int x, a4] r hp) = (xNl [a0, a1, a2, .int x, a4] 3 ∧ xV k_So_greatestFibonacci C 30 [a0, a1, a2, .int (x + (1)), a4] r hp) := xVe _ _ _ _ _ _
theorem s_So_greatestFibonacci_30 (C : xCx) (L r : List Value) (hp : xHp) : (xV k_So_greatestFibonacci C 30 L r hp) = (xV k_So_greatestFibonacci C 6 L r hp) := xVe _ _ _ _ _ _
theorem s_So_greatestFibonacci_33 (C : xCx) (r : List Value) (hp : xHp) (x : Int32) (a0 a2 a3 a4 : Value) : (xV k_So_greatestFibonacci C 33 [a0, .int x, a2, a3, a4] r hp) = (xV k_So_greatestFibonacci C 34 [a0, .int x, a2, a3, a4] (.int x :: r) hp) := xVe _ _ _ _ _ _
theorem s_So_greatestFibonacci_34 (v : Int32) (l : Launch) (d b lo gz n0 s0 : Nat) (Po : Option Value → xHp → Prop) (L : List Value) (hp : xHp) : (xV k_So_greatestFibonacci (l, d, b, lo, gz, n0, s0, m_So_greatestFibonacci, Po) 34 L [.int v] hp) = (Po (some (.int v)) hp) := xVe _ _ _ _ _ _
theorem ml_So_391 : xLk "SunnyOnes" 391 m_So_isBest := Or.inl (wg5 49 (by decide +kernel) rfl)
def k_So_rests : List xEC := [
  (0, .iload_n 1, 1, 0, 0, 0, m_x),
  (1, .ifCond .lt 9, 4, 0, 10, 0, m_x),
  (4, .iload_n 1, 5, 0, 0, 0, m_x),
  (5, .bipush 20, 7, 0, 0, 0, m_x),
  (7, .if_icmp .le 5, 10, 0, 12, 0, m_x),
  (10, .iconst (-1), 11, 0, 0, 0, m_x),
  (11, .ireturn, 12, 0, 0, 0, m_x),
  (12, .iconst 0, 13, 0, 0, 0, m_x),
  (13, .istore_n 2, 14, 0, 0, 0, m_x),
  (14, .aload_n 0, 15, 0, 0, 0, m_x),
  (15, .getfield 19, 18, 0, 1, 0, m_x),
  (18, .invokevirtual 300, 21, 7, 0, 0, m_Row_clear),
  (21, .iconst 0, 22, 0, 0, 0, m_x),
  (22, .istore_n 3, 23, 0, 0, 0, m_x),
  (23, .iload_n 3, 24, 0, 0, 0, m_x),
  (24, .bipush 10, 26, 0, 0, 0, m_x),
  (26, .if_icmp .ge 64, 29, 0, 90, 0, m_x),
  (29, .iconst 0, 30, 0, 0, 0, m_x),
  (30, .istore 4, 32, 0, 0, 0, m_x),
  (32, .iload 4, 34, 0, 0, 0, m_x),
  (34, .bipush 10, 36, 0, 0, 0, m_x),
  (36, .if_icmp .ge 48, 39, 0, 84, 0, m_x),
  (39, .iload_n 1, 40, 0, 0, 0, m_x),
  (40, .iload_n 3, 41, 0, 0, 0, m_x),
  (41, .iload 4, 43, 0, 0, 0, m_x),
  (43, .invokestatic 391, 46, 0, 0, 0, m_So_isBest),
  (46, .ifCond .eq 32, 49, 0, 78, 0, m_x),
  (49, .iload_n 1, 50, 0, 0, 0, m_x),
  (50, .iload 4, 52, 0, 0, 0, m_x),
  (52, .iload_n 3, 53, 0, 0, 0, m_x),
  (53, .invokestatic 391, 56, 0, 0, 0, m_So_isBest),
  (56, .ifCond .eq 22, 59, 0, 78, 0, m_x),
  (59, .iload_n 2, 60, 0, 0, 0, m_x),
  (60, .ifCond .ne 15, 63, 0, 75, 0, m_x),
  (63, .aload_n 0, 64, 0, 0, 0, m_x),
  (64, .getfield 19, 67, 0, 1, 0, m_x),
  (67, .iload_n 3, 68, 0, 0, 0, m_x),
  (68, .i2l, 69, 0, 0, 0, m_x),
  (69, .iload 4, 71, 0, 0, 0, m_x),
  (71, .i2l, 72, 0, 0, 0, m_x),
  (72, .invokevirtual 225, 75, 7, 0, 0, m_Row_tell2),
  (75, .iinc 2 1, 78, 0, 0, 0, m_x),
  (78, .iinc 4 1, 81, 0, 0, 0, m_x),
  (81, .goto (-49), 84, 0, 32, 0, m_x),
  (84, .iinc 3 1, 87, 0, 0, 0, m_x),
  (87, .goto (-64), 90, 0, 23, 0, m_x),
  (90, .iload_n 2, 91, 0, 0, 0, m_x),
  (91, .ireturn, 92, 0, 0, 0, m_x)]
theorem dc_So_rests : ∀ E ∈ k_So_rests, xDc m_So_rests E := by decide +kernel
set_option maxRecDepth 20000 in
theorem ok_So_rests : ∀ E ∈ k_So_rests, xOk m_So_rests E := xok_of dc_So_rests (xfc trivial (xfc (show ((1 : Nat) : Int) + (9) = ((10 : Nat) : Int) from by decide) (xfc trivial (xfc trivial (xfc (show ((7 : Nat) : Int) + (5) = ((12 : Nat) : Int) from by decide) (xfc trivial (xfc trivial (xfc trivial (xfc trivial (xfc trivial (xfc fl_So_19 (xfc ⟨ml_So_300, kd_Row_clear⟩ (xfc trivial (xfc trivial (xfc trivial (xfc trivial (xfc (show ((26 : Nat) : Int) + (64) = ((90 : Nat) : Int) from by decide) (xfc trivial (xfc trivial (xfc trivial (xfc trivial (xfc (show ((36 : Nat) : Int) + (48) = ((84 : Nat) : Int) from by decide) (xfc trivial (xfc trivial (xfc trivial (xfc ⟨ml_So_391, kd_So_isBest⟩ (xfc (show ((46 : Nat) : Int) + (32) = ((78 : Nat) : Int) from by decide) (xfc trivial (xfc trivial (xfc trivial (xfc ⟨ml_So_391, kd_So_isBest⟩ (xfc (show ((56 : Nat) : Int) + (22) = ((78 : Nat) : Int) from by decide) (xfc trivial (xfc (show ((60 : Nat) : Int) + (15) = ((75 : Nat) : Int) from by decide) (xfc trivial (xfc fl_So_19 (xfc trivial (xfc trivial (xfc trivial (xfc trivial (xfc ⟨ml_So_225, kd_Row_tell2⟩ (xfc trivial (xfc trivial (xfc (show ((81 : Nat) : Int) + (-49) = ((32 : Nat) : Int) from by decide) (xfc trivial (xfc (show ((87 : Nat) : Int) + (-64) = ((23 : Nat) : Int) from by decide) (xfc trivial (xfc trivial (xfn)))))))))))))))))))))))))))))))))))))))))))))))))
theorem s_So_rests_0 (C : xCx) (r : List Value) (hp : xHp) (x : Int32) (a0 a2 a3 a4 : Value) : (xV k_So_rests C 0 [a0, .int x, a2, a3, a4] r hp) = (xV k_So_rests C 1 [a0, .int x, a2, a3, a4] (.int x :: r) hp) := xVe _ _ _ _ _ _
theorem s_So_rests_1 (x : Int32) (C : xCx) (L r : List Value) (hp : xHp) : (xV k_So_rests C 1 L (.int x :: r) hp) = (((x < 0 → xV k_So_rests C 10 L r hp) ∧ (¬ x < 0 → xV k_So_rests C 4 L r hp))) := xVe _ _ _ _ _ _
theorem s_So_rests_4 (C : xCx) (r : List Value) (hp : xHp) (x : Int32) (a0 a2 a3 a4 : Value) : (xV k_So_rests C 4 [a0, .int x, a2, a3, a4] r hp) = (xV k_So_rests C 5 [a0, .int x, a2, a3, a4] (.int x :: r) hp) := xVe _ _ _ _ _ _
theorem s_So_rests_5  (C : xCx) (L r : List Value) (hp : xHp) : (xV k_So_rests C 5 L (r) hp) = (xV k_So_rests C 7 L (.int (20) :: r) hp) := xVe _ _ _ _ _ _
theorem s_So_rests_7 (x y : Int32) (C : xCx) (L r : List Value) (hp : xHp) : (xV k_So_rests C 7 L (.int y :: .int x :: r) hp) = (((x ≤ y → xV k_So_rests C 12 L r hp) ∧ (¬ x ≤ y → xV k_So_rests C 10 L r hp))) := xVe _ _ _ _ _ _
theorem s_So_rests_10  (C : xCx) (L r : List Value) (hp : xHp) : (xV k_So_rests C 10 L (r) hp) = (xV k_So_rests C 11 L (.int (-1) :: r) hp) := xVe _ _ _ _ _ _
theorem s_So_rests_11 (v : Int32) (l : Launch) (d b lo gz n0 s0 : Nat) (Po : Option Value → xHp → Prop) (L : List Value) (hp : xHp) : (xV k_So_rests (l, d, b, lo, gz, n0, s0, m_So_rests, Po) 11 L [.int v] hp) = (Po (some (.int v)) hp) := xVe _ _ _ _ _ _
theorem s_So_rests_12  (C : xCx) (L r : List Value) (hp : xHp) : (xV k_So_rests C 12 L (r) hp) = (xV k_So_rests C 13 L (.int (0) :: r) hp) := xVe _ _ _ _ _ _
theorem s_So_rests_13 (C : xCx) (r : List Value) (hp : xHp) (x : Int32) (a0 a1 a2 a3 a4 : Value) : (xV k_So_rests C 13 [a0, a1, a2, a3, a4] (.int x :: r) hp) = (2 < 5 ∧ xNl [a0, a1, a2, a3, a4] 2 ∧ xV k_So_rests C 14 [a0, a1, .int x, a3, a4] r hp) := xVe _ _ _ _ _ _
theorem s_So_rests_14 (C : xCx) (r : List Value) (hp : xHp) (x : Nat) (a1 a2 a3 a4 : Value) : (xV k_So_rests C 14 [.ref x, a1, a2, a3, a4] r hp) = (True ∧ xV k_So_rests C 15 [.ref x, a1, a2, a3, a4] (.ref x :: r) hp) := xVe _ _ _ _ _ _
theorem s_So_rests_15 (a : Nat) (C : xCx) (L r : List Value) (hp : xHp) : (xV k_So_rests C 15 L (.ref a :: r) hp) = (xF hp a 0 1 (fun v => xV k_So_rests C 18 L (v :: r) hp)) := xVe _ _ _ _ _ _
theorem s_So_rests_18 (a : Nat) (l : Launch) (d b lo gz n0 s0 : Nat) (Po : Option Value → xHp → Prop) (L r : List Value) (hp : xHp) : (xV k_So_rests (l, d + 1, b, lo, gz, n0, s0, m_So_rests, Po) 18 L (.ref a :: r) hp) = (xO hp a 7 ∧ xcs r 8 ∧ xMv l d b lo gz m_Row_clear [.ref a] hp (fun hp' => xV k_So_rests (l, d + 1, b, lo, gz, n0, s0, m_So_rests, Po) 21 L r hp')) := xVe _ _ _ _ _ _
theorem s_So_rests_21  (C : xCx) (L r : List Value) (hp : xHp) : (xV k_So_rests C 21 L (r) hp) = (xV k_So_rests C 22 L (.int (0) :: r) hp) := xVe _ _ _ _ _ _
theorem s_So_rests_22 (C : xCx) (r : List Value) (hp : xHp) (x : Int32) (a0 a1 a2 a3 a4 : Value) : (xV k_So_rests C 22 [a0, a1, a2, a3, a4] (.int x :: r) hp) = (3 < 5 ∧ xNl [a0, a1, a2, a3, a4] 3 ∧ xV k_So_rests C 23 [a0, a1, a2, .int x, a4] r hp) := xVe _ _ _ _ _ _
theorem s_So_rests_23 (C : xCx) (r : List Value) (hp : xHp) (x : Int32) (a0 a1 a2 a4 : Value) : (xV k_So_rests C 23 [a0, a1, a2, .int x, a4] r hp) = (xV k_So_rests C 24 [a0, a1, a2, .int x, a4] (.int x :: r) hp) := xVe _ _ _ _ _ _
theorem s_So_rests_24  (C : xCx) (L r : List Value) (hp : xHp) : (xV k_So_rests C 24 L (r) hp) = (xV k_So_rests C 26 L (.int (10) :: r) hp) := xVe _ _ _ _ _ _
theorem s_So_rests_26 (x y : Int32) (C : xCx) (L r : List Value) (hp : xHp) : (xV k_So_rests C 26 L (.int y :: .int x :: r) hp) = (((y ≤ x → xV k_So_rests C 90 L r hp) ∧ (¬ y ≤ x → xV k_So_rests C 29 L r hp))) := xVe _ _ _ _ _ _
theorem s_So_rests_29  (C : xCx) (L r : List Value) (hp : xHp) : (xV k_So_rests C 29 L (r) hp) = (xV k_So_rests C 30 L (.int (0) :: r) hp) := xVe _ _ _ _ _ _
theorem s_So_rests_30 (C : xCx) (r : List Value) (hp : xHp) (x : Int32) (a0 a1 a2 a3 a4 : Value) : (xV k_So_rests C 30 [a0, a1, a2, a3, a4] (.int x :: r) hp) = (4 < 5 ∧ xNl [a0, a1, a2, a3, a4] 4 ∧ xV k_So_rests C 32 [a0, a1, a2, a3, .int x] r hp) := xVe _ _ _ _ _ _
theorem s_So_rests_32 (C : xCx) (r : List Value) (hp : xHp) (x : Int32) (a0 a1 a2 a3 : Value) : (xV k_So_rests C 32 [a0, a1, a2, a3, .int x] r hp) = (xV k_So_rests C 34 [a0, a1, a2, a3, .int x] (.int x :: r) hp) := xVe _ _ _ _ _ _
theorem s_So_rests_34  (C : xCx) (L r : List Value) (hp : xHp) : (xV k_So_rests C 34 L (r) hp) = (xV k_So_rests C 36 L (.int (10) :: r) hp) := xVe _ _ _ _ _ _
theorem s_So_rests_36 (x y : Int32) (C : xCx) (L r : List Value) (hp : xHp) : (xV k_So_rests C 36 L (.int y :: .int x :: r) hp) = (((y ≤ x → xV k_So_rests C 84 L r hp) ∧ (¬ y ≤ x → xV k_So_rests C 39 L r hp))) := xVe _ _ _ _ _ _
theorem s_So_rests_39 (C : xCx) (r : List Value) (hp : xHp) (x : Int32) (a0 a2 a3 a4 : Value) : (xV k_So_rests C 39 [a0, .int x, a2, a3, a4] r hp) = (xV k_So_rests C 40 [a0, .int x, a2, a3, a4] (.int x :: r) hp) := xVe _ _ _ _ _ _
theorem s_So_rests_40 (C : xCx) (r : List Value) (hp : xHp) (x : Int32) (a0 a1 a2 a4 : Value) : (xV k_So_rests C 40 [a0, a1, a2, .int x, a4] r hp) = (xV k_So_rests C 41 [a0, a1, a2, .int x, a4] (.int x :: r) hp) := xVe _ _ _ _ _ _
theorem s_So_rests_41 (C : xCx) (r : List Value) (hp : xHp) (x : Int32) (a0 a1 a2 a3 : Value) : (xV k_So_rests C 41 [a0, a1, a2, a3, .int x] r hp) = (xV k_So_rests C 43 [a0, a1, a2, a3, .int x] (.int x :: r) hp) := xVe _ _ _ _ _ _
theorem s_So_rests_43 (x0 : Int32) (x1 : Int32) (x2 : Int32) (l : Launch) (d b lo gz n0 s0 : Nat) (Po : Option Value → xHp → Prop) (L r : List Value) (hp : xHp) : (xV k_So_rests (l, d + 1, b, lo, gz, n0, s0, m_So_rests, Po) 43 L (.int x2 :: .int x1 :: .int x0 :: r) hp) = (3 ≤ List.length (.int x2 :: .int x1 :: .int x0 :: r) ∧ xcs r 8 ∧ xMi l d b lo gz m_So_isBest [.int x0, .int x1, .int x2] hp (fun x hp' => xV k_So_rests (l, d + 1, b, lo, gz, n0, s0, m_So_rests, Po) 46 L (.int x :: r) hp')) := xVe _ _ _ _ _ _
theorem s_So_rests_46 (x : Int32) (C : xCx) (L r : List Value) (hp : xHp) : (xV k_So_rests C 46 L (.int x :: r) hp) = (((x = 0 → xV k_So_rests C 78 L r hp) ∧ (¬ x = 0 → xV k_So_rests C 49 L r hp))) := xVe _ _ _ _ _ _
theorem s_So_rests_49 (C : xCx) (r : List Value) (hp : xHp) (x : Int32) (a0 a2 a3 a4 : Value) : (xV k_So_rests C 49 [a0, .int x, a2, a3, a4] r hp) = (xV k_So_rests C 50 [a0, .int x, a2, a3, a4] (.int x :: r) hp) := xVe _ _ _ _ _ _
theorem s_So_rests_50 (C : xCx) (r : List Value) (hp : xHp) (x : Int32) (a0 a1 a2 a3 : Value) : (xV k_So_rests C 50 [a0, a1, a2, a3, .int x] r hp) = (xV k_So_rests C 52 [a0, a1, a2, a3, .int x] (.int x :: r) hp) := xVe _ _ _ _ _ _
theorem s_So_rests_52 (C : xCx) (r : List Value) (hp : xHp) (x : Int32) (a0 a1 a2 a4 : Value) : (xV k_So_rests C 52 [a0, a1, a2, .int x, a4] r hp) = (xV k_So_rests C 53 [a0, a1, a2, .int x, a4] (.int x :: r) hp) := xVe _ _ _ _ _ _
theorem s_So_rests_53 (x0 : Int32) (x1 : Int32) (x2 : Int32) (l : Launch) (d b lo gz n0 s0 : Nat) (Po : Option Value → xHp → Prop) (L r : List Value) (hp : xHp) : (xV k_So_rests (l, d + 1, b, lo, gz, n0, s0, m_So_rests, Po) 53 L (.int x2 :: .int x1 :: .int x0 :: r) hp) = (3 ≤ List.length (.int x2 :: .int x1 :: .int x0 :: r) ∧ xcs r 8 ∧ xMi l d b lo gz m_So_isBest [.int x0, .int x1, .int x2] hp (fun x hp' => xV k_So_rests (l, d + 1, b, lo, gz, n0, s0, m_So_rests, Po) 56 L (.int x :: r) hp')) := xVe _ _ _ _ _ _
theorem s_So_rests_56 (x : Int32) (C : xCx) (L r : List Value) (hp : xHp) : (xV k_So_rests C 56 L (.int x :: r) hp) = (((x = 0 → xV k_So_rests C 78 L r hp) ∧ (¬ x = 0 → xV k_So_rests C 59 L r hp))) := xVe _ _ _ _ _ _
theorem s_So_rests_59 (C : xCx) (r : List Value) (hp : xHp) (x : Int32) (a0 a1 a3 a4 : Value) : (xV k_So_rests C 59 [a0, a1, .int x, a3, a4] r hp) = (xV k_So_rests C 60 [a0, a1, .int x, a3, a4] (.int x :: r) hp) := xVe _ _ _ _ _ _
theorem s_So_rests_60 (x : Int32) (C : xCx) (L r : List Value) (hp : xHp) : (xV k_So_rests C 60 L (.int x :: r) hp) = (((¬ x = 0 → xV k_So_rests C 75 L r hp) ∧ (x = 0 → xV k_So_rests C 63 L r hp))) := xVe _ _ _ _ _ _
theorem s_So_rests_63 (C : xCx) (r : List Value) (hp : xHp) (x : Nat) (a1 a2 a3 a4 : Value) : (xV k_So_rests C 63 [.ref x, a1, a2, a3, a4] r hp) = (True ∧ xV k_So_rests C 64 [.ref x, a1, a2, a3, a4] (.ref x :: r) hp) := xVe _ _ _ _ _ _
theorem s_So_rests_64 (a : Nat) (C : xCx) (L r : List Value) (hp : xHp) : (xV k_So_rests C 64 L (.ref a :: r) hp) = (xF hp a 0 1 (fun v => xV k_So_rests C 67 L (v :: r) hp)) := xVe _ _ _ _ _ _
theorem s_So_rests_67 (C : xCx) (r : List Value) (hp : xHp) (x : Int32) (a0 a1 a2 a4 : Value) : (xV k_So_rests C 67 [a0, a1, a2, .int x, a4] r hp) = (xV k_So_rests C 68 [a0, a1, a2, .int x, a4] (.int x :: r) hp) := xVe _ _ _ _ _ _
theorem s_So_rests_68 (x : Int32) (C : xCx) (L r : List Value) (hp : xHp) : (xV k_So_rests C 68 L (.int x :: r) hp) = (xV k_So_rests C 69 L (.long x.toInt64 :: r) hp) := xVe _ _ _ _ _ _
theorem s_So_rests_69 (C : xCx) (r : List Value) (hp : xHp) (x : Int32) (a0 a1 a2 a3 : Value) : (xV k_So_rests C 69 [a0, a1, a2, a3, .int x] r hp) = (xV k_So_rests C 71 [a0, a1, a2, a3, .int x] (.int x :: r) hp) := xVe _ _ _ _ _ _
theorem s_So_rests_71 (x : Int32) (C : xCx) (L r : List Value) (hp : xHp) : (xV k_So_rests C 71 L (.int x :: r) hp) = (xV k_So_rests C 72 L (.long x.toInt64 :: r) hp) := xVe _ _ _ _ _ _
theorem s_So_rests_72 (x0 : Int64) (x1 : Int64) (a : Nat) (l : Launch) (d b lo gz n0 s0 : Nat) (Po : Option Value → xHp → Prop) (L r : List Value) (hp : xHp) : (xV k_So_rests (l, d + 1, b, lo, gz, n0, s0, m_So_rests, Po) 72 L (.long x1 :: .long x0 :: .ref a :: r) hp) = (xO hp a 7 ∧ xcs r 8 ∧ xMv l d b lo gz m_Row_tell2 [.ref a, .long x0, .long x1] hp (fun hp' => xV k_So_rests (l, d + 1, b, lo, gz, n0, s0, m_So_rests, Po) 75 L r hp')) := xVe _ _ _ _ _ _
theorem s_So_rests_75 (C : xCx) (r : List Value) (hp : xHp) (x : Int32) (a0 a1 a3 a4 : Value) : (xV k_So_rests C 75 [a0, a1, .int x, a3, a4] r hp) = (xNl [a0, a1, .int x, a3, a4] 2 ∧ xV k_So_rests C 78 [a0, a1, .int (x + (1)), a3, a4] r hp) := xVe _ _ _ _ _ _
theorem s_So_rests_78 (C : xCx) (r : List Value) (hp : xHp) (x : Int32) (a0 a1 a2 a3 : Value) : (xV k_So_rests C 78 [a0, a1, a2, a3, .int x] r hp) = (xNl [a0, a1, a2, a3, .int x] 4 ∧ xV k_So_rests C 81 [a0, a1, a2, a3, .int (x + (1))] r hp) := xVe _ _ _ _ _ _
theorem s_So_rests_81 (C : xCx) (L r : List Value) (hp : xHp) : (xV k_So_rests C 81 L r hp) = (xV k_So_rests C 32 L r hp) := xVe _ _ _ _ _ _
theorem s_So_rests_84 (C : xCx) (r : List Value) (hp : xHp) (x : Int32) (a0 a1 a2 a4 : Value) : (xV k_So_rests C 84 [a0, a1, a2, .int x, a4] r hp) = (xNl [a0, a1, a2, .int x, a4] 3 ∧ xV k_So_rests C 87 [a0, a1, a2, .int (x + (1)), a4] r hp) := xVe _ _ _ _ _ _
theorem s_So_rests_87 (C : xCx) (L r : List Value) (hp : xHp) : (xV k_So_rests C 87 L r hp) = (xV k_So_rests C 23 L r hp) := xVe _ _ _ _ _ _
theorem s_So_rests_90 (C : xCx) (r : List Value) (hp : xHp) (x : Int32) (a0 a1 a3 a4 : Value) : (xV k_So_rests C 90 [a0, a1, .int x, a3, a4] r hp) = (xV k_So_rests C 91 [a0, a1, .int x, a3, a4] (.int x :: r) hp) := xVe _ _ _ _ _ _
theorem s_So_rests_91 (v : Int32) (l : Launch) (d b lo gz n0 s0 : Nat) (Po : Option Value → xHp → Prop) (L : List Value) (hp : xHp) : (xV k_So_rests (l, d, b, lo, gz, n0, s0, m_So_rests, Po) 91 L [.int v] hp) = (Po (some (.int v)) hp) := xVe _ _ _ _ _ _
theorem ml_So_394 : xLk "SunnyOnes" 394 m_So_gain := Or.inl (wg5 52 (by decide +kernel) rfl)
def k_So_isBest : List xEC := [
  (0, .iload_n 0, 1, 0, 0, 0, m_x),
  (1, .iload_n 1, 2, 0, 0, 0, m_x),
  (2, .iload_n 2, 3, 0, 0, 0, m_x),
  (3, .invokestatic 394, 6, 0, 0, 0, m_So_gain),
  (6, .istore_n 3, 7, 0, 0, 0, m_x),
  (7, .iconst 0, 8, 0, 0, 0, m_x),
  (8, .istore 4, 10, 0, 0, 0, m_x),
  (10, .iload 4, 12, 0, 0, 0, m_x),
  (12, .bipush 10, 14, 0, 0, 0, m_x),
  (14, .if_icmp .ge 22, 17, 0, 36, 0, m_x),
  (17, .iload_n 0, 18, 0, 0, 0, m_x),
  (18, .iload 4, 20, 0, 0, 0, m_x),
  (20, .iload_n 2, 21, 0, 0, 0, m_x),
  (21, .invokestatic 394, 24, 0, 0, 0, m_So_gain),
  (24, .iload_n 3, 25, 0, 0, 0, m_x),
  (25, .if_icmp .le 5, 28, 0, 30, 0, m_x),
  (28, .iconst 0, 29, 0, 0, 0, m_x),
  (29, .ireturn, 30, 0, 0, 0, m_x),
  (30, .iinc 4 1, 33, 0, 0, 0, m_x),
  (33, .goto (-23), 36, 0, 10, 0, m_x),
  (36, .iconst 1, 37, 0, 0, 0, m_x),
  (37, .ireturn, 38, 0, 0, 0, m_x)]
theorem dc_So_isBest : ∀ E ∈ k_So_isBest, xDc m_So_isBest E := by decide +kernel
set_option maxRecDepth 20000 in
theorem ok_So_isBest : ∀ E ∈ k_So_isBest, xOk m_So_isBest E := xok_of dc_So_isBest (xfc trivial (xfc trivial (xfc trivial (xfc ⟨ml_So_394, kd_So_gain⟩ (xfc trivial (xfc trivial (xfc trivial (xfc trivial (xfc trivial (xfc (show ((14 : Nat) : Int) + (22) = ((36 : Nat) : Int) from by decide) (xfc trivial (xfc trivial (xfc trivial (xfc ⟨ml_So_394, kd_So_gain⟩ (xfc trivial (xfc (show ((25 : Nat) : Int) + (5) = ((30 : Nat) : Int) from by decide) (xfc trivial (xfc trivial (xfc trivial (xfc (show ((33 : Nat) : Int) + (-23) = ((10 : Nat) : Int) from by decide) (xfc trivial (xfc trivial (xfn)))))))))))))))))))))))
theorem s_So_isBest_0 (C : xCx) (r : List Value) (hp : xHp) (x : Int32) (a1 a2 a3 a4 : Value) : (xV k_So_isBest C 0 [.int x, a1, a2, a3, a4] r hp) = (xV k_So_isBest C 1 [.int x, a1, a2, a3, a4] (.int x :: r) hp) := xVe _ _ _ _ _ _
theorem s_So_isBest_1 (C : xCx) (r : List Value) (hp : xHp) (x : Int32) (a0 a2 a3 a4 : Value) : (xV k_So_isBest C 1 [a0, .int x, a2, a3, a4] r hp) = (xV k_So_isBest C 2 [a0, .int x, a2, a3, a4] (.int x :: r) hp) := xVe _ _ _ _ _ _
theorem s_So_isBest_2 (C : xCx) (r : List Value) (hp : xHp) (x : Int32) (a0 a1 a3 a4 : Value) : (xV k_So_isBest C 2 [a0, a1, .int x, a3, a4] r hp) = (xV k_So_isBest C 3 [a0, a1, .int x, a3, a4] (.int x :: r) hp) := xVe _ _ _ _ _ _
theorem s_So_isBest_3 (x0 : Int32) (x1 : Int32) (x2 : Int32) (l : Launch) (d b lo gz n0 s0 : Nat) (Po : Option Value → xHp → Prop) (L r : List Value) (hp : xHp) : (xV k_So_isBest (l, d + 1, b, lo, gz, n0, s0, m_So_isBest, Po) 3 L (.int x2 :: .int x1 :: .int x0 :: r) hp) = (3 ≤ List.length (.int x2 :: .int x1 :: .int x0 :: r) ∧ xcs r 8 ∧ xMi l d b lo gz m_So_gain [.int x0, .int x1, .int x2] hp (fun x hp' => xV k_So_isBest (l, d + 1, b, lo, gz, n0, s0, m_So_isBest, Po) 6 L (.int x :: r) hp')) := xVe _ _ _ _ _ _
theorem s_So_isBest_6 (C : xCx) (r : List Value) (hp : xHp) (x : Int32) (a0 a1 a2 a3 a4 : Value) : (xV k_So_isBest C 6 [a0, a1, a2, a3, a4] (.int x :: r) hp) = (3 < 5 ∧ xNl [a0, a1, a2, a3, a4] 3 ∧ xV k_So_isBest C 7 [a0, a1, a2, .int x, a4] r hp) := xVe _ _ _ _ _ _
theorem s_So_isBest_7  (C : xCx) (L r : List Value) (hp : xHp) : (xV k_So_isBest C 7 L (r) hp) = (xV k_So_isBest C 8 L (.int (0) :: r) hp) := xVe _ _ _ _ _ _
theorem s_So_isBest_8 (C : xCx) (r : List Value) (hp : xHp) (x : Int32) (a0 a1 a2 a3 a4 : Value) : (xV k_So_isBest C 8 [a0, a1, a2, a3, a4] (.int x :: r) hp) = (4 < 5 ∧ xNl [a0, a1, a2, a3, a4] 4 ∧ xV k_So_isBest C 10 [a0, a1, a2, a3, .int x] r hp) := xVe _ _ _ _ _ _
theorem s_So_isBest_10 (C : xCx) (r : List Value) (hp : xHp) (x : Int32) (a0 a1 a2 a3 : Value) : (xV k_So_isBest C 10 [a0, a1, a2, a3, .int x] r hp) = (xV k_So_isBest C 12 [a0, a1, a2, a3, .int x] (.int x :: r) hp) := xVe _ _ _ _ _ _
theorem s_So_isBest_12  (C : xCx) (L r : List Value) (hp : xHp) : (xV k_So_isBest C 12 L (r) hp) = (xV k_So_isBest C 14 L (.int (10) :: r) hp) := xVe _ _ _ _ _ _
theorem s_So_isBest_14 (x y : Int32) (C : xCx) (L r : List Value) (hp : xHp) : (xV k_So_isBest C 14 L (.int y :: .int x :: r) hp) = (((y ≤ x → xV k_So_isBest C 36 L r hp) ∧ (¬ y ≤ x → xV k_So_isBest C 17 L r hp))) := xVe _ _ _ _ _ _
theorem s_So_isBest_17 (C : xCx) (r : List Value) (hp : xHp) (x : Int32) (a1 a2 a3 a4 : Value) : (xV k_So_isBest C 17 [.int x, a1, a2, a3, a4] r hp) = (xV k_So_isBest C 18 [.int x, a1, a2, a3, a4] (.int x :: r) hp) := xVe _ _ _ _ _ _
theorem s_So_isBest_18 (C : xCx) (r : List Value) (hp : xHp) (x : Int32) (a0 a1 a2 a3 : Value) : (xV k_So_isBest C 18 [a0, a1, a2, a3, .int x] r hp) = (xV k_So_isBest C 20 [a0, a1, a2, a3, .int x] (.int x :: r) hp) := xVe _ _ _ _ _ _
theorem s_So_isBest_20 (C : xCx) (r : List Value) (hp : xHp) (x : Int32) (a0 a1 a3 a4 : Value) : (xV k_So_isBest C 20 [a0, a1, .int x, a3, a4] r hp) = (xV k_So_isBest C 21 [a0, a1, .int x, a3, a4] (.int x :: r) hp) := xVe _ _ _ _ _ _
theorem s_So_isBest_21 (x0 : Int32) (x1 : Int32) (x2 : Int32) (l : Launch) (d b lo gz n0 s0 : Nat) (Po : Option Value → xHp → Prop) (L r : List Value) (hp : xHp) : (xV k_So_isBest (l, d + 1, b, lo, gz, n0, s0, m_So_isBest, Po) 21 L (.int x2 :: .int x1 :: .int x0 :: r) hp) = (3 ≤ List.length (.int x2 :: .int x1 :: .int x0 :: r) ∧ xcs r 8 ∧ xMi l d b lo gz m_So_gain [.int x0, .int x1, .int x2] hp (fun x hp' => xV k_So_isBest (l, d + 1, b, lo, gz, n0, s0, m_So_isBest, Po) 24 L (.int x :: r) hp')) := xVe _ _ _ _ _ _
theorem s_So_isBest_24 (C : xCx) (r : List Value) (hp : xHp) (x : Int32) (a0 a1 a2 a4 : Value) : (xV k_So_isBest C 24 [a0, a1, a2, .int x, a4] r hp) = (xV k_So_isBest C 25 [a0, a1, a2, .int x, a4] (.int x :: r) hp) := xVe _ _ _ _ _ _
theorem s_So_isBest_25 (x y : Int32) (C : xCx) (L r : List Value) (hp : xHp) : (xV k_So_isBest C 25 L (.int y :: .int x :: r) hp) = (((x ≤ y → xV k_So_isBest C 30 L r hp) ∧ (¬ x ≤ y → xV k_So_isBest C 28 L r hp))) := xVe _ _ _ _ _ _
theorem s_So_isBest_28  (C : xCx) (L r : List Value) (hp : xHp) : (xV k_So_isBest C 28 L (r) hp) = (xV k_So_isBest C 29 L (.int (0) :: r) hp) := xVe _ _ _ _ _ _
theorem s_So_isBest_29 (v : Int32) (l : Launch) (d b lo gz n0 s0 : Nat) (Po : Option Value → xHp → Prop) (L : List Value) (hp : xHp) : (xV k_So_isBest (l, d, b, lo, gz, n0, s0, m_So_isBest, Po) 29 L [.int v] hp) = ((v = 0 ∨ v = 1) ∧ Po (some (.int v)) hp) := xVe _ _ _ _ _ _
theorem s_So_isBest_30 (C : xCx) (r : List Value) (hp : xHp) (x : Int32) (a0 a1 a2 a3 : Value) : (xV k_So_isBest C 30 [a0, a1, a2, a3, .int x] r hp) = (xNl [a0, a1, a2, a3, .int x] 4 ∧ xV k_So_isBest C 33 [a0, a1, a2, a3, .int (x + (1))] r hp) := xVe _ _ _ _ _ _
theorem s_So_isBest_33 (C : xCx) (L r : List Value) (hp : xHp) : (xV k_So_isBest C 33 L r hp) = (xV k_So_isBest C 10 L r hp) := xVe _ _ _ _ _ _
theorem s_So_isBest_36  (C : xCx) (L r : List Value) (hp : xHp) : (xV k_So_isBest C 36 L (r) hp) = (xV k_So_isBest C 37 L (.int (1) :: r) hp) := xVe _ _ _ _ _ _
theorem s_So_isBest_37 (v : Int32) (l : Launch) (d b lo gz n0 s0 : Nat) (Po : Option Value → xHp → Prop) (L : List Value) (hp : xHp) : (xV k_So_isBest (l, d, b, lo, gz, n0, s0, m_So_isBest, Po) 37 L [.int v] hp) = ((v = 0 ∨ v = 1) ∧ Po (some (.int v)) hp) := xVe _ _ _ _ _ _
def k_So_gain : List xEC := [
  (0, .iload_n 1, 1, 0, 0, 0, m_x),
  (1, .iload_n 2, 2, 0, 0, 0, m_x),
  (2, .if_icmp .ge 6, 5, 0, 8, 0, m_x),
  (5, .iload_n 1, 6, 0, 0, 0, m_x),
  (6, .ineg, 7, 0, 0, 0, m_x),
  (7, .ireturn, 8, 0, 0, 0, m_x),
  (8, .iload_n 1, 9, 0, 0, 0, m_x),
  (9, .iload_n 2, 10, 0, 0, 0, m_x),
  (10, .if_icmp .le 9, 13, 0, 19, 0, m_x),
  (13, .iload_n 0, 14, 0, 0, 0, m_x),
  (14, .iload_n 2, 15, 0, 0, 0, m_x),
  (15, .isub, 16, 0, 0, 0, m_x),
  (16, .goto 8, 19, 0, 24, 0, m_x),
  (19, .iload_n 0, 20, 0, 0, 0, m_x),
  (20, .iconst 3, 21, 0, 0, 0, m_x),
  (21, .idiv, 22, 0, 0, 0, m_x),
  (22, .iload_n 1, 23, 0, 0, 0, m_x),
  (23, .isub, 24, 0, 0, 0, m_x),
  (24, .ireturn, 25, 0, 0, 0, m_x)]
theorem dc_So_gain : ∀ E ∈ k_So_gain, xDc m_So_gain E := by decide +kernel
set_option maxRecDepth 20000 in
theorem ok_So_gain : ∀ E ∈ k_So_gain, xOk m_So_gain E := xok_of dc_So_gain (xfc trivial (xfc trivial (xfc (show ((2 : Nat) : Int) + (6) = ((8 : Nat) : Int) from by decide) (xfc trivial (xfc trivial (xfc trivial (xfc trivial (xfc trivial (xfc (show ((10 : Nat) : Int) + (9) = ((19 : Nat) : Int) from by decide) (xfc trivial (xfc trivial (xfc trivial (xfc (show ((16 : Nat) : Int) + (8) = ((24 : Nat) : Int) from by decide) (xfc trivial (xfc trivial (xfc trivial (xfc trivial (xfc trivial (xfc trivial (xfn))))))))))))))))))))
theorem s_So_gain_0 (C : xCx) (r : List Value) (hp : xHp) (x : Int32) (a0 a2 : Value) : (xV k_So_gain C 0 [a0, .int x, a2] r hp) = (xV k_So_gain C 1 [a0, .int x, a2] (.int x :: r) hp) := xVe _ _ _ _ _ _
theorem s_So_gain_1 (C : xCx) (r : List Value) (hp : xHp) (x : Int32) (a0 a1 : Value) : (xV k_So_gain C 1 [a0, a1, .int x] r hp) = (xV k_So_gain C 2 [a0, a1, .int x] (.int x :: r) hp) := xVe _ _ _ _ _ _
theorem s_So_gain_2 (x y : Int32) (C : xCx) (L r : List Value) (hp : xHp) : (xV k_So_gain C 2 L (.int y :: .int x :: r) hp) = (((y ≤ x → xV k_So_gain C 8 L r hp) ∧ (¬ y ≤ x → xV k_So_gain C 5 L r hp))) := xVe _ _ _ _ _ _
theorem s_So_gain_5 (C : xCx) (r : List Value) (hp : xHp) (x : Int32) (a0 a2 : Value) : (xV k_So_gain C 5 [a0, .int x, a2] r hp) = (xV k_So_gain C 6 [a0, .int x, a2] (.int x :: r) hp) := xVe _ _ _ _ _ _
theorem s_So_gain_6 (x : Int32) (C : xCx) (L r : List Value) (hp : xHp) : (xV k_So_gain C 6 L (.int x :: r) hp) = (xV k_So_gain C 7 L (.int (-x) :: r) hp) := xVe _ _ _ _ _ _
theorem s_So_gain_7 (v : Int32) (l : Launch) (d b lo gz n0 s0 : Nat) (Po : Option Value → xHp → Prop) (L : List Value) (hp : xHp) : (xV k_So_gain (l, d, b, lo, gz, n0, s0, m_So_gain, Po) 7 L [.int v] hp) = (Po (some (.int v)) hp) := xVe _ _ _ _ _ _
theorem s_So_gain_8 (C : xCx) (r : List Value) (hp : xHp) (x : Int32) (a0 a2 : Value) : (xV k_So_gain C 8 [a0, .int x, a2] r hp) = (xV k_So_gain C 9 [a0, .int x, a2] (.int x :: r) hp) := xVe _ _ _ _ _ _
theorem s_So_gain_9 (C : xCx) (r : List Value) (hp : xHp) (x : Int32) (a0 a1 : Value) : (xV k_So_gain C 9 [a0, a1, .int x] r hp) = (xV k_So_gain C 10 [a0, a1, .int x] (.int x :: r) hp) := xVe _ _ _ _ _ _
theorem s_So_gain_10 (x y : Int32) (C : xCx) (L r : List Value) (hp : xHp) : (xV k_So_gain C 10 L (.int y :: .int x :: r) hp) = (((x ≤ y → xV k_So_gain C 19 L r hp) ∧ (¬ x ≤ y → xV k_So_gain C 13 L r hp))) := xVe _ _ _ _ _ _
theorem s_So_gain_13 (C : xCx) (r : List Value) (hp : xHp) (x : Int32) (a1 a2 : Value) : (xV k_So_gain C 13 [.int x, a1, a2] r hp) = (xV k_So_gain C 14 [.int x, a1, a2] (.int x :: r) hp) := xVe _ _ _ _ _ _
theorem s_So_gain_14 (C : xCx) (r : List Value) (hp : xHp) (x : Int32) (a0 a1 : Value) : (xV k_So_gain C 14 [a0, a1, .int x] r hp) = (xV k_So_gain C 15 [a0, a1, .int x] (.int x :: r) hp) := xVe _ _ _ _ _ _
theorem s_So_gain_15 (x y : Int32) (C : xCx) (L r : List Value) (hp : xHp) : (xV k_So_gain C 15 L (.int y :: .int x :: r) hp) = (xV k_So_gain C 16 L (.int (x - y) :: r) hp) := xVe _ _ _ _ _ _
theorem s_So_gain_16 (C : xCx) (L r : List Value) (hp : xHp) : (xV k_So_gain C 16 L r hp) = (xV k_So_gain C 24 L r hp) := xVe _ _ _ _ _ _
theorem s_So_gain_19 (C : xCx) (r : List Value) (hp : xHp) (x : Int32) (a1 a2 : Value) : (xV k_So_gain C 19 [.int x, a1, a2] r hp) = (xV k_So_gain C 20 [.int x, a1, a2] (.int x :: r) hp) := xVe _ _ _ _ _ _
theorem s_So_gain_20  (C : xCx) (L r : List Value) (hp : xHp) : (xV k_So_gain C 20 L (r) hp) = (xV k_So_gain C 21 L (.int (3) :: r) hp) := xVe _ _ _ _ _ _
theorem s_So_gain_21 (x y : Int32) (C : xCx) (L r : List Value) (hp : xHp) : (xV k_So_gain C 21 L (.int y :: .int x :: r) hp) = (¬ y = 0 ∧ xV k_So_gain C 22 L (.int (x / y) :: r) hp) := xVe _ _ _ _ _ _
theorem s_So_gain_22 (C : xCx) (r : List Value) (hp : xHp) (x : Int32) (a0 a2 : Value) : (xV k_So_gain C 22 [a0, .int x, a2] r hp) = (xV k_So_gain C 23 [a0, .int x, a2] (.int x :: r) hp) := xVe _ _ _ _ _ _
theorem s_So_gain_23 (x y : Int32) (C : xCx) (L r : List Value) (hp : xHp) : (xV k_So_gain C 23 L (.int y :: .int x :: r) hp) = (xV k_So_gain C 24 L (.int (x - y) :: r) hp) := xVe _ _ _ _ _ _
theorem s_So_gain_24 (v : Int32) (l : Launch) (d b lo gz n0 s0 : Nat) (Po : Option Value → xHp → Prop) (L : List Value) (hp : xHp) : (xV k_So_gain (l, d, b, lo, gz, n0, s0, m_So_gain, Po) 24 L [.int v] hp) = (Po (some (.int v)) hp) := xVe _ _ _ _ _ _
theorem ml_So_397 : xLk "SunnyOnes" 397 m_So_hoursUnderLaw := Or.inl (wg5 59 (by decide +kernel) rfl)
def k_So_law : List xEC := [
  (0, .aload_n 0, 1, 0, 0, 0, m_x),
  (1, .getfield 39, 4, 0, 4, 0, m_x),
  (4, .invokevirtual 172, 7, 8, 0, 0, m_Rule_read),
  (7, .istore_n 1, 8, 0, 0, 0, m_x),
  (8, .aload_n 0, 9, 0, 0, 0, m_x),
  (9, .getfield 10, 12, 0, 0, 0, m_x),
  (12, .invokevirtual 157, 15, 10, 0, 0, m_Text_clear),
  (15, .iload_n 1, 16, 0, 0, 0, m_x),
  (16, .iconst (-1), 17, 0, 0, 0, m_x),
  (17, .if_icmp .eq 9, 20, 0, 26, 0, m_x),
  (20, .sipush (-10000), 23, 0, 0, 0, m_x),
  (23, .iload_n 1, 24, 0, 0, 0, m_x),
  (24, .isub, 25, 0, 0, 0, m_x),
  (25, .ireturn, 26, 0, 0, 0, m_x),
  (26, .aload_n 0, 27, 0, 0, 0, m_x),
  (27, .aload_n 0, 28, 0, 0, 0, m_x),
  (28, .getfield 35, 31, 0, 3, 0, m_x),
  (31, .invokevirtual 397, 34, 0, 0, 0, m_So_hoursUnderLaw),
  (34, .istore_n 2, 35, 0, 0, 0, m_x),
  (35, .aload_n 0, 36, 0, 0, 0, m_x),
  (36, .aload_n 0, 37, 0, 0, 0, m_x),
  (37, .getfield 39, 40, 0, 4, 0, m_x),
  (40, .invokevirtual 397, 43, 0, 0, 0, m_So_hoursUnderLaw),
  (43, .istore_n 3, 44, 0, 0, 0, m_x),
  (44, .aload_n 0, 45, 0, 0, 0, m_x),
  (45, .getfield 19, 48, 0, 1, 0, m_x),
  (48, .iload_n 3, 49, 0, 0, 0, m_x),
  (49, .i2l, 50, 0, 0, 0, m_x),
  (50, .iload_n 2, 51, 0, 0, 0, m_x),
  (51, .i2l, 52, 0, 0, 0, m_x),
  (52, .invokevirtual 225, 55, 7, 0, 0, m_Row_tell2),
  (55, .iconst 0, 56, 0, 0, 0, m_x),
  (56, .istore 4, 58, 0, 0, 0, m_x),
  (58, .iload 4, 60, 0, 0, 0, m_x),
  (60, .aload_n 0, 61, 0, 0, 0, m_x),
  (61, .getfield 58, 64, 0, 7, 0, m_x),
  (64, .invokevirtual 150, 67, 3, 0, 0, m_Folk_size),
  (67, .if_icmp .ge 26, 70, 0, 93, 0, m_x),
  (70, .aload_n 0, 71, 0, 0, 0, m_x),
  (71, .getfield 19, 74, 0, 1, 0, m_x),
  (74, .aload_n 0, 75, 0, 0, 0, m_x),
  (75, .getfield 58, 78, 0, 7, 0, m_x),
  (78, .iload 4, 80, 0, 0, 0, m_x),
  (80, .invokevirtual 185, 83, 3, 0, 0, m_Folk_age),
  (83, .i2l, 84, 0, 0, 0, m_x),
  (84, .invokevirtual 304, 87, 7, 0, 0, m_Row_add),
  (87, .iinc 4 1, 90, 0, 0, 0, m_x),
  (90, .goto (-32), 93, 0, 58, 0, m_x),
  (93, .iload_n 3, 94, 0, 0, 0, m_x),
  (94, .iload_n 2, 95, 0, 0, 0, m_x),
  (95, .isub, 96, 0, 0, 0, m_x),
  (96, .ireturn, 97, 0, 0, 0, m_x)]
theorem dc_So_law : ∀ E ∈ k_So_law, xDc m_So_law E := by decide +kernel
set_option maxRecDepth 20000 in
theorem ok_So_law : ∀ E ∈ k_So_law, xOk m_So_law E := xok_of dc_So_law (xfc trivial (xfc fl_So_39 (xfc ⟨ml_So_172, kd_Rule_read⟩ (xfc trivial (xfc trivial (xfc fl_So_10 (xfc ⟨ml_So_157, kd_Text_clear⟩ (xfc trivial (xfc trivial (xfc (show ((17 : Nat) : Int) + (9) = ((26 : Nat) : Int) from by decide) (xfc trivial (xfc trivial (xfc trivial (xfc trivial (xfc trivial (xfc trivial (xfc fl_So_35 (xfc ⟨ml_So_397, kd_So_hoursUnderLaw⟩ (xfc trivial (xfc trivial (xfc trivial (xfc fl_So_39 (xfc ⟨ml_So_397, kd_So_hoursUnderLaw⟩ (xfc trivial (xfc trivial (xfc fl_So_19 (xfc trivial (xfc trivial (xfc trivial (xfc trivial (xfc ⟨ml_So_225, kd_Row_tell2⟩ (xfc trivial (xfc trivial (xfc trivial (xfc trivial (xfc fl_So_58 (xfc ⟨ml_So_150, kd_Folk_size⟩ (xfc (show ((67 : Nat) : Int) + (26) = ((93 : Nat) : Int) from by decide) (xfc trivial (xfc fl_So_19 (xfc trivial (xfc fl_So_58 (xfc trivial (xfc ⟨ml_So_185, kd_Folk_age⟩ (xfc trivial (xfc ⟨ml_So_304, kd_Row_add⟩ (xfc trivial (xfc (show ((90 : Nat) : Int) + (-32) = ((58 : Nat) : Int) from by decide) (xfc trivial (xfc trivial (xfc trivial (xfc trivial (xfn)))))))))))))))))))))))))))))))))))))))))))))))))))))
theorem s_So_law_0 (C : xCx) (r : List Value) (hp : xHp) (x : Nat) (a1 a2 a3 a4 : Value) : (xV k_So_law C 0 [.ref x, a1, a2, a3, a4] r hp) = (True ∧ xV k_So_law C 1 [.ref x, a1, a2, a3, a4] (.ref x :: r) hp) := xVe _ _ _ _ _ _
theorem s_So_law_1 (a : Nat) (C : xCx) (L r : List Value) (hp : xHp) : (xV k_So_law C 1 L (.ref a :: r) hp) = (xF hp a 0 4 (fun v => xV k_So_law C 4 L (v :: r) hp)) := xVe _ _ _ _ _ _
theorem s_So_law_4 (a : Nat) (l : Launch) (d b lo gz n0 s0 : Nat) (Po : Option Value → xHp → Prop) (L r : List Value) (hp : xHp) : (xV k_So_law (l, d + 1, b, lo, gz, n0, s0, m_So_law, Po) 4 L (.ref a :: r) hp) = (xO hp a 8 ∧ xcs r 8 ∧ xMi l d b lo gz m_Rule_read [.ref a] hp (fun x hp' => xV k_So_law (l, d + 1, b, lo, gz, n0, s0, m_So_law, Po) 7 L (.int x :: r) hp')) := xVe _ _ _ _ _ _
theorem s_So_law_7 (C : xCx) (r : List Value) (hp : xHp) (x : Int32) (a0 a1 a2 a3 a4 : Value) : (xV k_So_law C 7 [a0, a1, a2, a3, a4] (.int x :: r) hp) = (1 < 5 ∧ xNl [a0, a1, a2, a3, a4] 1 ∧ xV k_So_law C 8 [a0, .int x, a2, a3, a4] r hp) := xVe _ _ _ _ _ _
theorem s_So_law_8 (C : xCx) (r : List Value) (hp : xHp) (x : Nat) (a1 a2 a3 a4 : Value) : (xV k_So_law C 8 [.ref x, a1, a2, a3, a4] r hp) = (True ∧ xV k_So_law C 9 [.ref x, a1, a2, a3, a4] (.ref x :: r) hp) := xVe _ _ _ _ _ _
theorem s_So_law_9 (a : Nat) (C : xCx) (L r : List Value) (hp : xHp) : (xV k_So_law C 9 L (.ref a :: r) hp) = (xF hp a 0 0 (fun v => xV k_So_law C 12 L (v :: r) hp)) := xVe _ _ _ _ _ _
theorem s_So_law_12 (a : Nat) (l : Launch) (d b lo gz n0 s0 : Nat) (Po : Option Value → xHp → Prop) (L r : List Value) (hp : xHp) : (xV k_So_law (l, d + 1, b, lo, gz, n0, s0, m_So_law, Po) 12 L (.ref a :: r) hp) = (xO hp a 10 ∧ xcs r 8 ∧ xMv l d b lo gz m_Text_clear [.ref a] hp (fun hp' => xV k_So_law (l, d + 1, b, lo, gz, n0, s0, m_So_law, Po) 15 L r hp')) := xVe _ _ _ _ _ _
theorem s_So_law_15 (C : xCx) (r : List Value) (hp : xHp) (x : Int32) (a0 a2 a3 a4 : Value) : (xV k_So_law C 15 [a0, .int x, a2, a3, a4] r hp) = (xV k_So_law C 16 [a0, .int x, a2, a3, a4] (.int x :: r) hp) := xVe _ _ _ _ _ _
theorem s_So_law_16  (C : xCx) (L r : List Value) (hp : xHp) : (xV k_So_law C 16 L (r) hp) = (xV k_So_law C 17 L (.int (-1) :: r) hp) := xVe _ _ _ _ _ _
theorem s_So_law_17 (x y : Int32) (C : xCx) (L r : List Value) (hp : xHp) : (xV k_So_law C 17 L (.int y :: .int x :: r) hp) = (((x = y → xV k_So_law C 26 L r hp) ∧ (¬ x = y → xV k_So_law C 20 L r hp))) := xVe _ _ _ _ _ _
theorem s_So_law_20  (C : xCx) (L r : List Value) (hp : xHp) : (xV k_So_law C 20 L (r) hp) = (xV k_So_law C 23 L (.int (-10000) :: r) hp) := xVe _ _ _ _ _ _
theorem s_So_law_23 (C : xCx) (r : List Value) (hp : xHp) (x : Int32) (a0 a2 a3 a4 : Value) : (xV k_So_law C 23 [a0, .int x, a2, a3, a4] r hp) = (xV k_So_law C 24 [a0, .int x, a2, a3, a4] (.int x :: r) hp) := xVe _ _ _ _ _ _
theorem s_So_law_24 (x y : Int32) (C : xCx) (L r : List Value) (hp : xHp) : (xV k_So_law C 24 L (.int y :: .int x :: r) hp) = (xV k_So_law C 25 L (.int (x - y) :: r) hp) := xVe _ _ _ _ _ _
theorem s_So_law_25 (v : Int32) (l : Launch) (d b lo gz n0 s0 : Nat) (Po : Option Value → xHp → Prop) (L : List Value) (hp : xHp) : (xV k_So_law (l, d, b, lo, gz, n0, s0, m_So_law, Po) 25 L [.int v] hp) = (Po (some (.int v)) hp) := xVe _ _ _ _ _ _
theorem s_So_law_26 (C : xCx) (r : List Value) (hp : xHp) (x : Nat) (a1 a2 a3 a4 : Value) : (xV k_So_law C 26 [.ref x, a1, a2, a3, a4] r hp) = (True ∧ xV k_So_law C 27 [.ref x, a1, a2, a3, a4] (.ref x :: r) hp) := xVe _ _ _ _ _ _
theorem s_So_law_27 (C : xCx) (r : List Value) (hp : xHp) (x : Nat) (a1 a2 a3 a4 : Value) : (xV k_So_law C 27 [.ref x, a1, a2, a3, a4] r hp) = (True ∧ xV k_So_law C 28 [.ref x, a1, a2, a3, a4] (.ref x :: r) hp) := xVe _ _ _ _ _ _
theorem s_So_law_28 (a : Nat) (C : xCx) (L r : List Value) (hp : xHp) : (xV k_So_law C 28 L (.ref a :: r) hp) = (xF hp a 0 3 (fun v => xV k_So_law C 31 L (v :: r) hp)) := xVe _ _ _ _ _ _
theorem s_So_law_31 (x0 : Nat) (a : Nat) (l : Launch) (d b lo gz n0 s0 : Nat) (Po : Option Value → xHp → Prop) (L r : List Value) (hp : xHp) : (xV k_So_law (l, d + 1, b, lo, gz, n0, s0, m_So_law, Po) 31 L (.ref x0 :: .ref a :: r) hp) = (xO hp a 0 ∧ xcs r 8 ∧ xMi l d b lo gz m_So_hoursUnderLaw [.ref a, .ref x0] hp (fun x hp' => xV k_So_law (l, d + 1, b, lo, gz, n0, s0, m_So_law, Po) 34 L (.int x :: r) hp')) := xVe _ _ _ _ _ _
theorem s_So_law_34 (C : xCx) (r : List Value) (hp : xHp) (x : Int32) (a0 a1 a2 a3 a4 : Value) : (xV k_So_law C 34 [a0, a1, a2, a3, a4] (.int x :: r) hp) = (2 < 5 ∧ xNl [a0, a1, a2, a3, a4] 2 ∧ xV k_So_law C 35 [a0, a1, .int x, a3, a4] r hp) := xVe _ _ _ _ _ _
theorem s_So_law_35 (C : xCx) (r : List Value) (hp : xHp) (x : Nat) (a1 a2 a3 a4 : Value) : (xV k_So_law C 35 [.ref x, a1, a2, a3, a4] r hp) = (True ∧ xV k_So_law C 36 [.ref x, a1, a2, a3, a4] (.ref x :: r) hp) := xVe _ _ _ _ _ _
theorem s_So_law_36 (C : xCx) (r : List Value) (hp : xHp) (x : Nat) (a1 a2 a3 a4 : Value) : (xV k_So_law C 36 [.ref x, a1, a2, a3, a4] r hp) = (True ∧ xV k_So_law C 37 [.ref x, a1, a2, a3, a4] (.ref x :: r) hp) := xVe _ _ _ _ _ _
theorem s_So_law_37 (a : Nat) (C : xCx) (L r : List Value) (hp : xHp) : (xV k_So_law C 37 L (.ref a :: r) hp) = (xF hp a 0 4 (fun v => xV k_So_law C 40 L (v :: r) hp)) := xVe _ _ _ _ _ _
theorem s_So_law_40 (x0 : Nat) (a : Nat) (l : Launch) (d b lo gz n0 s0 : Nat) (Po : Option Value → xHp → Prop) (L r : List Value) (hp : xHp) : (xV k_So_law (l, d + 1, b, lo, gz, n0, s0, m_So_law, Po) 40 L (.ref x0 :: .ref a :: r) hp) = (xO hp a 0 ∧ xcs r 8 ∧ xMi l d b lo gz m_So_hoursUnderLaw [.ref a, .ref x0] hp (fun x hp' => xV k_So_law (l, d + 1, b, lo, gz, n0, s0, m_So_law, Po) 43 L (.int x :: r) hp')) := xVe _ _ _ _ _ _
theorem s_So_law_43 (C : xCx) (r : List Value) (hp : xHp) (x : Int32) (a0 a1 a2 a3 a4 : Value) : (xV k_So_law C 43 [a0, a1, a2, a3, a4] (.int x :: r) hp) = (3 < 5 ∧ xNl [a0, a1, a2, a3, a4] 3 ∧ xV k_So_law C 44 [a0, a1, a2, .int x, a4] r hp) := xVe _ _ _ _ _ _
theorem s_So_law_44 (C : xCx) (r : List Value) (hp : xHp) (x : Nat) (a1 a2 a3 a4 : Value) : (xV k_So_law C 44 [.ref x, a1, a2, a3, a4] r hp) = (True ∧ xV k_So_law C 45 [.ref x, a1, a2, a3, a4] (.ref x :: r) hp) := xVe _ _ _ _ _ _
theorem s_So_law_45 (a : Nat) (C : xCx) (L r : List Value) (hp : xHp) : (xV k_So_law C 45 L (.ref a :: r) hp) = (xF hp a 0 1 (fun v => xV k_So_law C 48 L (v :: r) hp)) := xVe _ _ _ _ _ _
theorem s_So_law_48 (C : xCx) (r : List Value) (hp : xHp) (x : Int32) (a0 a1 a2 a4 : Value) : (xV k_So_law C 48 [a0, a1, a2, .int x, a4] r hp) = (xV k_So_law C 49 [a0, a1, a2, .int x, a4] (.int x :: r) hp) := xVe _ _ _ _ _ _
theorem s_So_law_49 (x : Int32) (C : xCx) (L r : List Value) (hp : xHp) : (xV k_So_law C 49 L (.int x :: r) hp) = (xV k_So_law C 50 L (.long x.toInt64 :: r) hp) := xVe _ _ _ _ _ _
theorem s_So_law_50 (C : xCx) (r : List Value) (hp : xHp) (x : Int32) (a0 a1 a3 a4 : Value) : (xV k_So_law C 50 [a0, a1, .int x, a3, a4] r hp) = (xV k_So_law C 51 [a0, a1, .int x, a3, a4] (.int x :: r) hp) := xVe _ _ _ _ _ _
theorem s_So_law_51 (x : Int32) (C : xCx) (L r : List Value) (hp : xHp) : (xV k_So_law C 51 L (.int x :: r) hp) = (xV k_So_law C 52 L (.long x.toInt64 :: r) hp) := xVe _ _ _ _ _ _
theorem s_So_law_52 (x0 : Int64) (x1 : Int64) (a : Nat) (l : Launch) (d b lo gz n0 s0 : Nat) (Po : Option Value → xHp → Prop) (L r : List Value) (hp : xHp) : (xV k_So_law (l, d + 1, b, lo, gz, n0, s0, m_So_law, Po) 52 L (.long x1 :: .long x0 :: .ref a :: r) hp) = (xO hp a 7 ∧ xcs r 8 ∧ xMv l d b lo gz m_Row_tell2 [.ref a, .long x0, .long x1] hp (fun hp' => xV k_So_law (l, d + 1, b, lo, gz, n0, s0, m_So_law, Po) 55 L r hp')) := xVe _ _ _ _ _ _
theorem s_So_law_55  (C : xCx) (L r : List Value) (hp : xHp) : (xV k_So_law C 55 L (r) hp) = (xV k_So_law C 56 L (.int (0) :: r) hp) := xVe _ _ _ _ _ _
theorem s_So_law_56 (C : xCx) (r : List Value) (hp : xHp) (x : Int32) (a0 a1 a2 a3 a4 : Value) : (xV k_So_law C 56 [a0, a1, a2, a3, a4] (.int x :: r) hp) = (4 < 5 ∧ xNl [a0, a1, a2, a3, a4] 4 ∧ xV k_So_law C 58 [a0, a1, a2, a3, .int x] r hp) := xVe _ _ _ _ _ _
theorem s_So_law_58 (C : xCx) (r : List Value) (hp : xHp) (x : Int32) (a0 a1 a2 a3 : Value) : (xV k_So_law C 58 [a0, a1, a2, a3, .int x] r hp) = (xV k_So_law C 60 [a0, a1, a2, a3, .int x] (.int x :: r) hp) := xVe _ _ _ _ _ _
theorem s_So_law_60 (C : xCx) (r : List Value) (hp : xHp) (x : Nat) (a1 a2 a3 a4 : Value) : (xV k_So_law C 60 [.ref x, a1, a2, a3, a4] r hp) = (True ∧ xV k_So_law C 61 [.ref x, a1, a2, a3, a4] (.ref x :: r) hp) := xVe _ _ _ _ _ _
theorem s_So_law_61 (a : Nat) (C : xCx) (L r : List Value) (hp : xHp) : (xV k_So_law C 61 L (.ref a :: r) hp) = (xF hp a 0 7 (fun v => xV k_So_law C 64 L (v :: r) hp)) := xVe _ _ _ _ _ _
theorem s_So_law_64 (a : Nat) (l : Launch) (d b lo gz n0 s0 : Nat) (Po : Option Value → xHp → Prop) (L r : List Value) (hp : xHp) : (xV k_So_law (l, d + 1, b, lo, gz, n0, s0, m_So_law, Po) 64 L (.ref a :: r) hp) = (xO hp a 3 ∧ xcs r 8 ∧ xMi l d b lo gz m_Folk_size [.ref a] hp (fun x hp' => xV k_So_law (l, d + 1, b, lo, gz, n0, s0, m_So_law, Po) 67 L (.int x :: r) hp')) := xVe _ _ _ _ _ _
theorem s_So_law_67 (x y : Int32) (C : xCx) (L r : List Value) (hp : xHp) : (xV k_So_law C 67 L (.int y :: .int x :: r) hp) = (((y ≤ x → xV k_So_law C 93 L r hp) ∧ (¬ y ≤ x → xV k_So_law C 70 L r hp))) := xVe _ _ _ _ _ _
theorem s_So_law_70 (C : xCx) (r : List Value) (hp : xHp) (x : Nat) (a1 a2 a3 a4 : Value) : (xV k_So_law C 70 [.ref x, a1, a2, a3, a4] r hp) = (True ∧ xV k_So_law C 71 [.ref x, a1, a2, a3, a4] (.ref x :: r) hp) := xVe _ _ _ _ _ _
theorem s_So_law_71 (a : Nat) (C : xCx) (L r : List Value) (hp : xHp) : (xV k_So_law C 71 L (.ref a :: r) hp) = (xF hp a 0 1 (fun v => xV k_So_law C 74 L (v :: r) hp)) := xVe _ _ _ _ _ _
theorem s_So_law_74 (C : xCx) (r : List Value) (hp : xHp) (x : Nat) (a1 a2 a3 a4 : Value) : (xV k_So_law C 74 [.ref x, a1, a2, a3, a4] r hp) = (True ∧ xV k_So_law C 75 [.ref x, a1, a2, a3, a4] (.ref x :: r) hp) := xVe _ _ _ _ _ _
theorem s_So_law_75 (a : Nat) (C : xCx) (L r : List Value) (hp : xHp) : (xV k_So_law C 75 L (.ref a :: r) hp) = (xF hp a 0 7 (fun v => xV k_So_law C 78 L (v :: r) hp)) := xVe _ _ _ _ _ _
theorem s_So_law_78 (C : xCx) (r : List Value) (hp : xHp) (x : Int32) (a0 a1 a2 a3 : Value) : (xV k_So_law C 78 [a0, a1, a2, a3, .int x] r hp) = (xV k_So_law C 80 [a0, a1, a2, a3, .int x] (.int x :: r) hp) := xVe _ _ _ _ _ _
theorem s_So_law_80 (x0 : Int32) (a : Nat) (l : Launch) (d b lo gz n0 s0 : Nat) (Po : Option Value → xHp → Prop) (L r : List Value) (hp : xHp) : (xV k_So_law (l, d + 1, b, lo, gz, n0, s0, m_So_law, Po) 80 L (.int x0 :: .ref a :: r) hp) = (xO hp a 3 ∧ xcs r 8 ∧ xMi l d b lo gz m_Folk_age [.ref a, .int x0] hp (fun x hp' => xV k_So_law (l, d + 1, b, lo, gz, n0, s0, m_So_law, Po) 83 L (.int x :: r) hp')) := xVe _ _ _ _ _ _
theorem s_So_law_83 (x : Int32) (C : xCx) (L r : List Value) (hp : xHp) : (xV k_So_law C 83 L (.int x :: r) hp) = (xV k_So_law C 84 L (.long x.toInt64 :: r) hp) := xVe _ _ _ _ _ _
theorem s_So_law_84 (x0 : Int64) (a : Nat) (l : Launch) (d b lo gz n0 s0 : Nat) (Po : Option Value → xHp → Prop) (L r : List Value) (hp : xHp) : (xV k_So_law (l, d + 1, b, lo, gz, n0, s0, m_So_law, Po) 84 L (.long x0 :: .ref a :: r) hp) = (xO hp a 7 ∧ xcs r 8 ∧ xMv l d b lo gz m_Row_add [.ref a, .long x0] hp (fun hp' => xV k_So_law (l, d + 1, b, lo, gz, n0, s0, m_So_law, Po) 87 L r hp')) := xVe _ _ _ _ _ _
theorem s_So_law_87 (C : xCx) (r : List Value) (hp : xHp) (x : Int32) (a0 a1 a2 a3 : Value) : (xV k_So_law C 87 [a0, a1, a2, a3, .int x] r hp) = (xNl [a0, a1, a2, a3, .int x] 4 ∧ xV k_So_law C 90 [a0, a1, a2, a3, .int (x + (1))] r hp) := xVe _ _ _ _ _ _
theorem s_So_law_90 (C : xCx) (L r : List Value) (hp : xHp) : (xV k_So_law C 90 L r hp) = (xV k_So_law C 58 L r hp) := xVe _ _ _ _ _ _
theorem s_So_law_93 (C : xCx) (r : List Value) (hp : xHp) (x : Int32) (a0 a1 a2 a4 : Value) : (xV k_So_law C 93 [a0, a1, a2, .int x, a4] r hp) = (xV k_So_law C 94 [a0, a1, a2, .int x, a4] (.int x :: r) hp) := xVe _ _ _ _ _ _
theorem s_So_law_94 (C : xCx) (r : List Value) (hp : xHp) (x : Int32) (a0 a1 a3 a4 : Value) : (xV k_So_law C 94 [a0, a1, .int x, a3, a4] r hp) = (xV k_So_law C 95 [a0, a1, .int x, a3, a4] (.int x :: r) hp) := xVe _ _ _ _ _ _
theorem s_So_law_95 (x y : Int32) (C : xCx) (L r : List Value) (hp : xHp) : (xV k_So_law C 95 L (.int y :: .int x :: r) hp) = (xV k_So_law C 96 L (.int (x - y) :: r) hp) := xVe _ _ _ _ _ _
theorem s_So_law_96 (v : Int32) (l : Launch) (d b lo gz n0 s0 : Nat) (Po : Option Value → xHp → Prop) (L : List Value) (hp : xHp) : (xV k_So_law (l, d, b, lo, gz, n0, s0, m_So_law, Po) 96 L [.int v] hp) = (Po (some (.int v)) hp) := xVe _ _ _ _ _ _
def k_So_hoursUnderLaw : List xEC := [
  (0, .aload_n 0, 1, 0, 0, 0, m_x),
  (1, .getfield 58, 4, 0, 7, 0, m_x),
  (4, .aload_n 0, 5, 0, 0, 0, m_x),
  (5, .getfield 54, 8, 0, 6, 0, m_x),
  (8, .invokevirtual 215, 11, 3, 0, 0, m_Folk_copyFrom),
  (11, .iconst 0, 12, 0, 0, 0, m_x),
  (12, .istore_n 2, 13, 0, 0, 0, m_x),
  (13, .iconst 0, 14, 0, 0, 0, m_x),
  (14, .istore_n 3, 15, 0, 0, 0, m_x),
  (15, .iload_n 3, 16, 0, 0, 0, m_x),
  (16, .bipush 10, 18, 0, 0, 0, m_x),
  (18, .if_icmp .ge 24, 21, 0, 42, 0, m_x),
  (21, .iload_n 2, 22, 0, 0, 0, m_x),
  (22, .aload_n 0, 23, 0, 0, 0, m_x),
  (23, .getfield 47, 26, 0, 5, 0, m_x),
  (26, .aload_n 1, 27, 0, 0, 0, m_x),
  (27, .aload_n 0, 28, 0, 0, 0, m_x),
  (28, .getfield 58, 31, 0, 7, 0, m_x),
  (31, .invokevirtual 218, 34, 9, 0, 0, m_Sun_dayBy),
  (34, .iadd, 35, 0, 0, 0, m_x),
  (35, .istore_n 2, 36, 0, 0, 0, m_x),
  (36, .iinc 3 1, 39, 0, 0, 0, m_x),
  (39, .goto (-24), 42, 0, 15, 0, m_x),
  (42, .iload_n 2, 43, 0, 0, 0, m_x),
  (43, .ireturn, 44, 0, 0, 0, m_x)]
theorem dc_So_hoursUnderLaw : ∀ E ∈ k_So_hoursUnderLaw, xDc m_So_hoursUnderLaw E := by decide +kernel
set_option maxRecDepth 20000 in
theorem ok_So_hoursUnderLaw : ∀ E ∈ k_So_hoursUnderLaw, xOk m_So_hoursUnderLaw E := xok_of dc_So_hoursUnderLaw (xfc trivial (xfc fl_So_58 (xfc trivial (xfc fl_So_54 (xfc ⟨ml_So_215, kd_Folk_copyFrom⟩ (xfc trivial (xfc trivial (xfc trivial (xfc trivial (xfc trivial (xfc trivial (xfc (show ((18 : Nat) : Int) + (24) = ((42 : Nat) : Int) from by decide) (xfc trivial (xfc trivial (xfc fl_So_47 (xfc trivial (xfc trivial (xfc fl_So_58 (xfc ⟨ml_So_218, kd_Sun_dayBy⟩ (xfc trivial (xfc trivial (xfc trivial (xfc (show ((39 : Nat) : Int) + (-24) = ((15 : Nat) : Int) from by decide) (xfc trivial (xfc trivial (xfn))))))))))))))))))))))))))
theorem s_So_hoursUnderLaw_0 (C : xCx) (r : List Value) (hp : xHp) (x : Nat) (a1 a2 a3 : Value) : (xV k_So_hoursUnderLaw C 0 [.ref x, a1, a2, a3] r hp) = (True ∧ xV k_So_hoursUnderLaw C 1 [.ref x, a1, a2, a3] (.ref x :: r) hp) := xVe _ _ _ _ _ _
theorem s_So_hoursUnderLaw_1 (a : Nat) (C : xCx) (L r : List Value) (hp : xHp) : (xV k_So_hoursUnderLaw C 1 L (.ref a :: r) hp) = (xF hp a 0 7 (fun v => xV k_So_hoursUnderLaw C 4 L (v :: r) hp)) := xVe _ _ _ _ _ _
theorem s_So_hoursUnderLaw_4 (C : xCx) (r : List Value) (hp : xHp) (x : Nat) (a1 a2 a3 : Value) : (xV k_So_hoursUnderLaw C 4 [.ref x, a1, a2, a3] r hp) = (True ∧ xV k_So_hoursUnderLaw C 5 [.ref x, a1, a2, a3] (.ref x :: r) hp) := xVe _ _ _ _ _ _
theorem s_So_hoursUnderLaw_5 (a : Nat) (C : xCx) (L r : List Value) (hp : xHp) : (xV k_So_hoursUnderLaw C 5 L (.ref a :: r) hp) = (xF hp a 0 6 (fun v => xV k_So_hoursUnderLaw C 8 L (v :: r) hp)) := xVe _ _ _ _ _ _
theorem s_So_hoursUnderLaw_8 (x0 : Nat) (a : Nat) (l : Launch) (d b lo gz n0 s0 : Nat) (Po : Option Value → xHp → Prop) (L r : List Value) (hp : xHp) : (xV k_So_hoursUnderLaw (l, d + 1, b, lo, gz, n0, s0, m_So_hoursUnderLaw, Po) 8 L (.ref x0 :: .ref a :: r) hp) = (xO hp a 3 ∧ xcs r 8 ∧ xMv l d b lo gz m_Folk_copyFrom [.ref a, .ref x0] hp (fun hp' => xV k_So_hoursUnderLaw (l, d + 1, b, lo, gz, n0, s0, m_So_hoursUnderLaw, Po) 11 L r hp')) := xVe _ _ _ _ _ _
theorem s_So_hoursUnderLaw_11  (C : xCx) (L r : List Value) (hp : xHp) : (xV k_So_hoursUnderLaw C 11 L (r) hp) = (xV k_So_hoursUnderLaw C 12 L (.int (0) :: r) hp) := xVe _ _ _ _ _ _
theorem s_So_hoursUnderLaw_12 (C : xCx) (r : List Value) (hp : xHp) (x : Int32) (a0 a1 a2 a3 : Value) : (xV k_So_hoursUnderLaw C 12 [a0, a1, a2, a3] (.int x :: r) hp) = (2 < 4 ∧ xNl [a0, a1, a2, a3] 2 ∧ xV k_So_hoursUnderLaw C 13 [a0, a1, .int x, a3] r hp) := xVe _ _ _ _ _ _
theorem s_So_hoursUnderLaw_13  (C : xCx) (L r : List Value) (hp : xHp) : (xV k_So_hoursUnderLaw C 13 L (r) hp) = (xV k_So_hoursUnderLaw C 14 L (.int (0) :: r) hp) := xVe _ _ _ _ _ _
theorem s_So_hoursUnderLaw_14 (C : xCx) (r : List Value) (hp : xHp) (x : Int32) (a0 a1 a2 a3 : Value) : (xV k_So_hoursUnderLaw C 14 [a0, a1, a2, a3] (.int x :: r) hp) = (3 < 4 ∧ xNl [a0, a1, a2, a3] 3 ∧ xV k_So_hoursUnderLaw C 15 [a0, a1, a2, .int x] r hp) := xVe _ _ _ _ _ _
theorem s_So_hoursUnderLaw_15 (C : xCx) (r : List Value) (hp : xHp) (x : Int32) (a0 a1 a2 : Value) : (xV k_So_hoursUnderLaw C 15 [a0, a1, a2, .int x] r hp) = (xV k_So_hoursUnderLaw C 16 [a0, a1, a2, .int x] (.int x :: r) hp) := xVe _ _ _ _ _ _
theorem s_So_hoursUnderLaw_16  (C : xCx) (L r : List Value) (hp : xHp) : (xV k_So_hoursUnderLaw C 16 L (r) hp) = (xV k_So_hoursUnderLaw C 18 L (.int (10) :: r) hp) := xVe _ _ _ _ _ _
theorem s_So_hoursUnderLaw_18 (x y : Int32) (C : xCx) (L r : List Value) (hp : xHp) : (xV k_So_hoursUnderLaw C 18 L (.int y :: .int x :: r) hp) = (((y ≤ x → xV k_So_hoursUnderLaw C 42 L r hp) ∧ (¬ y ≤ x → xV k_So_hoursUnderLaw C 21 L r hp))) := xVe _ _ _ _ _ _
theorem s_So_hoursUnderLaw_21 (C : xCx) (r : List Value) (hp : xHp) (x : Int32) (a0 a1 a3 : Value) : (xV k_So_hoursUnderLaw C 21 [a0, a1, .int x, a3] r hp) = (xV k_So_hoursUnderLaw C 22 [a0, a1, .int x, a3] (.int x :: r) hp) := xVe _ _ _ _ _ _
theorem s_So_hoursUnderLaw_22 (C : xCx) (r : List Value) (hp : xHp) (x : Nat) (a1 a2 a3 : Value) : (xV k_So_hoursUnderLaw C 22 [.ref x, a1, a2, a3] r hp) = (True ∧ xV k_So_hoursUnderLaw C 23 [.ref x, a1, a2, a3] (.ref x :: r) hp) := xVe _ _ _ _ _ _
theorem s_So_hoursUnderLaw_23 (a : Nat) (C : xCx) (L r : List Value) (hp : xHp) : (xV k_So_hoursUnderLaw C 23 L (.ref a :: r) hp) = (xF hp a 0 5 (fun v => xV k_So_hoursUnderLaw C 26 L (v :: r) hp)) := xVe _ _ _ _ _ _
theorem s_So_hoursUnderLaw_26 (C : xCx) (r : List Value) (hp : xHp) (x : Nat) (a0 a2 a3 : Value) : (xV k_So_hoursUnderLaw C 26 [a0, .ref x, a2, a3] r hp) = (True ∧ xV k_So_hoursUnderLaw C 27 [a0, .ref x, a2, a3] (.ref x :: r) hp) := xVe _ _ _ _ _ _
theorem s_So_hoursUnderLaw_27 (C : xCx) (r : List Value) (hp : xHp) (x : Nat) (a1 a2 a3 : Value) : (xV k_So_hoursUnderLaw C 27 [.ref x, a1, a2, a3] r hp) = (True ∧ xV k_So_hoursUnderLaw C 28 [.ref x, a1, a2, a3] (.ref x :: r) hp) := xVe _ _ _ _ _ _
theorem s_So_hoursUnderLaw_28 (a : Nat) (C : xCx) (L r : List Value) (hp : xHp) : (xV k_So_hoursUnderLaw C 28 L (.ref a :: r) hp) = (xF hp a 0 7 (fun v => xV k_So_hoursUnderLaw C 31 L (v :: r) hp)) := xVe _ _ _ _ _ _
theorem s_So_hoursUnderLaw_31 (x0 : Nat) (x1 : Nat) (a : Nat) (l : Launch) (d b lo gz n0 s0 : Nat) (Po : Option Value → xHp → Prop) (L r : List Value) (hp : xHp) : (xV k_So_hoursUnderLaw (l, d + 1, b, lo, gz, n0, s0, m_So_hoursUnderLaw, Po) 31 L (.ref x1 :: .ref x0 :: .ref a :: r) hp) = (xO hp a 9 ∧ xcs r 8 ∧ xMi l d b lo gz m_Sun_dayBy [.ref a, .ref x0, .ref x1] hp (fun x hp' => xV k_So_hoursUnderLaw (l, d + 1, b, lo, gz, n0, s0, m_So_hoursUnderLaw, Po) 34 L (.int x :: r) hp')) := xVe _ _ _ _ _ _
theorem s_So_hoursUnderLaw_34 (x y : Int32) (C : xCx) (L r : List Value) (hp : xHp) : (xV k_So_hoursUnderLaw C 34 L (.int y :: .int x :: r) hp) = (xV k_So_hoursUnderLaw C 35 L (.int (x + y) :: r) hp) := xVe _ _ _ _ _ _
theorem s_So_hoursUnderLaw_35 (C : xCx) (r : List Value) (hp : xHp) (x : Int32) (a0 a1 a2 a3 : Value) : (xV k_So_hoursUnderLaw C 35 [a0, a1, a2, a3] (.int x :: r) hp) = (2 < 4 ∧ xNl [a0, a1, a2, a3] 2 ∧ xV k_So_hoursUnderLaw C 36 [a0, a1, .int x, a3] r hp) := xVe _ _ _ _ _ _
theorem s_So_hoursUnderLaw_36 (C : xCx) (r : List Value) (hp : xHp) (x : Int32) (a0 a1 a2 : Value) : (xV k_So_hoursUnderLaw C 36 [a0, a1, a2, .int x] r hp) = (xNl [a0, a1, a2, .int x] 3 ∧ xV k_So_hoursUnderLaw C 39 [a0, a1, a2, .int (x + (1))] r hp) := xVe _ _ _ _ _ _
theorem s_So_hoursUnderLaw_39 (C : xCx) (L r : List Value) (hp : xHp) : (xV k_So_hoursUnderLaw C 39 L r hp) = (xV k_So_hoursUnderLaw C 15 L r hp) := xVe _ _ _ _ _ _
theorem s_So_hoursUnderLaw_42 (C : xCx) (r : List Value) (hp : xHp) (x : Int32) (a0 a1 a3 : Value) : (xV k_So_hoursUnderLaw C 42 [a0, a1, .int x, a3] r hp) = (xV k_So_hoursUnderLaw C 43 [a0, a1, .int x, a3] (.int x :: r) hp) := xVe _ _ _ _ _ _
theorem s_So_hoursUnderLaw_43 (v : Int32) (l : Launch) (d b lo gz n0 s0 : Nat) (Po : Option Value → xHp → Prop) (L : List Value) (hp : xHp) : (xV k_So_hoursUnderLaw (l, d, b, lo, gz, n0, s0, m_So_hoursUnderLaw, Po) 43 L [.int v] hp) = (Po (some (.int v)) hp) := xVe _ _ _ _ _ _
theorem ml_So_401 : xLk "SunnyOnes" 401 m_So_draw := Or.inl (wg5 67 (by decide +kernel) rfl)
def k_So_years : List xEC := [
  (0, .iload_n 2, 1, 0, 0, 0, m_x),
  (1, .iconst 1, 2, 0, 0, 0, m_x),
  (2, .if_icmp .lt 9, 5, 0, 11, 0, m_x),
  (5, .iload_n 2, 6, 0, 0, 0, m_x),
  (6, .bipush 60, 8, 0, 0, 0, m_x),
  (8, .if_icmp .le 5, 11, 0, 13, 0, m_x),
  (11, .iconst (-1), 12, 0, 0, 0, m_x),
  (12, .ireturn, 13, 0, 0, 0, m_x),
  (13, .aload_n 0, 14, 0, 0, 0, m_x),
  (14, .getfield 58, 17, 0, 7, 0, m_x),
  (17, .aload_n 0, 18, 0, 0, 0, m_x),
  (18, .getfield 54, 21, 0, 6, 0, m_x),
  (21, .invokevirtual 215, 24, 3, 0, 0, m_Folk_copyFrom),
  (24, .aload_n 0, 25, 0, 0, 0, m_x),
  (25, .iload_n 1, 26, 0, 0, 0, m_x),
  (26, .putfield 114, 29, 0, 16, 0, m_x),
  (29, .iconst 0, 30, 0, 0, 0, m_x),
  (30, .istore_n 3, 31, 0, 0, 0, m_x),
  (31, .iconst 0, 32, 0, 0, 0, m_x),
  (32, .istore 4, 34, 0, 0, 0, m_x),
  (34, .iload 4, 36, 0, 0, 0, m_x),
  (36, .iload_n 2, 37, 0, 0, 0, m_x),
  (37, .if_icmp .ge 116, 40, 0, 153, 0, m_x),
  (40, .aload_n 0, 41, 0, 0, 0, m_x),
  (41, .iconst 4, 42, 0, 0, 0, m_x),
  (42, .invokevirtual 401, 45, 0, 0, 0, m_So_draw),
  (45, .istore 5, 47, 0, 0, 0, m_x),
  (47, .iload 5, 49, 0, 0, 0, m_x),
  (49, .iconst 2, 50, 0, 0, 0, m_x),
  (50, .if_icmp .ge 24, 53, 0, 74, 0, m_x),
  (53, .iload_n 3, 54, 0, 0, 0, m_x),
  (54, .aload_n 0, 55, 0, 0, 0, m_x),
  (55, .getfield 47, 58, 0, 5, 0, m_x),
  (58, .aload_n 0, 59, 0, 0, 0, m_x),
  (59, .getfield 35, 62, 0, 3, 0, m_x),
  (62, .aload_n 0, 63, 0, 0, 0, m_x),
  (63, .getfield 58, 66, 0, 7, 0, m_x),
  (66, .invokevirtual 218, 69, 9, 0, 0, m_Sun_dayBy),
  (69, .iadd, 70, 0, 0, 0, m_x),
  (70, .istore_n 3, 71, 0, 0, 0, m_x),
  (71, .goto 76, 74, 0, 147, 0, m_x),
  (74, .aload_n 0, 75, 0, 0, 0, m_x),
  (75, .getfield 58, 78, 0, 7, 0, m_x),
  (78, .invokevirtual 150, 81, 3, 0, 0, m_Folk_size),
  (81, .ifCond .le 66, 84, 0, 147, 0, m_x),
  (84, .aload_n 0, 85, 0, 0, 0, m_x),
  (85, .aload_n 0, 86, 0, 0, 0, m_x),
  (86, .getfield 58, 89, 0, 7, 0, m_x),
  (89, .invokevirtual 150, 92, 3, 0, 0, m_Folk_size),
  (92, .invokevirtual 401, 95, 0, 0, 0, m_So_draw),
  (95, .istore 6, 97, 0, 0, 0, m_x),
  (97, .iload 5, 99, 0, 0, 0, m_x),
  (99, .iconst 2, 100, 0, 0, 0, m_x),
  (100, .if_icmp .ne 28, 103, 0, 128, 0, m_x),
  (103, .aload_n 0, 104, 0, 0, 0, m_x),
  (104, .aload_n 0, 105, 0, 0, 0, m_x),
  (105, .getfield 58, 108, 0, 7, 0, m_x),
  (108, .iload 6, 110, 0, 0, 0, m_x),
  (110, .aload_n 0, 111, 0, 0, 0, m_x),
  (111, .aload_n 0, 112, 0, 0, 0, m_x),
  (112, .getfield 26, 115, 0, 2, 0, m_x),
  (115, .invokevirtual 129, 118, 4, 0, 0, m_Land_size),
  (118, .invokevirtual 401, 121, 0, 0, 0, m_So_draw),
  (121, .invokevirtual 232, 124, 0, 0, 0, m_So_goTo),
  (124, .pop, 125, 0, 0, 0, m_x),
  (125, .goto 22, 128, 0, 147, 0, m_x),
  (128, .aload_n 0, 129, 0, 0, 0, m_x),
  (129, .aload_n 0, 130, 0, 0, 0, m_x),
  (130, .getfield 58, 133, 0, 7, 0, m_x),
  (133, .iload 6, 135, 0, 0, 0, m_x),
  (135, .aload_n 0, 136, 0, 0, 0, m_x),
  (136, .bipush 9, 138, 0, 0, 0, m_x),
  (138, .invokevirtual 401, 141, 0, 0, 0, m_So_draw),
  (141, .iconst 1, 142, 0, 0, 0, m_x),
  (142, .iadd, 143, 0, 0, 0, m_x),
  (143, .invokevirtual 245, 146, 0, 0, 0, m_So_doubt),
  (146, .pop, 147, 0, 0, 0, m_x),
  (147, .iinc 4 1, 150, 0, 0, 0, m_x),
  (150, .goto (-116), 153, 0, 34, 0, m_x),
  (153, .aload_n 0, 154, 0, 0, 0, m_x),
  (154, .getfield 19, 157, 0, 1, 0, m_x),
  (157, .iload_n 3, 158, 0, 0, 0, m_x),
  (158, .i2l, 159, 0, 0, 0, m_x),
  (159, .aload_n 0, 160, 0, 0, 0, m_x),
  (160, .getfield 58, 163, 0, 7, 0, m_x),
  (163, .invokevirtual 347, 166, 3, 0, 0, m_Folk_day),
  (166, .bipush 100, 168, 0, 0, 0, m_x),
  (168, .irem, 169, 0, 0, 0, m_x),
  (169, .i2l, 170, 0, 0, 0, m_x),
  (170, .invokevirtual 225, 173, 7, 0, 0, m_Row_tell2),
  (173, .aload_n 0, 174, 0, 0, 0, m_x),
  (174, .getfield 58, 177, 0, 7, 0, m_x),
  (177, .invokevirtual 229, 180, 3, 0, 0, m_Folk_ages),
  (180, .ireturn, 181, 0, 0, 0, m_x)]
theorem dc_So_years : ∀ E ∈ k_So_years, xDc m_So_years E := by decide +kernel
set_option maxRecDepth 20000 in
theorem ok_So_years : ∀ E ∈ k_So_years, xOk m_So_years E := xok_of dc_So_years (xfc trivial (xfc trivial (xfc (show ((2 : Nat) : Int) + (9) = ((11 : Nat) : Int) from by decide) (xfc trivial (xfc trivial (xfc (show ((8 : Nat) : Int) + (5) = ((13 : Nat) : Int) from by decide) (xfc trivial (xfc trivial (xfc trivial (xfc fl_So_58 (xfc trivial (xfc fl_So_54 (xfc ⟨ml_So_215, kd_Folk_copyFrom⟩ (xfc trivial (xfc trivial (xfc ⟨fl_So_114, fun q h f => by cases h; exact absurd f (by decide)⟩ (xfc trivial (xfc trivial (xfc trivial (xfc trivial (xfc trivial (xfc trivial (xfc (show ((37 : Nat) : Int) + (116) = ((153 : Nat) : Int) from by decide) (xfc trivial (xfc trivial (xfc ⟨ml_So_401, kd_So_draw⟩ (xfc trivial (xfc trivial (xfc trivial (xfc (show ((50 : Nat) : Int) + (24) = ((74 : Nat) : Int) from by decide) (xfc trivial (xfc trivial (xfc fl_So_47 (xfc trivial (xfc fl_So_35 (xfc trivial (xfc fl_So_58 (xfc ⟨ml_So_218, kd_Sun_dayBy⟩ (xfc trivial (xfc trivial (xfc (show ((71 : Nat) : Int) + (76) = ((147 : Nat) : Int) from by decide) (xfc trivial (xfc fl_So_58 (xfc ⟨ml_So_150, kd_Folk_size⟩ (xfc (show ((81 : Nat) : Int) + (66) = ((147 : Nat) : Int) from by decide) (xfc trivial (xfc trivial (xfc fl_So_58 (xfc ⟨ml_So_150, kd_Folk_size⟩ (xfc ⟨ml_So_401, kd_So_draw⟩ (xfc trivial (xfc trivial (xfc trivial (xfc (show ((100 : Nat) : Int) + (28) = ((128 : Nat) : Int) from by decide) (xfc trivial (xfc trivial (xfc fl_So_58 (xfc trivial (xfc trivial (xfc trivial (xfc fl_So_26 (xfc ⟨ml_So_129, kd_Land_size⟩ (xfc ⟨ml_So_401, kd_So_draw⟩ (xfc ⟨ml_So_232, kd_So_goTo⟩ (xfc trivial (xfc (show ((125 : Nat) : Int) + (22) = ((147 : Nat) : Int) from by decide) (xfc trivial (xfc trivial (xfc fl_So_58 (xfc trivial (xfc trivial (xfc trivial (xfc ⟨ml_So_401, kd_So_draw⟩ (xfc trivial (xfc trivial (xfc ⟨ml_So_245, kd_So_doubt⟩ (xfc trivial (xfc trivial (xfc (show ((150 : Nat) : Int) + (-116) = ((34 : Nat) : Int) from by decide) (xfc trivial (xfc fl_So_19 (xfc trivial (xfc trivial (xfc trivial (xfc fl_So_58 (xfc ⟨ml_So_347, kd_Folk_day⟩ (xfc trivial (xfc trivial (xfc trivial (xfc ⟨ml_So_225, kd_Row_tell2⟩ (xfc trivial (xfc fl_So_58 (xfc ⟨ml_So_229, kd_Folk_ages⟩ (xfc trivial (xfn)))))))))))))))))))))))))))))))))))))))))))))))))))))))))))))))))))))))))))))))))))))))))))))))
theorem s_So_years_0 (C : xCx) (r : List Value) (hp : xHp) (x : Int32) (a0 a1 a3 a4 a5 a6 : Value) : (xV k_So_years C 0 [a0, a1, .int x, a3, a4, a5, a6] r hp) = (xV k_So_years C 1 [a0, a1, .int x, a3, a4, a5, a6] (.int x :: r) hp) := xVe _ _ _ _ _ _
theorem s_So_years_1  (C : xCx) (L r : List Value) (hp : xHp) : (xV k_So_years C 1 L (r) hp) = (xV k_So_years C 2 L (.int (1) :: r) hp) := xVe _ _ _ _ _ _
theorem s_So_years_2 (x y : Int32) (C : xCx) (L r : List Value) (hp : xHp) : (xV k_So_years C 2 L (.int y :: .int x :: r) hp) = (((x < y → xV k_So_years C 11 L r hp) ∧ (¬ x < y → xV k_So_years C 5 L r hp))) := xVe _ _ _ _ _ _
theorem s_So_years_5 (C : xCx) (r : List Value) (hp : xHp) (x : Int32) (a0 a1 a3 a4 a5 a6 : Value) : (xV k_So_years C 5 [a0, a1, .int x, a3, a4, a5, a6] r hp) = (xV k_So_years C 6 [a0, a1, .int x, a3, a4, a5, a6] (.int x :: r) hp) := xVe _ _ _ _ _ _
theorem s_So_years_6  (C : xCx) (L r : List Value) (hp : xHp) : (xV k_So_years C 6 L (r) hp) = (xV k_So_years C 8 L (.int (60) :: r) hp) := xVe _ _ _ _ _ _
theorem s_So_years_8 (x y : Int32) (C : xCx) (L r : List Value) (hp : xHp) : (xV k_So_years C 8 L (.int y :: .int x :: r) hp) = (((x ≤ y → xV k_So_years C 13 L r hp) ∧ (¬ x ≤ y → xV k_So_years C 11 L r hp))) := xVe _ _ _ _ _ _
theorem s_So_years_11  (C : xCx) (L r : List Value) (hp : xHp) : (xV k_So_years C 11 L (r) hp) = (xV k_So_years C 12 L (.int (-1) :: r) hp) := xVe _ _ _ _ _ _
theorem s_So_years_12 (v : Int32) (l : Launch) (d b lo gz n0 s0 : Nat) (Po : Option Value → xHp → Prop) (L : List Value) (hp : xHp) : (xV k_So_years (l, d, b, lo, gz, n0, s0, m_So_years, Po) 12 L [.int v] hp) = (Po (some (.int v)) hp) := xVe _ _ _ _ _ _
theorem s_So_years_13 (C : xCx) (r : List Value) (hp : xHp) (x : Nat) (a1 a2 a3 a4 a5 a6 : Value) : (xV k_So_years C 13 [.ref x, a1, a2, a3, a4, a5, a6] r hp) = (True ∧ xV k_So_years C 14 [.ref x, a1, a2, a3, a4, a5, a6] (.ref x :: r) hp) := xVe _ _ _ _ _ _
theorem s_So_years_14 (a : Nat) (C : xCx) (L r : List Value) (hp : xHp) : (xV k_So_years C 14 L (.ref a :: r) hp) = (xF hp a 0 7 (fun v => xV k_So_years C 17 L (v :: r) hp)) := xVe _ _ _ _ _ _
theorem s_So_years_17 (C : xCx) (r : List Value) (hp : xHp) (x : Nat) (a1 a2 a3 a4 a5 a6 : Value) : (xV k_So_years C 17 [.ref x, a1, a2, a3, a4, a5, a6] r hp) = (True ∧ xV k_So_years C 18 [.ref x, a1, a2, a3, a4, a5, a6] (.ref x :: r) hp) := xVe _ _ _ _ _ _
theorem s_So_years_18 (a : Nat) (C : xCx) (L r : List Value) (hp : xHp) : (xV k_So_years C 18 L (.ref a :: r) hp) = (xF hp a 0 6 (fun v => xV k_So_years C 21 L (v :: r) hp)) := xVe _ _ _ _ _ _
theorem s_So_years_21 (x0 : Nat) (a : Nat) (l : Launch) (d b lo gz n0 s0 : Nat) (Po : Option Value → xHp → Prop) (L r : List Value) (hp : xHp) : (xV k_So_years (l, d + 1, b, lo, gz, n0, s0, m_So_years, Po) 21 L (.ref x0 :: .ref a :: r) hp) = (xO hp a 3 ∧ xcs r 8 ∧ xMv l d b lo gz m_Folk_copyFrom [.ref a, .ref x0] hp (fun hp' => xV k_So_years (l, d + 1, b, lo, gz, n0, s0, m_So_years, Po) 24 L r hp')) := xVe _ _ _ _ _ _
theorem s_So_years_24 (C : xCx) (r : List Value) (hp : xHp) (x : Nat) (a1 a2 a3 a4 a5 a6 : Value) : (xV k_So_years C 24 [.ref x, a1, a2, a3, a4, a5, a6] r hp) = (True ∧ xV k_So_years C 25 [.ref x, a1, a2, a3, a4, a5, a6] (.ref x :: r) hp) := xVe _ _ _ _ _ _
theorem s_So_years_25 (C : xCx) (r : List Value) (hp : xHp) (x : Int32) (a0 a2 a3 a4 a5 a6 : Value) : (xV k_So_years C 25 [a0, .int x, a2, a3, a4, a5, a6] r hp) = (xV k_So_years C 26 [a0, .int x, a2, a3, a4, a5, a6] (.int x :: r) hp) := xVe _ _ _ _ _ _
theorem s_So_years_26 (x : Int32) (a : Nat) (C : xCx) (L r : List Value) (hp : xHp) : (xV k_So_years C 26 L (.int x :: .ref a :: r) hp) = (True ∧ xPf hp a 0 16 (.int x) (fun hp' => xV k_So_years C 29 L r hp')) := xVe _ _ _ _ _ _
theorem s_So_years_29  (C : xCx) (L r : List Value) (hp : xHp) : (xV k_So_years C 29 L (r) hp) = (xV k_So_years C 30 L (.int (0) :: r) hp) := xVe _ _ _ _ _ _
theorem s_So_years_30 (C : xCx) (r : List Value) (hp : xHp) (x : Int32) (a0 a1 a2 a3 a4 a5 a6 : Value) : (xV k_So_years C 30 [a0, a1, a2, a3, a4, a5, a6] (.int x :: r) hp) = (3 < 7 ∧ xNl [a0, a1, a2, a3, a4, a5, a6] 3 ∧ xV k_So_years C 31 [a0, a1, a2, .int x, a4, a5, a6] r hp) := xVe _ _ _ _ _ _
theorem s_So_years_31  (C : xCx) (L r : List Value) (hp : xHp) : (xV k_So_years C 31 L (r) hp) = (xV k_So_years C 32 L (.int (0) :: r) hp) := xVe _ _ _ _ _ _
theorem s_So_years_32 (C : xCx) (r : List Value) (hp : xHp) (x : Int32) (a0 a1 a2 a3 a4 a5 a6 : Value) : (xV k_So_years C 32 [a0, a1, a2, a3, a4, a5, a6] (.int x :: r) hp) = (4 < 7 ∧ xNl [a0, a1, a2, a3, a4, a5, a6] 4 ∧ xV k_So_years C 34 [a0, a1, a2, a3, .int x, a5, a6] r hp) := xVe _ _ _ _ _ _
theorem s_So_years_34 (C : xCx) (r : List Value) (hp : xHp) (x : Int32) (a0 a1 a2 a3 a5 a6 : Value) : (xV k_So_years C 34 [a0, a1, a2, a3, .int x, a5, a6] r hp) = (xV k_So_years C 36 [a0, a1, a2, a3, .int x, a5, a6] (.int x :: r) hp) := xVe _ _ _ _ _ _
theorem s_So_years_36 (C : xCx) (r : List Value) (hp : xHp) (x : Int32) (a0 a1 a3 a4 a5 a6 : Value) : (xV k_So_years C 36 [a0, a1, .int x, a3, a4, a5, a6] r hp) = (xV k_So_years C 37 [a0, a1, .int x, a3, a4, a5, a6] (.int x :: r) hp) := xVe _ _ _ _ _ _
theorem s_So_years_37 (x y : Int32) (C : xCx) (L r : List Value) (hp : xHp) : (xV k_So_years C 37 L (.int y :: .int x :: r) hp) = (((y ≤ x → xV k_So_years C 153 L r hp) ∧ (¬ y ≤ x → xV k_So_years C 40 L r hp))) := xVe _ _ _ _ _ _
theorem s_So_years_40 (C : xCx) (r : List Value) (hp : xHp) (x : Nat) (a1 a2 a3 a4 a5 a6 : Value) : (xV k_So_years C 40 [.ref x, a1, a2, a3, a4, a5, a6] r hp) = (True ∧ xV k_So_years C 41 [.ref x, a1, a2, a3, a4, a5, a6] (.ref x :: r) hp) := xVe _ _ _ _ _ _
theorem s_So_years_41  (C : xCx) (L r : List Value) (hp : xHp) : (xV k_So_years C 41 L (r) hp) = (xV k_So_years C 42 L (.int (4) :: r) hp) := xVe _ _ _ _ _ _
theorem s_So_years_42 (x0 : Int32) (a : Nat) (l : Launch) (d b lo gz n0 s0 : Nat) (Po : Option Value → xHp → Prop) (L r : List Value) (hp : xHp) : (xV k_So_years (l, d + 1, b, lo, gz, n0, s0, m_So_years, Po) 42 L (.int x0 :: .ref a :: r) hp) = (xO hp a 0 ∧ xcs r 8 ∧ xMi l d b lo gz m_So_draw [.ref a, .int x0] hp (fun x hp' => xV k_So_years (l, d + 1, b, lo, gz, n0, s0, m_So_years, Po) 45 L (.int x :: r) hp')) := xVe _ _ _ _ _ _
theorem s_So_years_45 (C : xCx) (r : List Value) (hp : xHp) (x : Int32) (a0 a1 a2 a3 a4 a5 a6 : Value) : (xV k_So_years C 45 [a0, a1, a2, a3, a4, a5, a6] (.int x :: r) hp) = (5 < 7 ∧ xNl [a0, a1, a2, a3, a4, a5, a6] 5 ∧ xV k_So_years C 47 [a0, a1, a2, a3, a4, .int x, a6] r hp) := xVe _ _ _ _ _ _
theorem s_So_years_47 (C : xCx) (r : List Value) (hp : xHp) (x : Int32) (a0 a1 a2 a3 a4 a6 : Value) : (xV k_So_years C 47 [a0, a1, a2, a3, a4, .int x, a6] r hp) = (xV k_So_years C 49 [a0, a1, a2, a3, a4, .int x, a6] (.int x :: r) hp) := xVe _ _ _ _ _ _
theorem s_So_years_49  (C : xCx) (L r : List Value) (hp : xHp) : (xV k_So_years C 49 L (r) hp) = (xV k_So_years C 50 L (.int (2) :: r) hp) := xVe _ _ _ _ _ _
theorem s_So_years_50 (x y : Int32) (C : xCx) (L r : List Value) (hp : xHp) : (xV k_So_years C 50 L (.int y :: .int x :: r) hp) = (((y ≤ x → xV k_So_years C 74 L r hp) ∧ (¬ y ≤ x → xV k_So_years C 53 L r hp))) := xVe _ _ _ _ _ _
theorem s_So_years_53 (C : xCx) (r : List Value) (hp : xHp) (x : Int32) (a0 a1 a2 a4 a5 a6 : Value) : (xV k_So_years C 53 [a0, a1, a2, .int x, a4, a5, a6] r hp) = (xV k_So_years C 54 [a0, a1, a2, .int x, a4, a5, a6] (.int x :: r) hp) := xVe _ _ _ _ _ _
theorem s_So_years_54 (C : xCx) (r : List Value) (hp : xHp) (x : Nat) (a1 a2 a3 a4 a5 a6 : Value) : (xV k_So_years C 54 [.ref x, a1, a2, a3, a4, a5, a6] r hp) = (True ∧ xV k_So_years C 55 [.ref x, a1, a2, a3, a4, a5, a6] (.ref x :: r) hp) := xVe _ _ _ _ _ _
theorem s_So_years_55 (a : Nat) (C : xCx) (L r : List Value) (hp : xHp) : (xV k_So_years C 55 L (.ref a :: r) hp) = (xF hp a 0 5 (fun v => xV k_So_years C 58 L (v :: r) hp)) := xVe _ _ _ _ _ _
theorem s_So_years_58 (C : xCx) (r : List Value) (hp : xHp) (x : Nat) (a1 a2 a3 a4 a5 a6 : Value) : (xV k_So_years C 58 [.ref x, a1, a2, a3, a4, a5, a6] r hp) = (True ∧ xV k_So_years C 59 [.ref x, a1, a2, a3, a4, a5, a6] (.ref x :: r) hp) := xVe _ _ _ _ _ _
theorem s_So_years_59 (a : Nat) (C : xCx) (L r : List Value) (hp : xHp) : (xV k_So_years C 59 L (.ref a :: r) hp) = (xF hp a 0 3 (fun v => xV k_So_years C 62 L (v :: r) hp)) := xVe _ _ _ _ _ _
theorem s_So_years_62 (C : xCx) (r : List Value) (hp : xHp) (x : Nat) (a1 a2 a3 a4 a5 a6 : Value) : (xV k_So_years C 62 [.ref x, a1, a2, a3, a4, a5, a6] r hp) = (True ∧ xV k_So_years C 63 [.ref x, a1, a2, a3, a4, a5, a6] (.ref x :: r) hp) := xVe _ _ _ _ _ _
theorem s_So_years_63 (a : Nat) (C : xCx) (L r : List Value) (hp : xHp) : (xV k_So_years C 63 L (.ref a :: r) hp) = (xF hp a 0 7 (fun v => xV k_So_years C 66 L (v :: r) hp)) := xVe _ _ _ _ _ _
theorem s_So_years_66 (x0 : Nat) (x1 : Nat) (a : Nat) (l : Launch) (d b lo gz n0 s0 : Nat) (Po : Option Value → xHp → Prop) (L r : List Value) (hp : xHp) : (xV k_So_years (l, d + 1, b, lo, gz, n0, s0, m_So_years, Po) 66 L (.ref x1 :: .ref x0 :: .ref a :: r) hp) = (xO hp a 9 ∧ xcs r 8 ∧ xMi l d b lo gz m_Sun_dayBy [.ref a, .ref x0, .ref x1] hp (fun x hp' => xV k_So_years (l, d + 1, b, lo, gz, n0, s0, m_So_years, Po) 69 L (.int x :: r) hp')) := xVe _ _ _ _ _ _
theorem s_So_years_69 (x y : Int32) (C : xCx) (L r : List Value) (hp : xHp) : (xV k_So_years C 69 L (.int y :: .int x :: r) hp) = (xV k_So_years C 70 L (.int (x + y) :: r) hp) := xVe _ _ _ _ _ _
theorem s_So_years_70 (C : xCx) (r : List Value) (hp : xHp) (x : Int32) (a0 a1 a2 a3 a4 a5 a6 : Value) : (xV k_So_years C 70 [a0, a1, a2, a3, a4, a5, a6] (.int x :: r) hp) = (3 < 7 ∧ xNl [a0, a1, a2, a3, a4, a5, a6] 3 ∧ xV k_So_years C 71 [a0, a1, a2, .int x, a4, a5, a6] r hp) := xVe _ _ _ _ _ _
theorem s_So_years_71 (C : xCx) (L r : List Value) (hp : xHp) : (xV k_So_years C 71 L r hp) = (xV k_So_years C 147 L r hp) := xVe _ _ _ _ _ _
theorem s_So_years_74 (C : xCx) (r : List Value) (hp : xHp) (x : Nat) (a1 a2 a3 a4 a5 a6 : Value) : (xV k_So_years C 74 [.ref x, a1, a2, a3, a4, a5, a6] r hp) = (True ∧ xV k_So_years C 75 [.ref x, a1, a2, a3, a4, a5, a6] (.ref x :: r) hp) := xVe _ _ _ _ _ _
theorem s_So_years_75 (a : Nat) (C : xCx) (L r : List Value) (hp : xHp) : (xV k_So_years C 75 L (.ref a :: r) hp) = (xF hp a 0 7 (fun v => xV k_So_years C 78 L (v :: r) hp)) := xVe _ _ _ _ _ _
theorem s_So_years_78 (a : Nat) (l : Launch) (d b lo gz n0 s0 : Nat) (Po : Option Value → xHp → Prop) (L r : List Value) (hp : xHp) : (xV k_So_years (l, d + 1, b, lo, gz, n0, s0, m_So_years, Po) 78 L (.ref a :: r) hp) = (xO hp a 3 ∧ xcs r 8 ∧ xMi l d b lo gz m_Folk_size [.ref a] hp (fun x hp' => xV k_So_years (l, d + 1, b, lo, gz, n0, s0, m_So_years, Po) 81 L (.int x :: r) hp')) := xVe _ _ _ _ _ _
theorem s_So_years_81 (x : Int32) (C : xCx) (L r : List Value) (hp : xHp) : (xV k_So_years C 81 L (.int x :: r) hp) = (((x ≤ 0 → xV k_So_years C 147 L r hp) ∧ (¬ x ≤ 0 → xV k_So_years C 84 L r hp))) := xVe _ _ _ _ _ _
theorem s_So_years_84 (C : xCx) (r : List Value) (hp : xHp) (x : Nat) (a1 a2 a3 a4 a5 a6 : Value) : (xV k_So_years C 84 [.ref x, a1, a2, a3, a4, a5, a6] r hp) = (True ∧ xV k_So_years C 85 [.ref x, a1, a2, a3, a4, a5, a6] (.ref x :: r) hp) := xVe _ _ _ _ _ _
theorem s_So_years_85 (C : xCx) (r : List Value) (hp : xHp) (x : Nat) (a1 a2 a3 a4 a5 a6 : Value) : (xV k_So_years C 85 [.ref x, a1, a2, a3, a4, a5, a6] r hp) = (True ∧ xV k_So_years C 86 [.ref x, a1, a2, a3, a4, a5, a6] (.ref x :: r) hp) := xVe _ _ _ _ _ _
theorem s_So_years_86 (a : Nat) (C : xCx) (L r : List Value) (hp : xHp) : (xV k_So_years C 86 L (.ref a :: r) hp) = (xF hp a 0 7 (fun v => xV k_So_years C 89 L (v :: r) hp)) := xVe _ _ _ _ _ _
theorem s_So_years_89 (a : Nat) (l : Launch) (d b lo gz n0 s0 : Nat) (Po : Option Value → xHp → Prop) (L r : List Value) (hp : xHp) : (xV k_So_years (l, d + 1, b, lo, gz, n0, s0, m_So_years, Po) 89 L (.ref a :: r) hp) = (xO hp a 3 ∧ xcs r 8 ∧ xMi l d b lo gz m_Folk_size [.ref a] hp (fun x hp' => xV k_So_years (l, d + 1, b, lo, gz, n0, s0, m_So_years, Po) 92 L (.int x :: r) hp')) := xVe _ _ _ _ _ _
theorem s_So_years_92 (x0 : Int32) (a : Nat) (l : Launch) (d b lo gz n0 s0 : Nat) (Po : Option Value → xHp → Prop) (L r : List Value) (hp : xHp) : (xV k_So_years (l, d + 1, b, lo, gz, n0, s0, m_So_years, Po) 92 L (.int x0 :: .ref a :: r) hp) = (xO hp a 0 ∧ xcs r 8 ∧ xMi l d b lo gz m_So_draw [.ref a, .int x0] hp (fun x hp' => xV k_So_years (l, d + 1, b, lo, gz, n0, s0, m_So_years, Po) 95 L (.int x :: r) hp')) := xVe _ _ _ _ _ _
theorem s_So_years_95 (C : xCx) (r : List Value) (hp : xHp) (x : Int32) (a0 a1 a2 a3 a4 a5 a6 : Value) : (xV k_So_years C 95 [a0, a1, a2, a3, a4, a5, a6] (.int x :: r) hp) = (6 < 7 ∧ xNl [a0, a1, a2, a3, a4, a5, a6] 6 ∧ xV k_So_years C 97 [a0, a1, a2, a3, a4, a5, .int x] r hp) := xVe _ _ _ _ _ _
theorem s_So_years_97 (C : xCx) (r : List Value) (hp : xHp) (x : Int32) (a0 a1 a2 a3 a4 a6 : Value) : (xV k_So_years C 97 [a0, a1, a2, a3, a4, .int x, a6] r hp) = (xV k_So_years C 99 [a0, a1, a2, a3, a4, .int x, a6] (.int x :: r) hp) := xVe _ _ _ _ _ _
theorem s_So_years_99  (C : xCx) (L r : List Value) (hp : xHp) : (xV k_So_years C 99 L (r) hp) = (xV k_So_years C 100 L (.int (2) :: r) hp) := xVe _ _ _ _ _ _
theorem s_So_years_100 (x y : Int32) (C : xCx) (L r : List Value) (hp : xHp) : (xV k_So_years C 100 L (.int y :: .int x :: r) hp) = (((¬ x = y → xV k_So_years C 128 L r hp) ∧ (x = y → xV k_So_years C 103 L r hp))) := xVe _ _ _ _ _ _
theorem s_So_years_103 (C : xCx) (r : List Value) (hp : xHp) (x : Nat) (a1 a2 a3 a4 a5 a6 : Value) : (xV k_So_years C 103 [.ref x, a1, a2, a3, a4, a5, a6] r hp) = (True ∧ xV k_So_years C 104 [.ref x, a1, a2, a3, a4, a5, a6] (.ref x :: r) hp) := xVe _ _ _ _ _ _
theorem s_So_years_104 (C : xCx) (r : List Value) (hp : xHp) (x : Nat) (a1 a2 a3 a4 a5 a6 : Value) : (xV k_So_years C 104 [.ref x, a1, a2, a3, a4, a5, a6] r hp) = (True ∧ xV k_So_years C 105 [.ref x, a1, a2, a3, a4, a5, a6] (.ref x :: r) hp) := xVe _ _ _ _ _ _
theorem s_So_years_105 (a : Nat) (C : xCx) (L r : List Value) (hp : xHp) : (xV k_So_years C 105 L (.ref a :: r) hp) = (xF hp a 0 7 (fun v => xV k_So_years C 108 L (v :: r) hp)) := xVe _ _ _ _ _ _
theorem s_So_years_108 (C : xCx) (r : List Value) (hp : xHp) (x : Int32) (a0 a1 a2 a3 a4 a5 : Value) : (xV k_So_years C 108 [a0, a1, a2, a3, a4, a5, .int x] r hp) = (xV k_So_years C 110 [a0, a1, a2, a3, a4, a5, .int x] (.int x :: r) hp) := xVe _ _ _ _ _ _
theorem s_So_years_110 (C : xCx) (r : List Value) (hp : xHp) (x : Nat) (a1 a2 a3 a4 a5 a6 : Value) : (xV k_So_years C 110 [.ref x, a1, a2, a3, a4, a5, a6] r hp) = (True ∧ xV k_So_years C 111 [.ref x, a1, a2, a3, a4, a5, a6] (.ref x :: r) hp) := xVe _ _ _ _ _ _
theorem s_So_years_111 (C : xCx) (r : List Value) (hp : xHp) (x : Nat) (a1 a2 a3 a4 a5 a6 : Value) : (xV k_So_years C 111 [.ref x, a1, a2, a3, a4, a5, a6] r hp) = (True ∧ xV k_So_years C 112 [.ref x, a1, a2, a3, a4, a5, a6] (.ref x :: r) hp) := xVe _ _ _ _ _ _
theorem s_So_years_112 (a : Nat) (C : xCx) (L r : List Value) (hp : xHp) : (xV k_So_years C 112 L (.ref a :: r) hp) = (xF hp a 0 2 (fun v => xV k_So_years C 115 L (v :: r) hp)) := xVe _ _ _ _ _ _
theorem s_So_years_115 (a : Nat) (l : Launch) (d b lo gz n0 s0 : Nat) (Po : Option Value → xHp → Prop) (L r : List Value) (hp : xHp) : (xV k_So_years (l, d + 1, b, lo, gz, n0, s0, m_So_years, Po) 115 L (.ref a :: r) hp) = (xO hp a 4 ∧ xcs r 8 ∧ xMi l d b lo gz m_Land_size [.ref a] hp (fun x hp' => xV k_So_years (l, d + 1, b, lo, gz, n0, s0, m_So_years, Po) 118 L (.int x :: r) hp')) := xVe _ _ _ _ _ _
theorem s_So_years_118 (x0 : Int32) (a : Nat) (l : Launch) (d b lo gz n0 s0 : Nat) (Po : Option Value → xHp → Prop) (L r : List Value) (hp : xHp) : (xV k_So_years (l, d + 1, b, lo, gz, n0, s0, m_So_years, Po) 118 L (.int x0 :: .ref a :: r) hp) = (xO hp a 0 ∧ xcs r 8 ∧ xMi l d b lo gz m_So_draw [.ref a, .int x0] hp (fun x hp' => xV k_So_years (l, d + 1, b, lo, gz, n0, s0, m_So_years, Po) 121 L (.int x :: r) hp')) := xVe _ _ _ _ _ _
theorem s_So_years_121 (x0 : Nat) (x1 : Int32) (x2 : Int32) (a : Nat) (l : Launch) (d b lo gz n0 s0 : Nat) (Po : Option Value → xHp → Prop) (L r : List Value) (hp : xHp) : (xV k_So_years (l, d + 1, b, lo, gz, n0, s0, m_So_years, Po) 121 L (.int x2 :: .int x1 :: .ref x0 :: .ref a :: r) hp) = (xO hp a 0 ∧ xcs r 8 ∧ xMi l d b lo gz m_So_goTo [.ref a, .ref x0, .int x1, .int x2] hp (fun x hp' => xV k_So_years (l, d + 1, b, lo, gz, n0, s0, m_So_years, Po) 124 L (.int x :: r) hp')) := xVe _ _ _ _ _ _
theorem s_So_years_124 (v : Value) (C : xCx) (L r : List Value) (hp : xHp) : (xV k_So_years C 124 L (v :: r) hp) = (v.category = 1 ∧ xV k_So_years C 125 L (r) hp) := xVe _ _ _ _ _ _
theorem s_So_years_125 (C : xCx) (L r : List Value) (hp : xHp) : (xV k_So_years C 125 L r hp) = (xV k_So_years C 147 L r hp) := xVe _ _ _ _ _ _
theorem s_So_years_128 (C : xCx) (r : List Value) (hp : xHp) (x : Nat) (a1 a2 a3 a4 a5 a6 : Value) : (xV k_So_years C 128 [.ref x, a1, a2, a3, a4, a5, a6] r hp) = (True ∧ xV k_So_years C 129 [.ref x, a1, a2, a3, a4, a5, a6] (.ref x :: r) hp) := xVe _ _ _ _ _ _
theorem s_So_years_129 (C : xCx) (r : List Value) (hp : xHp) (x : Nat) (a1 a2 a3 a4 a5 a6 : Value) : (xV k_So_years C 129 [.ref x, a1, a2, a3, a4, a5, a6] r hp) = (True ∧ xV k_So_years C 130 [.ref x, a1, a2, a3, a4, a5, a6] (.ref x :: r) hp) := xVe _ _ _ _ _ _
theorem s_So_years_130 (a : Nat) (C : xCx) (L r : List Value) (hp : xHp) : (xV k_So_years C 130 L (.ref a :: r) hp) = (xF hp a 0 7 (fun v => xV k_So_years C 133 L (v :: r) hp)) := xVe _ _ _ _ _ _
theorem s_So_years_133 (C : xCx) (r : List Value) (hp : xHp) (x : Int32) (a0 a1 a2 a3 a4 a5 : Value) : (xV k_So_years C 133 [a0, a1, a2, a3, a4, a5, .int x] r hp) = (xV k_So_years C 135 [a0, a1, a2, a3, a4, a5, .int x] (.int x :: r) hp) := xVe _ _ _ _ _ _
theorem s_So_years_135 (C : xCx) (r : List Value) (hp : xHp) (x : Nat) (a1 a2 a3 a4 a5 a6 : Value) : (xV k_So_years C 135 [.ref x, a1, a2, a3, a4, a5, a6] r hp) = (True ∧ xV k_So_years C 136 [.ref x, a1, a2, a3, a4, a5, a6] (.ref x :: r) hp) := xVe _ _ _ _ _ _
theorem s_So_years_136  (C : xCx) (L r : List Value) (hp : xHp) : (xV k_So_years C 136 L (r) hp) = (xV k_So_years C 138 L (.int (9) :: r) hp) := xVe _ _ _ _ _ _
theorem s_So_years_138 (x0 : Int32) (a : Nat) (l : Launch) (d b lo gz n0 s0 : Nat) (Po : Option Value → xHp → Prop) (L r : List Value) (hp : xHp) : (xV k_So_years (l, d + 1, b, lo, gz, n0, s0, m_So_years, Po) 138 L (.int x0 :: .ref a :: r) hp) = (xO hp a 0 ∧ xcs r 8 ∧ xMi l d b lo gz m_So_draw [.ref a, .int x0] hp (fun x hp' => xV k_So_years (l, d + 1, b, lo, gz, n0, s0, m_So_years, Po) 141 L (.int x :: r) hp')) := xVe _ _ _ _ _ _
theorem s_So_years_141  (C : xCx) (L r : List Value) (hp : xHp) : (xV k_So_years C 141 L (r) hp) = (xV k_So_years C 142 L (.int (1) :: r) hp) := xVe _ _ _ _ _ _
theorem s_So_years_142 (x y : Int32) (C : xCx) (L r : List Value) (hp : xHp) : (xV k_So_years C 142 L (.int y :: .int x :: r) hp) = (xV k_So_years C 143 L (.int (x + y) :: r) hp) := xVe _ _ _ _ _ _
theorem s_So_years_143 (x0 : Nat) (x1 : Int32) (x2 : Int32) (a : Nat) (l : Launch) (d b lo gz n0 s0 : Nat) (Po : Option Value → xHp → Prop) (L r : List Value) (hp : xHp) : (xV k_So_years (l, d + 1, b, lo, gz, n0, s0, m_So_years, Po) 143 L (.int x2 :: .int x1 :: .ref x0 :: .ref a :: r) hp) = (xO hp a 0 ∧ xcs r 8 ∧ xMi l d b lo gz m_So_doubt [.ref a, .ref x0, .int x1, .int x2] hp (fun x hp' => xV k_So_years (l, d + 1, b, lo, gz, n0, s0, m_So_years, Po) 146 L (.int x :: r) hp')) := xVe _ _ _ _ _ _
theorem s_So_years_146 (v : Value) (C : xCx) (L r : List Value) (hp : xHp) : (xV k_So_years C 146 L (v :: r) hp) = (v.category = 1 ∧ xV k_So_years C 147 L (r) hp) := xVe _ _ _ _ _ _
theorem s_So_years_147 (C : xCx) (r : List Value) (hp : xHp) (x : Int32) (a0 a1 a2 a3 a5 a6 : Value) : (xV k_So_years C 147 [a0, a1, a2, a3, .int x, a5, a6] r hp) = (xNl [a0, a1, a2, a3, .int x, a5, a6] 4 ∧ xV k_So_years C 150 [a0, a1, a2, a3, .int (x + (1)), a5, a6] r hp) := xVe _ _ _ _ _ _
theorem s_So_years_150 (C : xCx) (L r : List Value) (hp : xHp) : (xV k_So_years C 150 L r hp) = (xV k_So_years C 34 L r hp) := xVe _ _ _ _ _ _
theorem s_So_years_153 (C : xCx) (r : List Value) (hp : xHp) (x : Nat) (a1 a2 a3 a4 a5 a6 : Value) : (xV k_So_years C 153 [.ref x, a1, a2, a3, a4, a5, a6] r hp) = (True ∧ xV k_So_years C 154 [.ref x, a1, a2, a3, a4, a5, a6] (.ref x :: r) hp) := xVe _ _ _ _ _ _
theorem s_So_years_154 (a : Nat) (C : xCx) (L r : List Value) (hp : xHp) : (xV k_So_years C 154 L (.ref a :: r) hp) = (xF hp a 0 1 (fun v => xV k_So_years C 157 L (v :: r) hp)) := xVe _ _ _ _ _ _
theorem s_So_years_157 (C : xCx) (r : List Value) (hp : xHp) (x : Int32) (a0 a1 a2 a4 a5 a6 : Value) : (xV k_So_years C 157 [a0, a1, a2, .int x, a4, a5, a6] r hp) = (xV k_So_years C 158 [a0, a1, a2, .int x, a4, a5, a6] (.int x :: r) hp) := xVe _ _ _ _ _ _
theorem s_So_years_158 (x : Int32) (C : xCx) (L r : List Value) (hp : xHp) : (xV k_So_years C 158 L (.int x :: r) hp) = (xV k_So_years C 159 L (.long x.toInt64 :: r) hp) := xVe _ _ _ _ _ _
theorem s_So_years_159 (C : xCx) (r : List Value) (hp : xHp) (x : Nat) (a1 a2 a3 a4 a5 a6 : Value) : (xV k_So_years C 159 [.ref x, a1, a2, a3, a4, a5, a6] r hp) = (True ∧ xV k_So_years C 160 [.ref x, a1, a2, a3, a4, a5, a6] (.ref x :: r) hp) := xVe _ _ _ _ _ _
theorem s_So_years_160 (a : Nat) (C : xCx) (L r : List Value) (hp : xHp) : (xV k_So_years C 160 L (.ref a :: r) hp) = (xF hp a 0 7 (fun v => xV k_So_years C 163 L (v :: r) hp)) := xVe _ _ _ _ _ _
theorem s_So_years_163 (a : Nat) (l : Launch) (d b lo gz n0 s0 : Nat) (Po : Option Value → xHp → Prop) (L r : List Value) (hp : xHp) : (xV k_So_years (l, d + 1, b, lo, gz, n0, s0, m_So_years, Po) 163 L (.ref a :: r) hp) = (xO hp a 3 ∧ xcs r 8 ∧ xMi l d b lo gz m_Folk_day [.ref a] hp (fun x hp' => xV k_So_years (l, d + 1, b, lo, gz, n0, s0, m_So_years, Po) 166 L (.int x :: r) hp')) := xVe _ _ _ _ _ _
theorem s_So_years_166  (C : xCx) (L r : List Value) (hp : xHp) : (xV k_So_years C 166 L (r) hp) = (xV k_So_years C 168 L (.int (100) :: r) hp) := xVe _ _ _ _ _ _
theorem s_So_years_168 (x y : Int32) (C : xCx) (L r : List Value) (hp : xHp) : (xV k_So_years C 168 L (.int y :: .int x :: r) hp) = (¬ y = 0 ∧ xV k_So_years C 169 L (.int (x - x / y * y) :: r) hp) := xVe _ _ _ _ _ _
theorem s_So_years_169 (x : Int32) (C : xCx) (L r : List Value) (hp : xHp) : (xV k_So_years C 169 L (.int x :: r) hp) = (xV k_So_years C 170 L (.long x.toInt64 :: r) hp) := xVe _ _ _ _ _ _
theorem s_So_years_170 (x0 : Int64) (x1 : Int64) (a : Nat) (l : Launch) (d b lo gz n0 s0 : Nat) (Po : Option Value → xHp → Prop) (L r : List Value) (hp : xHp) : (xV k_So_years (l, d + 1, b, lo, gz, n0, s0, m_So_years, Po) 170 L (.long x1 :: .long x0 :: .ref a :: r) hp) = (xO hp a 7 ∧ xcs r 8 ∧ xMv l d b lo gz m_Row_tell2 [.ref a, .long x0, .long x1] hp (fun hp' => xV k_So_years (l, d + 1, b, lo, gz, n0, s0, m_So_years, Po) 173 L r hp')) := xVe _ _ _ _ _ _
theorem s_So_years_173 (C : xCx) (r : List Value) (hp : xHp) (x : Nat) (a1 a2 a3 a4 a5 a6 : Value) : (xV k_So_years C 173 [.ref x, a1, a2, a3, a4, a5, a6] r hp) = (True ∧ xV k_So_years C 174 [.ref x, a1, a2, a3, a4, a5, a6] (.ref x :: r) hp) := xVe _ _ _ _ _ _
theorem s_So_years_174 (a : Nat) (C : xCx) (L r : List Value) (hp : xHp) : (xV k_So_years C 174 L (.ref a :: r) hp) = (xF hp a 0 7 (fun v => xV k_So_years C 177 L (v :: r) hp)) := xVe _ _ _ _ _ _
theorem s_So_years_177 (a : Nat) (l : Launch) (d b lo gz n0 s0 : Nat) (Po : Option Value → xHp → Prop) (L r : List Value) (hp : xHp) : (xV k_So_years (l, d + 1, b, lo, gz, n0, s0, m_So_years, Po) 177 L (.ref a :: r) hp) = (xO hp a 3 ∧ xcs r 8 ∧ xMi l d b lo gz m_Folk_ages [.ref a] hp (fun x hp' => xV k_So_years (l, d + 1, b, lo, gz, n0, s0, m_So_years, Po) 180 L (.int x :: r) hp')) := xVe _ _ _ _ _ _
theorem s_So_years_180 (v : Int32) (l : Launch) (d b lo gz n0 s0 : Nat) (Po : Option Value → xHp → Prop) (L : List Value) (hp : xHp) : (xV k_So_years (l, d, b, lo, gz, n0, s0, m_So_years, Po) 180 L [.int v] hp) = (Po (some (.int v)) hp) := xVe _ _ _ _ _ _
def k_So_draw : List xEC := [
  (0, .aload_n 0, 1, 0, 0, 0, m_x),
  (1, .aload_n 0, 2, 0, 0, 0, m_x),
  (2, .getfield 114, 5, 0, 16, 0, m_x),
  (5, .ldc_w 404, 8, 0, 0, (1103515245), m_x),
  (8, .imul, 9, 0, 0, 0, m_x),
  (9, .sipush 12345, 12, 0, 0, 0, m_x),
  (12, .iadd, 13, 0, 0, 0, m_x),
  (13, .putfield 114, 16, 0, 16, 0, m_x),
  (16, .iload_n 1, 17, 0, 0, 0, m_x),
  (17, .ifCond .le 15, 20, 0, 32, 0, m_x),
  (20, .aload_n 0, 21, 0, 0, 0, m_x),
  (21, .getfield 114, 24, 0, 16, 0, m_x),
  (24, .bipush 16, 26, 0, 0, 0, m_x),
  (26, .iushr, 27, 0, 0, 0, m_x),
  (27, .iload_n 1, 28, 0, 0, 0, m_x),
  (28, .irem, 29, 0, 0, 0, m_x),
  (29, .goto 4, 32, 0, 33, 0, m_x),
  (32, .iconst 0, 33, 0, 0, 0, m_x),
  (33, .ireturn, 34, 0, 0, 0, m_x)]
theorem dc_So_draw : ∀ E ∈ k_So_draw, xDc m_So_draw E := by decide +kernel
set_option maxRecDepth 20000 in
theorem ok_So_draw : ∀ E ∈ k_So_draw, xOk m_So_draw E := xok_of dc_So_draw (xfc trivial (xfc trivial (xfc fl_So_114 (xfc (wg5 71 (by decide +kernel) rfl) (xfc trivial (xfc trivial (xfc trivial (xfc ⟨fl_So_114, fun q h f => by cases h; exact absurd f (by decide)⟩ (xfc trivial (xfc (show ((17 : Nat) : Int) + (15) = ((32 : Nat) : Int) from by decide) (xfc trivial (xfc fl_So_114 (xfc trivial (xfc trivial (xfc trivial (xfc trivial (xfc (show ((29 : Nat) : Int) + (4) = ((33 : Nat) : Int) from by decide) (xfc trivial (xfc trivial (xfn))))))))))))))))))))
theorem s_So_draw_0 (C : xCx) (r : List Value) (hp : xHp) (x : Nat) (a1 : Value) : (xV k_So_draw C 0 [.ref x, a1] r hp) = (True ∧ xV k_So_draw C 1 [.ref x, a1] (.ref x :: r) hp) := xVe _ _ _ _ _ _
theorem s_So_draw_1 (C : xCx) (r : List Value) (hp : xHp) (x : Nat) (a1 : Value) : (xV k_So_draw C 1 [.ref x, a1] r hp) = (True ∧ xV k_So_draw C 2 [.ref x, a1] (.ref x :: r) hp) := xVe _ _ _ _ _ _
theorem s_So_draw_2 (a : Nat) (C : xCx) (L r : List Value) (hp : xHp) : (xV k_So_draw C 2 L (.ref a :: r) hp) = (xF hp a 0 16 (fun v => xV k_So_draw C 5 L (v :: r) hp)) := xVe _ _ _ _ _ _
theorem s_So_draw_5  (C : xCx) (L r : List Value) (hp : xHp) : (xV k_So_draw C 5 L (r) hp) = (xV k_So_draw C 8 L (.int (1103515245) :: r) hp) := xVe _ _ _ _ _ _
theorem s_So_draw_8 (x y : Int32) (C : xCx) (L r : List Value) (hp : xHp) : (xV k_So_draw C 8 L (.int y :: .int x :: r) hp) = (xV k_So_draw C 9 L (.int (x * y) :: r) hp) := xVe _ _ _ _ _ _
theorem s_So_draw_9  (C : xCx) (L r : List Value) (hp : xHp) : (xV k_So_draw C 9 L (r) hp) = (xV k_So_draw C 12 L (.int (12345) :: r) hp) := xVe _ _ _ _ _ _
theorem s_So_draw_12 (x y : Int32) (C : xCx) (L r : List Value) (hp : xHp) : (xV k_So_draw C 12 L (.int y :: .int x :: r) hp) = (xV k_So_draw C 13 L (.int (x + y) :: r) hp) := xVe _ _ _ _ _ _
theorem s_So_draw_13 (x : Int32) (a : Nat) (C : xCx) (L r : List Value) (hp : xHp) : (xV k_So_draw C 13 L (.int x :: .ref a :: r) hp) = (True ∧ xPf hp a 0 16 (.int x) (fun hp' => xV k_So_draw C 16 L r hp')) := xVe _ _ _ _ _ _
theorem s_So_draw_16 (C : xCx) (r : List Value) (hp : xHp) (x : Int32) (a0 : Value) : (xV k_So_draw C 16 [a0, .int x] r hp) = (xV k_So_draw C 17 [a0, .int x] (.int x :: r) hp) := xVe _ _ _ _ _ _
theorem s_So_draw_17 (x : Int32) (C : xCx) (L r : List Value) (hp : xHp) : (xV k_So_draw C 17 L (.int x :: r) hp) = (((x ≤ 0 → xV k_So_draw C 32 L r hp) ∧ (¬ x ≤ 0 → xV k_So_draw C 20 L r hp))) := xVe _ _ _ _ _ _
theorem s_So_draw_20 (C : xCx) (r : List Value) (hp : xHp) (x : Nat) (a1 : Value) : (xV k_So_draw C 20 [.ref x, a1] r hp) = (True ∧ xV k_So_draw C 21 [.ref x, a1] (.ref x :: r) hp) := xVe _ _ _ _ _ _
theorem s_So_draw_21 (a : Nat) (C : xCx) (L r : List Value) (hp : xHp) : (xV k_So_draw C 21 L (.ref a :: r) hp) = (xF hp a 0 16 (fun v => xV k_So_draw C 24 L (v :: r) hp)) := xVe _ _ _ _ _ _
theorem s_So_draw_24  (C : xCx) (L r : List Value) (hp : xHp) : (xV k_So_draw C 24 L (r) hp) = (xV k_So_draw C 26 L (.int (16) :: r) hp) := xVe _ _ _ _ _ _
theorem s_So_draw_26 (x y : Int32) (C : xCx) (L r : List Value) (hp : xHp) : (xV k_So_draw C 26 L (.int y :: .int x :: r) hp) = (xV k_So_draw C 27 L (.int ((x.toUInt32 >>> (y.toUInt32 &&& Int32.toUInt32 31)).toInt32) :: r) hp) := xVe _ _ _ _ _ _
theorem s_So_draw_27 (C : xCx) (r : List Value) (hp : xHp) (x : Int32) (a0 : Value) : (xV k_So_draw C 27 [a0, .int x] r hp) = (xV k_So_draw C 28 [a0, .int x] (.int x :: r) hp) := xVe _ _ _ _ _ _
theorem s_So_draw_28 (x y : Int32) (C : xCx) (L r : List Value) (hp : xHp) : (xV k_So_draw C 28 L (.int y :: .int x :: r) hp) = (¬ y = 0 ∧ xV k_So_draw C 29 L (.int (x - x / y * y) :: r) hp) := xVe _ _ _ _ _ _
theorem s_So_draw_29 (C : xCx) (L r : List Value) (hp : xHp) : (xV k_So_draw C 29 L r hp) = (xV k_So_draw C 33 L r hp) := xVe _ _ _ _ _ _
theorem s_So_draw_32  (C : xCx) (L r : List Value) (hp : xHp) : (xV k_So_draw C 32 L (r) hp) = (xV k_So_draw C 33 L (.int (0) :: r) hp) := xVe _ _ _ _ _ _
theorem s_So_draw_33 (v : Int32) (l : Launch) (d b lo gz n0 s0 : Nat) (Po : Option Value → xHp → Prop) (L : List Value) (hp : xHp) : (xV k_So_draw (l, d, b, lo, gz, n0, s0, m_So_draw, Po) 33 L [.int v] hp) = (Po (some (.int v)) hp) := xVe _ _ _ _ _ _
theorem ml_So_405 : xLk "SunnyOnes" 405 m_Past_shelve := Or.inl (wg5 76 (by decide +kernel) rfl)
def k_So_keep : List xEC := [
  (0, .aload_n 0, 1, 0, 0, 0, m_x),
  (1, .getfield 67, 4, 0, 9, 0, m_x),
  (4, .iload_n 1, 5, 0, 0, 0, m_x),
  (5, .aload_n 0, 6, 0, 0, 0, m_x),
  (6, .getfield 54, 9, 0, 6, 0, m_x),
  (9, .invokevirtual 405, 12, 5, 0, 0, m_Past_shelve),
  (12, .ireturn, 13, 0, 0, 0, m_x)]
theorem dc_So_keep : ∀ E ∈ k_So_keep, xDc m_So_keep E := by decide +kernel
set_option maxRecDepth 20000 in
theorem ok_So_keep : ∀ E ∈ k_So_keep, xOk m_So_keep E := xok_of dc_So_keep (xfc trivial (xfc fl_So_67 (xfc trivial (xfc trivial (xfc fl_So_54 (xfc ⟨ml_So_405, kd_Past_shelve⟩ (xfc trivial (xfn))))))))
theorem s_So_keep_0 (C : xCx) (r : List Value) (hp : xHp) (x : Nat) (a1 : Value) : (xV k_So_keep C 0 [.ref x, a1] r hp) = (True ∧ xV k_So_keep C 1 [.ref x, a1] (.ref x :: r) hp) := xVe _ _ _ _ _ _
theorem s_So_keep_1 (a : Nat) (C : xCx) (L r : List Value) (hp : xHp) : (xV k_So_keep C 1 L (.ref a :: r) hp) = (xF hp a 0 9 (fun v => xV k_So_keep C 4 L (v :: r) hp)) := xVe _ _ _ _ _ _
theorem s_So_keep_4 (C : xCx) (r : List Value) (hp : xHp) (x : Int32) (a0 : Value) : (xV k_So_keep C 4 [a0, .int x] r hp) = (xV k_So_keep C 5 [a0, .int x] (.int x :: r) hp) := xVe _ _ _ _ _ _
theorem s_So_keep_5 (C : xCx) (r : List Value) (hp : xHp) (x : Nat) (a1 : Value) : (xV k_So_keep C 5 [.ref x, a1] r hp) = (True ∧ xV k_So_keep C 6 [.ref x, a1] (.ref x :: r) hp) := xVe _ _ _ _ _ _
theorem s_So_keep_6 (a : Nat) (C : xCx) (L r : List Value) (hp : xHp) : (xV k_So_keep C 6 L (.ref a :: r) hp) = (xF hp a 0 6 (fun v => xV k_So_keep C 9 L (v :: r) hp)) := xVe _ _ _ _ _ _
theorem s_So_keep_9 (x0 : Int32) (x1 : Nat) (a : Nat) (l : Launch) (d b lo gz n0 s0 : Nat) (Po : Option Value → xHp → Prop) (L r : List Value) (hp : xHp) : (xV k_So_keep (l, d + 1, b, lo, gz, n0, s0, m_So_keep, Po) 9 L (.ref x1 :: .int x0 :: .ref a :: r) hp) = (xO hp a 5 ∧ xcs r 8 ∧ xMi l d b lo gz m_Past_shelve [.ref a, .int x0, .ref x1] hp (fun x hp' => xV k_So_keep (l, d + 1, b, lo, gz, n0, s0, m_So_keep, Po) 12 L (.int x :: r) hp')) := xVe _ _ _ _ _ _
theorem s_So_keep_12 (v : Int32) (l : Launch) (d b lo gz n0 s0 : Nat) (Po : Option Value → xHp → Prop) (L : List Value) (hp : xHp) : (xV k_So_keep (l, d, b, lo, gz, n0, s0, m_So_keep, Po) 12 L [.int v] hp) = ((v = 0 ∨ v = 1) ∧ Po (some (.int v)) hp) := xVe _ _ _ _ _ _
theorem ml_So_409 : xLk "SunnyOnes" 409 m_Past_unshelveInto := Or.inl (wg5 84 (by decide +kernel) rfl)
def k_So_again : List xEC := [
  (0, .aload_n 0, 1, 0, 0, 0, m_x),
  (1, .getfield 67, 4, 0, 9, 0, m_x),
  (4, .iload_n 1, 5, 0, 0, 0, m_x),
  (5, .aload_n 0, 6, 0, 0, 0, m_x),
  (6, .getfield 54, 9, 0, 6, 0, m_x),
  (9, .invokevirtual 409, 12, 5, 0, 0, m_Past_unshelveInto),
  (12, .ifCond .ne 5, 15, 0, 17, 0, m_x),
  (15, .iconst 0, 16, 0, 0, 0, m_x),
  (16, .ireturn, 17, 0, 0, 0, m_x),
  (17, .aload_n 0, 18, 0, 0, 0, m_x),
  (18, .getfield 67, 21, 0, 9, 0, m_x),
  (21, .invokevirtual 160, 24, 5, 0, 0, m_Past_forgetActs),
  (24, .iconst 1, 25, 0, 0, 0, m_x),
  (25, .ireturn, 26, 0, 0, 0, m_x)]
theorem dc_So_again : ∀ E ∈ k_So_again, xDc m_So_again E := by decide +kernel
set_option maxRecDepth 20000 in
theorem ok_So_again : ∀ E ∈ k_So_again, xOk m_So_again E := xok_of dc_So_again (xfc trivial (xfc fl_So_67 (xfc trivial (xfc trivial (xfc fl_So_54 (xfc ⟨ml_So_409, kd_Past_unshelveInto⟩ (xfc (show ((12 : Nat) : Int) + (5) = ((17 : Nat) : Int) from by decide) (xfc trivial (xfc trivial (xfc trivial (xfc fl_So_67 (xfc ⟨ml_So_160, kd_Past_forgetActs⟩ (xfc trivial (xfc trivial (xfn)))))))))))))))
theorem s_So_again_0 (C : xCx) (r : List Value) (hp : xHp) (x : Nat) (a1 : Value) : (xV k_So_again C 0 [.ref x, a1] r hp) = (True ∧ xV k_So_again C 1 [.ref x, a1] (.ref x :: r) hp) := xVe _ _ _ _ _ _
theorem s_So_again_1 (a : Nat) (C : xCx) (L r : List Value) (hp : xHp) : (xV k_So_again C 1 L (.ref a :: r) hp) = (xF hp a 0 9 (fun v => xV k_So_again C 4 L (v :: r) hp)) := xVe _ _ _ _ _ _
theorem s_So_again_4 (C : xCx) (r : List Value) (hp : xHp) (x : Int32) (a0 : Value) : (xV k_So_again C 4 [a0, .int x] r hp) = (xV k_So_again C 5 [a0, .int x] (.int x :: r) hp) := xVe _ _ _ _ _ _
theorem s_So_again_5 (C : xCx) (r : List Value) (hp : xHp) (x : Nat) (a1 : Value) : (xV k_So_again C 5 [.ref x, a1] r hp) = (True ∧ xV k_So_again C 6 [.ref x, a1] (.ref x :: r) hp) := xVe _ _ _ _ _ _
theorem s_So_again_6 (a : Nat) (C : xCx) (L r : List Value) (hp : xHp) : (xV k_So_again C 6 L (.ref a :: r) hp) = (xF hp a 0 6 (fun v => xV k_So_again C 9 L (v :: r) hp)) := xVe _ _ _ _ _ _
theorem s_So_again_9 (x0 : Int32) (x1 : Nat) (a : Nat) (l : Launch) (d b lo gz n0 s0 : Nat) (Po : Option Value → xHp → Prop) (L r : List Value) (hp : xHp) : (xV k_So_again (l, d + 1, b, lo, gz, n0, s0, m_So_again, Po) 9 L (.ref x1 :: .int x0 :: .ref a :: r) hp) = (xO hp a 5 ∧ xcs r 8 ∧ xMi l d b lo gz m_Past_unshelveInto [.ref a, .int x0, .ref x1] hp (fun x hp' => xV k_So_again (l, d + 1, b, lo, gz, n0, s0, m_So_again, Po) 12 L (.int x :: r) hp')) := xVe _ _ _ _ _ _
theorem s_So_again_12 (x : Int32) (C : xCx) (L r : List Value) (hp : xHp) : (xV k_So_again C 12 L (.int x :: r) hp) = (((¬ x = 0 → xV k_So_again C 17 L r hp) ∧ (x = 0 → xV k_So_again C 15 L r hp))) := xVe _ _ _ _ _ _
theorem s_So_again_15  (C : xCx) (L r : List Value) (hp : xHp) : (xV k_So_again C 15 L (r) hp) = (xV k_So_again C 16 L (.int (0) :: r) hp) := xVe _ _ _ _ _ _
theorem s_So_again_16 (v : Int32) (l : Launch) (d b lo gz n0 s0 : Nat) (Po : Option Value → xHp → Prop) (L : List Value) (hp : xHp) : (xV k_So_again (l, d, b, lo, gz, n0, s0, m_So_again, Po) 16 L [.int v] hp) = ((v = 0 ∨ v = 1) ∧ Po (some (.int v)) hp) := xVe _ _ _ _ _ _
theorem s_So_again_17 (C : xCx) (r : List Value) (hp : xHp) (x : Nat) (a1 : Value) : (xV k_So_again C 17 [.ref x, a1] r hp) = (True ∧ xV k_So_again C 18 [.ref x, a1] (.ref x :: r) hp) := xVe _ _ _ _ _ _
theorem s_So_again_18 (a : Nat) (C : xCx) (L r : List Value) (hp : xHp) : (xV k_So_again C 18 L (.ref a :: r) hp) = (xF hp a 0 9 (fun v => xV k_So_again C 21 L (v :: r) hp)) := xVe _ _ _ _ _ _
theorem s_So_again_21 (a : Nat) (l : Launch) (d b lo gz n0 s0 : Nat) (Po : Option Value → xHp → Prop) (L r : List Value) (hp : xHp) : (xV k_So_again (l, d + 1, b, lo, gz, n0, s0, m_So_again, Po) 21 L (.ref a :: r) hp) = (xO hp a 5 ∧ xcs r 8 ∧ xMv l d b lo gz m_Past_forgetActs [.ref a] hp (fun hp' => xV k_So_again (l, d + 1, b, lo, gz, n0, s0, m_So_again, Po) 24 L r hp')) := xVe _ _ _ _ _ _
theorem s_So_again_24  (C : xCx) (L r : List Value) (hp : xHp) : (xV k_So_again C 24 L (r) hp) = (xV k_So_again C 25 L (.int (1) :: r) hp) := xVe _ _ _ _ _ _
theorem s_So_again_25 (v : Int32) (l : Launch) (d b lo gz n0 s0 : Nat) (Po : Option Value → xHp → Prop) (L : List Value) (hp : xHp) : (xV k_So_again (l, d, b, lo, gz, n0, s0, m_So_again, Po) 25 L [.int v] hp) = ((v = 0 ∨ v = 1) ∧ Po (some (.int v)) hp) := xVe _ _ _ _ _ _
theorem ml_So_412 : xLk "SunnyOnes" 412 m_Folk_sinsTogether := Or.inl (wg5 92 (by decide +kernel) rfl)
theorem ml_So_415 : xLk "SunnyOnes" 415 m_Sun_hoursOfAll := Or.inl (wg5 96 (by decide +kernel) rfl)
theorem ml_So_419 : xLk "SunnyOnes" 419 m_Row_size := Or.inl (wg5 100 (by decide +kernel) rfl)
def k_So_count : List xEC := [
  (0, .iload_n 1, 1, 0, 0, 0, m_x),
  (1, .tableswitch 182 0 12 #[67, 75, 83, 91, 106, 114, 122, 130, 142, 150, 158, 166, 174], 68, 0, 0, 0, m_x),
  (68, .aload_n 0, 69, 0, 0, 0, m_x),
  (69, .getfield 26, 72, 0, 2, 0, m_x),
  (72, .invokevirtual 129, 75, 4, 0, 0, m_Land_size),
  (75, .ireturn, 76, 0, 0, 0, m_x),
  (76, .aload_n 0, 77, 0, 0, 0, m_x),
  (77, .getfield 54, 80, 0, 6, 0, m_x),
  (80, .invokevirtual 150, 83, 3, 0, 0, m_Folk_size),
  (83, .ireturn, 84, 0, 0, 0, m_x),
  (84, .aload_n 0, 85, 0, 0, 0, m_x),
  (85, .getfield 54, 88, 0, 6, 0, m_x),
  (88, .invokevirtual 347, 91, 3, 0, 0, m_Folk_day),
  (91, .ireturn, 92, 0, 0, 0, m_x),
  (92, .aload_n 0, 93, 0, 0, 0, m_x),
  (93, .getfield 26, 96, 0, 2, 0, m_x),
  (96, .aload_n 0, 97, 0, 0, 0, m_x),
  (97, .getfield 54, 100, 0, 6, 0, m_x),
  (100, .invokevirtual 347, 103, 3, 0, 0, m_Folk_day),
  (103, .invokevirtual 350, 106, 4, 0, 0, m_Land_skyOn),
  (106, .ireturn, 107, 0, 0, 0, m_x),
  (107, .aload_n 0, 108, 0, 0, 0, m_x),
  (108, .getfield 54, 111, 0, 6, 0, m_x),
  (111, .invokevirtual 229, 114, 3, 0, 0, m_Folk_ages),
  (114, .ireturn, 115, 0, 0, 0, m_x),
  (115, .aload_n 0, 116, 0, 0, 0, m_x),
  (116, .getfield 26, 119, 0, 2, 0, m_x),
  (119, .invokevirtual 212, 122, 4, 0, 0, m_Land_lights),
  (122, .ireturn, 123, 0, 0, 0, m_x),
  (123, .aload_n 0, 124, 0, 0, 0, m_x),
  (124, .getfield 54, 127, 0, 6, 0, m_x),
  (127, .invokevirtual 412, 130, 3, 0, 0, m_Folk_sinsTogether),
  (130, .ireturn, 131, 0, 0, 0, m_x),
  (131, .aload_n 0, 132, 0, 0, 0, m_x),
  (132, .getfield 47, 135, 0, 5, 0, m_x),
  (135, .aload_n 0, 136, 0, 0, 0, m_x),
  (136, .getfield 54, 139, 0, 6, 0, m_x),
  (139, .invokevirtual 415, 142, 9, 0, 0, m_Sun_hoursOfAll),
  (142, .ireturn, 143, 0, 0, 0, m_x),
  (143, .aload_n 0, 144, 0, 0, 0, m_x),
  (144, .getfield 76, 147, 0, 10, 0, m_x),
  (147, .invokevirtual 341, 150, 2, 0, 0, m_Clues_size),
  (150, .ireturn, 151, 0, 0, 0, m_x),
  (151, .aload_n 0, 152, 0, 0, 0, m_x),
  (152, .getfield 80, 155, 0, 11, 0, m_x),
  (155, .invokevirtual 341, 158, 2, 0, 0, m_Clues_size),
  (158, .ireturn, 159, 0, 0, 0, m_x),
  (159, .aload_n 0, 160, 0, 0, 0, m_x),
  (160, .getfield 67, 163, 0, 9, 0, m_x),
  (163, .invokevirtual 260, 166, 5, 0, 0, m_Past_acts),
  (166, .ireturn, 167, 0, 0, 0, m_x),
  (167, .aload_n 0, 168, 0, 0, 0, m_x),
  (168, .getfield 19, 171, 0, 1, 0, m_x),
  (171, .invokevirtual 419, 174, 7, 0, 0, m_Row_size),
  (174, .ireturn, 175, 0, 0, 0, m_x),
  (175, .aload_n 0, 176, 0, 0, 0, m_x),
  (176, .getfield 10, 179, 0, 0, 0, m_x),
  (179, .invokevirtual 122, 182, 10, 0, 0, m_Text_length),
  (182, .ireturn, 183, 0, 0, 0, m_x),
  (183, .iconst (-1), 184, 0, 0, 0, m_x),
  (184, .ireturn, 185, 0, 0, 0, m_x)]
theorem dc_So_count : ∀ E ∈ k_So_count, xDc m_So_count E := by decide +kernel
set_option maxRecDepth 20000 in
theorem ok_So_count : ∀ E ∈ k_So_count, xOk m_So_count E := xok_of dc_So_count (xfc trivial (xfc (show (-2147483648 : Int) ≤ (0) ∧ (0) + ((#[67, 75, 83, 91, 106, 114, 122, 130, 142, 150, 158, 166, 174] : Array Int).size : Int) ≤ 2147483648 ∧ (12 : Int) = (0) + ((#[67, 75, 83, 91, 106, 114, 122, 130, 142, 150, 158, 166, 174] : Array Int).size : Int) - 1 ∧ (0 : Int) ≤ ((1 : Nat) : Int) + (182) ∧ ∀ o ∈ (#[67, 75, 83, 91, 106, 114, 122, 130, 142, 150, 158, 166, 174] : Array Int).toList, (0 : Int) ≤ ((1 : Nat) : Int) + o from by decide) (xfc trivial (xfc fl_So_26 (xfc ⟨ml_So_129, kd_Land_size⟩ (xfc trivial (xfc trivial (xfc fl_So_54 (xfc ⟨ml_So_150, kd_Folk_size⟩ (xfc trivial (xfc trivial (xfc fl_So_54 (xfc ⟨ml_So_347, kd_Folk_day⟩ (xfc trivial (xfc trivial (xfc fl_So_26 (xfc trivial (xfc fl_So_54 (xfc ⟨ml_So_347, kd_Folk_day⟩ (xfc ⟨ml_So_350, kd_Land_skyOn⟩ (xfc trivial (xfc trivial (xfc fl_So_54 (xfc ⟨ml_So_229, kd_Folk_ages⟩ (xfc trivial (xfc trivial (xfc fl_So_26 (xfc ⟨ml_So_212, kd_Land_lights⟩ (xfc trivial (xfc trivial (xfc fl_So_54 (xfc ⟨ml_So_412, kd_Folk_sinsTogether⟩ (xfc trivial (xfc trivial (xfc fl_So_47 (xfc trivial (xfc fl_So_54 (xfc ⟨ml_So_415, kd_Sun_hoursOfAll⟩ (xfc trivial (xfc trivial (xfc fl_So_76 (xfc ⟨ml_So_341, kd_Clues_size⟩ (xfc trivial (xfc trivial (xfc fl_So_80 (xfc ⟨ml_So_341, kd_Clues_size⟩ (xfc trivial (xfc trivial (xfc fl_So_67 (xfc ⟨ml_So_260, kd_Past_acts⟩ (xfc trivial (xfc trivial (xfc fl_So_19 (xfc ⟨ml_So_419, kd_Row_size⟩ (xfc trivial (xfc trivial (xfc fl_So_10 (xfc ⟨ml_So_122, kd_Text_length⟩ (xfc trivial (xfc trivial (xfc trivial (xfn))))))))))))))))))))))))))))))))))))))))))))))))))))))))))))))
theorem s_So_count_0 (C : xCx) (r : List Value) (hp : xHp) (x : Int32) (a0 : Value) : (xV k_So_count C 0 [a0, .int x] r hp) = (xV k_So_count C 1 [a0, .int x] (.int x :: r) hp) := xVe _ _ _ _ _ _
theorem s_So_count_1 (x : Int32) (C : xCx) (L r : List Value) (hp : xHp) : (xV k_So_count C 1 L (.int x :: r) hp) = (((x = (0) → xV k_So_count C 68 L r hp) ∧ (¬ x = (0) → ((x = (1) → xV k_So_count C 76 L r hp) ∧ (¬ x = (1) → ((x = (2) → xV k_So_count C 84 L r hp) ∧ (¬ x = (2) → ((x = (3) → xV k_So_count C 92 L r hp) ∧ (¬ x = (3) → ((x = (4) → xV k_So_count C 107 L r hp) ∧ (¬ x = (4) → ((x = (5) → xV k_So_count C 115 L r hp) ∧ (¬ x = (5) → ((x = (6) → xV k_So_count C 123 L r hp) ∧ (¬ x = (6) → ((x = (7) → xV k_So_count C 131 L r hp) ∧ (¬ x = (7) → ((x = (8) → xV k_So_count C 143 L r hp) ∧ (¬ x = (8) → ((x = (9) → xV k_So_count C 151 L r hp) ∧ (¬ x = (9) → ((x = (10) → xV k_So_count C 159 L r hp) ∧ (¬ x = (10) → ((x = (11) → xV k_So_count C 167 L r hp) ∧ (¬ x = (11) → ((x = (12) → xV k_So_count C 175 L r hp) ∧ (¬ x = (12) → xV k_So_count C 183 L r hp))))))))))))))))))))))))))) := xVe _ _ _ _ _ _
theorem s_So_count_68 (C : xCx) (r : List Value) (hp : xHp) (x : Nat) (a1 : Value) : (xV k_So_count C 68 [.ref x, a1] r hp) = (True ∧ xV k_So_count C 69 [.ref x, a1] (.ref x :: r) hp) := xVe _ _ _ _ _ _
theorem s_So_count_69 (a : Nat) (C : xCx) (L r : List Value) (hp : xHp) : (xV k_So_count C 69 L (.ref a :: r) hp) = (xF hp a 0 2 (fun v => xV k_So_count C 72 L (v :: r) hp)) := xVe _ _ _ _ _ _
theorem s_So_count_72 (a : Nat) (l : Launch) (d b lo gz n0 s0 : Nat) (Po : Option Value → xHp → Prop) (L r : List Value) (hp : xHp) : (xV k_So_count (l, d + 1, b, lo, gz, n0, s0, m_So_count, Po) 72 L (.ref a :: r) hp) = (xO hp a 4 ∧ xcs r 8 ∧ xMi l d b lo gz m_Land_size [.ref a] hp (fun x hp' => xV k_So_count (l, d + 1, b, lo, gz, n0, s0, m_So_count, Po) 75 L (.int x :: r) hp')) := xVe _ _ _ _ _ _
theorem s_So_count_75 (v : Int32) (l : Launch) (d b lo gz n0 s0 : Nat) (Po : Option Value → xHp → Prop) (L : List Value) (hp : xHp) : (xV k_So_count (l, d, b, lo, gz, n0, s0, m_So_count, Po) 75 L [.int v] hp) = (Po (some (.int v)) hp) := xVe _ _ _ _ _ _
theorem s_So_count_76 (C : xCx) (r : List Value) (hp : xHp) (x : Nat) (a1 : Value) : (xV k_So_count C 76 [.ref x, a1] r hp) = (True ∧ xV k_So_count C 77 [.ref x, a1] (.ref x :: r) hp) := xVe _ _ _ _ _ _
theorem s_So_count_77 (a : Nat) (C : xCx) (L r : List Value) (hp : xHp) : (xV k_So_count C 77 L (.ref a :: r) hp) = (xF hp a 0 6 (fun v => xV k_So_count C 80 L (v :: r) hp)) := xVe _ _ _ _ _ _
theorem s_So_count_80 (a : Nat) (l : Launch) (d b lo gz n0 s0 : Nat) (Po : Option Value → xHp → Prop) (L r : List Value) (hp : xHp) : (xV k_So_count (l, d + 1, b, lo, gz, n0, s0, m_So_count, Po) 80 L (.ref a :: r) hp) = (xO hp a 3 ∧ xcs r 8 ∧ xMi l d b lo gz m_Folk_size [.ref a] hp (fun x hp' => xV k_So_count (l, d + 1, b, lo, gz, n0, s0, m_So_count, Po) 83 L (.int x :: r) hp')) := xVe _ _ _ _ _ _
theorem s_So_count_83 (v : Int32) (l : Launch) (d b lo gz n0 s0 : Nat) (Po : Option Value → xHp → Prop) (L : List Value) (hp : xHp) : (xV k_So_count (l, d, b, lo, gz, n0, s0, m_So_count, Po) 83 L [.int v] hp) = (Po (some (.int v)) hp) := xVe _ _ _ _ _ _
theorem s_So_count_84 (C : xCx) (r : List Value) (hp : xHp) (x : Nat) (a1 : Value) : (xV k_So_count C 84 [.ref x, a1] r hp) = (True ∧ xV k_So_count C 85 [.ref x, a1] (.ref x :: r) hp) := xVe _ _ _ _ _ _
theorem s_So_count_85 (a : Nat) (C : xCx) (L r : List Value) (hp : xHp) : (xV k_So_count C 85 L (.ref a :: r) hp) = (xF hp a 0 6 (fun v => xV k_So_count C 88 L (v :: r) hp)) := xVe _ _ _ _ _ _
theorem s_So_count_88 (a : Nat) (l : Launch) (d b lo gz n0 s0 : Nat) (Po : Option Value → xHp → Prop) (L r : List Value) (hp : xHp) : (xV k_So_count (l, d + 1, b, lo, gz, n0, s0, m_So_count, Po) 88 L (.ref a :: r) hp) = (xO hp a 3 ∧ xcs r 8 ∧ xMi l d b lo gz m_Folk_day [.ref a] hp (fun x hp' => xV k_So_count (l, d + 1, b, lo, gz, n0, s0, m_So_count, Po) 91 L (.int x :: r) hp')) := xVe _ _ _ _ _ _
theorem s_So_count_91 (v : Int32) (l : Launch) (d b lo gz n0 s0 : Nat) (Po : Option Value → xHp → Prop) (L : List Value) (hp : xHp) : (xV k_So_count (l, d, b, lo, gz, n0, s0, m_So_count, Po) 91 L [.int v] hp) = (Po (some (.int v)) hp) := xVe _ _ _ _ _ _
theorem s_So_count_92 (C : xCx) (r : List Value) (hp : xHp) (x : Nat) (a1 : Value) : (xV k_So_count C 92 [.ref x, a1] r hp) = (True ∧ xV k_So_count C 93 [.ref x, a1] (.ref x :: r) hp) := xVe _ _ _ _ _ _
theorem s_So_count_93 (a : Nat) (C : xCx) (L r : List Value) (hp : xHp) : (xV k_So_count C 93 L (.ref a :: r) hp) = (xF hp a 0 2 (fun v => xV k_So_count C 96 L (v :: r) hp)) := xVe _ _ _ _ _ _
theorem s_So_count_96 (C : xCx) (r : List Value) (hp : xHp) (x : Nat) (a1 : Value) : (xV k_So_count C 96 [.ref x, a1] r hp) = (True ∧ xV k_So_count C 97 [.ref x, a1] (.ref x :: r) hp) := xVe _ _ _ _ _ _
theorem s_So_count_97 (a : Nat) (C : xCx) (L r : List Value) (hp : xHp) : (xV k_So_count C 97 L (.ref a :: r) hp) = (xF hp a 0 6 (fun v => xV k_So_count C 100 L (v :: r) hp)) := xVe _ _ _ _ _ _
theorem s_So_count_100 (a : Nat) (l : Launch) (d b lo gz n0 s0 : Nat) (Po : Option Value → xHp → Prop) (L r : List Value) (hp : xHp) : (xV k_So_count (l, d + 1, b, lo, gz, n0, s0, m_So_count, Po) 100 L (.ref a :: r) hp) = (xO hp a 3 ∧ xcs r 8 ∧ xMi l d b lo gz m_Folk_day [.ref a] hp (fun x hp' => xV k_So_count (l, d + 1, b, lo, gz, n0, s0, m_So_count, Po) 103 L (.int x :: r) hp')) := xVe _ _ _ _ _ _
theorem s_So_count_103 (x0 : Int32) (a : Nat) (l : Launch) (d b lo gz n0 s0 : Nat) (Po : Option Value → xHp → Prop) (L r : List Value) (hp : xHp) : (xV k_So_count (l, d + 1, b, lo, gz, n0, s0, m_So_count, Po) 103 L (.int x0 :: .ref a :: r) hp) = (xO hp a 4 ∧ xcs r 8 ∧ xMi l d b lo gz m_Land_skyOn [.ref a, .int x0] hp (fun x hp' => xV k_So_count (l, d + 1, b, lo, gz, n0, s0, m_So_count, Po) 106 L (.int x :: r) hp')) := xVe _ _ _ _ _ _
theorem s_So_count_106 (v : Int32) (l : Launch) (d b lo gz n0 s0 : Nat) (Po : Option Value → xHp → Prop) (L : List Value) (hp : xHp) : (xV k_So_count (l, d, b, lo, gz, n0, s0, m_So_count, Po) 106 L [.int v] hp) = (Po (some (.int v)) hp) := xVe _ _ _ _ _ _
theorem s_So_count_107 (C : xCx) (r : List Value) (hp : xHp) (x : Nat) (a1 : Value) : (xV k_So_count C 107 [.ref x, a1] r hp) = (True ∧ xV k_So_count C 108 [.ref x, a1] (.ref x :: r) hp) := xVe _ _ _ _ _ _
theorem s_So_count_108 (a : Nat) (C : xCx) (L r : List Value) (hp : xHp) : (xV k_So_count C 108 L (.ref a :: r) hp) = (xF hp a 0 6 (fun v => xV k_So_count C 111 L (v :: r) hp)) := xVe _ _ _ _ _ _
theorem s_So_count_111 (a : Nat) (l : Launch) (d b lo gz n0 s0 : Nat) (Po : Option Value → xHp → Prop) (L r : List Value) (hp : xHp) : (xV k_So_count (l, d + 1, b, lo, gz, n0, s0, m_So_count, Po) 111 L (.ref a :: r) hp) = (xO hp a 3 ∧ xcs r 8 ∧ xMi l d b lo gz m_Folk_ages [.ref a] hp (fun x hp' => xV k_So_count (l, d + 1, b, lo, gz, n0, s0, m_So_count, Po) 114 L (.int x :: r) hp')) := xVe _ _ _ _ _ _
theorem s_So_count_114 (v : Int32) (l : Launch) (d b lo gz n0 s0 : Nat) (Po : Option Value → xHp → Prop) (L : List Value) (hp : xHp) : (xV k_So_count (l, d, b, lo, gz, n0, s0, m_So_count, Po) 114 L [.int v] hp) = (Po (some (.int v)) hp) := xVe _ _ _ _ _ _
theorem s_So_count_115 (C : xCx) (r : List Value) (hp : xHp) (x : Nat) (a1 : Value) : (xV k_So_count C 115 [.ref x, a1] r hp) = (True ∧ xV k_So_count C 116 [.ref x, a1] (.ref x :: r) hp) := xVe _ _ _ _ _ _
theorem s_So_count_116 (a : Nat) (C : xCx) (L r : List Value) (hp : xHp) : (xV k_So_count C 116 L (.ref a :: r) hp) = (xF hp a 0 2 (fun v => xV k_So_count C 119 L (v :: r) hp)) := xVe _ _ _ _ _ _
theorem s_So_count_119 (a : Nat) (l : Launch) (d b lo gz n0 s0 : Nat) (Po : Option Value → xHp → Prop) (L r : List Value) (hp : xHp) : (xV k_So_count (l, d + 1, b, lo, gz, n0, s0, m_So_count, Po) 119 L (.ref a :: r) hp) = (xO hp a 4 ∧ xcs r 8 ∧ xMi l d b lo gz m_Land_lights [.ref a] hp (fun x hp' => xV k_So_count (l, d + 1, b, lo, gz, n0, s0, m_So_count, Po) 122 L (.int x :: r) hp')) := xVe _ _ _ _ _ _
theorem s_So_count_122 (v : Int32) (l : Launch) (d b lo gz n0 s0 : Nat) (Po : Option Value → xHp → Prop) (L : List Value) (hp : xHp) : (xV k_So_count (l, d, b, lo, gz, n0, s0, m_So_count, Po) 122 L [.int v] hp) = (Po (some (.int v)) hp) := xVe _ _ _ _ _ _
theorem s_So_count_123 (C : xCx) (r : List Value) (hp : xHp) (x : Nat) (a1 : Value) : (xV k_So_count C 123 [.ref x, a1] r hp) = (True ∧ xV k_So_count C 124 [.ref x, a1] (.ref x :: r) hp) := xVe _ _ _ _ _ _
theorem s_So_count_124 (a : Nat) (C : xCx) (L r : List Value) (hp : xHp) : (xV k_So_count C 124 L (.ref a :: r) hp) = (xF hp a 0 6 (fun v => xV k_So_count C 127 L (v :: r) hp)) := xVe _ _ _ _ _ _
theorem s_So_count_127 (a : Nat) (l : Launch) (d b lo gz n0 s0 : Nat) (Po : Option Value → xHp → Prop) (L r : List Value) (hp : xHp) : (xV k_So_count (l, d + 1, b, lo, gz, n0, s0, m_So_count, Po) 127 L (.ref a :: r) hp) = (xO hp a 3 ∧ xcs r 8 ∧ xMi l d b lo gz m_Folk_sinsTogether [.ref a] hp (fun x hp' => xV k_So_count (l, d + 1, b, lo, gz, n0, s0, m_So_count, Po) 130 L (.int x :: r) hp')) := xVe _ _ _ _ _ _
theorem s_So_count_130 (v : Int32) (l : Launch) (d b lo gz n0 s0 : Nat) (Po : Option Value → xHp → Prop) (L : List Value) (hp : xHp) : (xV k_So_count (l, d, b, lo, gz, n0, s0, m_So_count, Po) 130 L [.int v] hp) = (Po (some (.int v)) hp) := xVe _ _ _ _ _ _
theorem s_So_count_131 (C : xCx) (r : List Value) (hp : xHp) (x : Nat) (a1 : Value) : (xV k_So_count C 131 [.ref x, a1] r hp) = (True ∧ xV k_So_count C 132 [.ref x, a1] (.ref x :: r) hp) := xVe _ _ _ _ _ _
theorem s_So_count_132 (a : Nat) (C : xCx) (L r : List Value) (hp : xHp) : (xV k_So_count C 132 L (.ref a :: r) hp) = (xF hp a 0 5 (fun v => xV k_So_count C 135 L (v :: r) hp)) := xVe _ _ _ _ _ _
theorem s_So_count_135 (C : xCx) (r : List Value) (hp : xHp) (x : Nat) (a1 : Value) : (xV k_So_count C 135 [.ref x, a1] r hp) = (True ∧ xV k_So_count C 136 [.ref x, a1] (.ref x :: r) hp) := xVe _ _ _ _ _ _
theorem s_So_count_136 (a : Nat) (C : xCx) (L r : List Value) (hp : xHp) : (xV k_So_count C 136 L (.ref a :: r) hp) = (xF hp a 0 6 (fun v => xV k_So_count C 139 L (v :: r) hp)) := xVe _ _ _ _ _ _
theorem s_So_count_139 (x0 : Nat) (a : Nat) (l : Launch) (d b lo gz n0 s0 : Nat) (Po : Option Value → xHp → Prop) (L r : List Value) (hp : xHp) : (xV k_So_count (l, d + 1, b, lo, gz, n0, s0, m_So_count, Po) 139 L (.ref x0 :: .ref a :: r) hp) = (xO hp a 9 ∧ xcs r 8 ∧ xMi l d b lo gz m_Sun_hoursOfAll [.ref a, .ref x0] hp (fun x hp' => xV k_So_count (l, d + 1, b, lo, gz, n0, s0, m_So_count, Po) 142 L (.int x :: r) hp')) := xVe _ _ _ _ _ _
theorem s_So_count_142 (v : Int32) (l : Launch) (d b lo gz n0 s0 : Nat) (Po : Option Value → xHp → Prop) (L : List Value) (hp : xHp) : (xV k_So_count (l, d, b, lo, gz, n0, s0, m_So_count, Po) 142 L [.int v] hp) = (Po (some (.int v)) hp) := xVe _ _ _ _ _ _
theorem s_So_count_143 (C : xCx) (r : List Value) (hp : xHp) (x : Nat) (a1 : Value) : (xV k_So_count C 143 [.ref x, a1] r hp) = (True ∧ xV k_So_count C 144 [.ref x, a1] (.ref x :: r) hp) := xVe _ _ _ _ _ _
theorem s_So_count_144 (a : Nat) (C : xCx) (L r : List Value) (hp : xHp) : (xV k_So_count C 144 L (.ref a :: r) hp) = (xF hp a 0 10 (fun v => xV k_So_count C 147 L (v :: r) hp)) := xVe _ _ _ _ _ _
theorem s_So_count_147 (a : Nat) (l : Launch) (d b lo gz n0 s0 : Nat) (Po : Option Value → xHp → Prop) (L r : List Value) (hp : xHp) : (xV k_So_count (l, d + 1, b, lo, gz, n0, s0, m_So_count, Po) 147 L (.ref a :: r) hp) = (xO hp a 2 ∧ xcs r 8 ∧ xMi l d b lo gz m_Clues_size [.ref a] hp (fun x hp' => xV k_So_count (l, d + 1, b, lo, gz, n0, s0, m_So_count, Po) 150 L (.int x :: r) hp')) := xVe _ _ _ _ _ _
theorem s_So_count_150 (v : Int32) (l : Launch) (d b lo gz n0 s0 : Nat) (Po : Option Value → xHp → Prop) (L : List Value) (hp : xHp) : (xV k_So_count (l, d, b, lo, gz, n0, s0, m_So_count, Po) 150 L [.int v] hp) = (Po (some (.int v)) hp) := xVe _ _ _ _ _ _
theorem s_So_count_151 (C : xCx) (r : List Value) (hp : xHp) (x : Nat) (a1 : Value) : (xV k_So_count C 151 [.ref x, a1] r hp) = (True ∧ xV k_So_count C 152 [.ref x, a1] (.ref x :: r) hp) := xVe _ _ _ _ _ _
theorem s_So_count_152 (a : Nat) (C : xCx) (L r : List Value) (hp : xHp) : (xV k_So_count C 152 L (.ref a :: r) hp) = (xF hp a 0 11 (fun v => xV k_So_count C 155 L (v :: r) hp)) := xVe _ _ _ _ _ _
theorem s_So_count_155 (a : Nat) (l : Launch) (d b lo gz n0 s0 : Nat) (Po : Option Value → xHp → Prop) (L r : List Value) (hp : xHp) : (xV k_So_count (l, d + 1, b, lo, gz, n0, s0, m_So_count, Po) 155 L (.ref a :: r) hp) = (xO hp a 2 ∧ xcs r 8 ∧ xMi l d b lo gz m_Clues_size [.ref a] hp (fun x hp' => xV k_So_count (l, d + 1, b, lo, gz, n0, s0, m_So_count, Po) 158 L (.int x :: r) hp')) := xVe _ _ _ _ _ _
theorem s_So_count_158 (v : Int32) (l : Launch) (d b lo gz n0 s0 : Nat) (Po : Option Value → xHp → Prop) (L : List Value) (hp : xHp) : (xV k_So_count (l, d, b, lo, gz, n0, s0, m_So_count, Po) 158 L [.int v] hp) = (Po (some (.int v)) hp) := xVe _ _ _ _ _ _
theorem s_So_count_159 (C : xCx) (r : List Value) (hp : xHp) (x : Nat) (a1 : Value) : (xV k_So_count C 159 [.ref x, a1] r hp) = (True ∧ xV k_So_count C 160 [.ref x, a1] (.ref x :: r) hp) := xVe _ _ _ _ _ _
theorem s_So_count_160 (a : Nat) (C : xCx) (L r : List Value) (hp : xHp) : (xV k_So_count C 160 L (.ref a :: r) hp) = (xF hp a 0 9 (fun v => xV k_So_count C 163 L (v :: r) hp)) := xVe _ _ _ _ _ _
theorem s_So_count_163 (a : Nat) (l : Launch) (d b lo gz n0 s0 : Nat) (Po : Option Value → xHp → Prop) (L r : List Value) (hp : xHp) : (xV k_So_count (l, d + 1, b, lo, gz, n0, s0, m_So_count, Po) 163 L (.ref a :: r) hp) = (xO hp a 5 ∧ xcs r 8 ∧ xMi l d b lo gz m_Past_acts [.ref a] hp (fun x hp' => xV k_So_count (l, d + 1, b, lo, gz, n0, s0, m_So_count, Po) 166 L (.int x :: r) hp')) := xVe _ _ _ _ _ _
theorem s_So_count_166 (v : Int32) (l : Launch) (d b lo gz n0 s0 : Nat) (Po : Option Value → xHp → Prop) (L : List Value) (hp : xHp) : (xV k_So_count (l, d, b, lo, gz, n0, s0, m_So_count, Po) 166 L [.int v] hp) = (Po (some (.int v)) hp) := xVe _ _ _ _ _ _
theorem s_So_count_167 (C : xCx) (r : List Value) (hp : xHp) (x : Nat) (a1 : Value) : (xV k_So_count C 167 [.ref x, a1] r hp) = (True ∧ xV k_So_count C 168 [.ref x, a1] (.ref x :: r) hp) := xVe _ _ _ _ _ _
theorem s_So_count_168 (a : Nat) (C : xCx) (L r : List Value) (hp : xHp) : (xV k_So_count C 168 L (.ref a :: r) hp) = (xF hp a 0 1 (fun v => xV k_So_count C 171 L (v :: r) hp)) := xVe _ _ _ _ _ _
theorem s_So_count_171 (a : Nat) (l : Launch) (d b lo gz n0 s0 : Nat) (Po : Option Value → xHp → Prop) (L r : List Value) (hp : xHp) : (xV k_So_count (l, d + 1, b, lo, gz, n0, s0, m_So_count, Po) 171 L (.ref a :: r) hp) = (xO hp a 7 ∧ xcs r 8 ∧ xMi l d b lo gz m_Row_size [.ref a] hp (fun x hp' => xV k_So_count (l, d + 1, b, lo, gz, n0, s0, m_So_count, Po) 174 L (.int x :: r) hp')) := xVe _ _ _ _ _ _
theorem s_So_count_174 (v : Int32) (l : Launch) (d b lo gz n0 s0 : Nat) (Po : Option Value → xHp → Prop) (L : List Value) (hp : xHp) : (xV k_So_count (l, d, b, lo, gz, n0, s0, m_So_count, Po) 174 L [.int v] hp) = (Po (some (.int v)) hp) := xVe _ _ _ _ _ _
theorem s_So_count_175 (C : xCx) (r : List Value) (hp : xHp) (x : Nat) (a1 : Value) : (xV k_So_count C 175 [.ref x, a1] r hp) = (True ∧ xV k_So_count C 176 [.ref x, a1] (.ref x :: r) hp) := xVe _ _ _ _ _ _
theorem s_So_count_176 (a : Nat) (C : xCx) (L r : List Value) (hp : xHp) : (xV k_So_count C 176 L (.ref a :: r) hp) = (xF hp a 0 0 (fun v => xV k_So_count C 179 L (v :: r) hp)) := xVe _ _ _ _ _ _
theorem s_So_count_179 (a : Nat) (l : Launch) (d b lo gz n0 s0 : Nat) (Po : Option Value → xHp → Prop) (L r : List Value) (hp : xHp) : (xV k_So_count (l, d + 1, b, lo, gz, n0, s0, m_So_count, Po) 179 L (.ref a :: r) hp) = (xO hp a 10 ∧ xcs r 8 ∧ xMi l d b lo gz m_Text_length [.ref a] hp (fun x hp' => xV k_So_count (l, d + 1, b, lo, gz, n0, s0, m_So_count, Po) 182 L (.int x :: r) hp')) := xVe _ _ _ _ _ _
theorem s_So_count_182 (v : Int32) (l : Launch) (d b lo gz n0 s0 : Nat) (Po : Option Value → xHp → Prop) (L : List Value) (hp : xHp) : (xV k_So_count (l, d, b, lo, gz, n0, s0, m_So_count, Po) 182 L [.int v] hp) = (Po (some (.int v)) hp) := xVe _ _ _ _ _ _
theorem s_So_count_183  (C : xCx) (L r : List Value) (hp : xHp) : (xV k_So_count C 183 L (r) hp) = (xV k_So_count C 184 L (.int (-1) :: r) hp) := xVe _ _ _ _ _ _
theorem s_So_count_184 (v : Int32) (l : Launch) (d b lo gz n0 s0 : Nat) (Po : Option Value → xHp → Prop) (L : List Value) (hp : xHp) : (xV k_So_count (l, d, b, lo, gz, n0, s0, m_So_count, Po) 184 L [.int v] hp) = (Po (some (.int v)) hp) := xVe _ _ _ _ _ _
