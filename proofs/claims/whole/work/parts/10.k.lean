theorem fl_Text_11 : xFl "SunnyOnes$Text" 11 10 0 := ⟨("SunnyOnes$Text", F_Text, 2), rfl, by decide, wg1 34 (by decide +kernel) rfl⟩
def k_Text_new : List xEC := [
  (0, .aload_n 0, 1, 0, 0, 0, m_x),
  (1, .invokespecial 3, 4, 0, 0, 1, m_x),
  (4, .aload_n 0, 5, 0, 0, 0, m_x),
  (5, .bipush 80, 7, 0, 0, 0, m_x),
  (7, .newarray .int, 9, 0, 0, 0, m_x),
  (9, .putfield 11, 12, 10, 0, 0, m_x),
  (12, .return_, 13, 0, 0, 0, m_x)]
theorem dc_Text_new : ∀ E ∈ k_Text_new, xDc m_Text_new E := by decide +kernel
set_option maxRecDepth 20000 in
theorem ok_Text_new : ∀ E ∈ k_Text_new, xOk m_Text_new E := xok_of dc_Text_new (xfc trivial (xfc ⟨wg1 33 (by decide +kernel) rfl, wg1 26 (by decide +kernel) rfl, wg1 27 (by decide +kernel) rfl⟩ (xfc trivial (xfc trivial (xfc ⟨wg1 41 (by decide +kernel) rfl, by unfold xAty; decide⟩ (xfc ⟨fl_Text_11, fun q h f => by cases h; exact ⟨rfl, rfl⟩⟩ (xfc trivial (xfn))))))))
theorem s_Text_new_0 (C : xCx) (r : List Value) (hp : xHp) (x : Nat) : (xV k_Text_new C 0 [.ref x] r hp) = (True ∧ xV k_Text_new C 1 [.ref x] (.ref x :: r) hp) := xVe _ _ _ _ _ _
theorem s_Text_new_1 (a : Nat) (l : Launch) (d b lo gz n0 s0 : Nat) (Po : Option Value → xHp → Prop) (L r : List Value) (hp : xHp) : (xV k_Text_new (l, d + 1, b, lo, gz, n0, s0, m_Text_new, Po) 1 L (.ref a :: r) hp) = (xcs r 8 ∧ xV k_Text_new (l, d + 1, b, lo, gz, n0, s0, m_Text_new, Po) 4 L r hp) := xVe _ _ _ _ _ _
theorem s_Text_new_4 (C : xCx) (r : List Value) (hp : xHp) (x : Nat) : (xV k_Text_new C 4 [.ref x] r hp) = (True ∧ xV k_Text_new C 5 [.ref x] (.ref x :: r) hp) := xVe _ _ _ _ _ _
theorem s_Text_new_5  (C : xCx) (L r : List Value) (hp : xHp) : (xV k_Text_new C 5 L (r) hp) = (xV k_Text_new C 7 L (.int (80) :: r) hp) := xVe _ _ _ _ _ _
theorem s_Text_new_7 (n : Int32) (l : Launch) (d b lo gz n0 s0 : Nat) (Po : Option Value → xHp → Prop) (L r : List Value) (hp : xHp) : (xV k_Text_new (l, d, b, lo, gz, n0, s0, m_Text_new, Po) 7 L (.int n :: r) hp) = (¬ n < 0 ∧ n.toNatClampNeg ≤ 10000 ∧ (gz = 0 ∧ hp.2.1 + 1 ≤ n0 + 1 ∧ hp.2.2 + n.toNatClampNeg ≤ s0 + 80) ∧ xV k_Text_new (l, d, b, lo, gz, n0, s0, m_Text_new, Po) 9 L (.ref hp.2.1 :: r) (va_up hp.1 hp.2.1 (.inl (.int, xZero .int n.toNatClampNeg)), hp.2.1 + 1, hp.2.2 + n.toNatClampNeg)) := xVe _ _ _ _ _ _
theorem s_Text_new_9 (x a : Nat) (C : xCx) (L r : List Value) (hp : xHp) : (xV k_Text_new C 9 L (.ref x :: .ref a :: r) hp) = (True ∧ xPf hp a 10 0 (.ref x) (fun hp' => xV k_Text_new C 12 L r hp')) := xVe _ _ _ _ _ _
theorem s_Text_new_12 (l : Launch) (d b lo gz n0 s0 : Nat) (Po : Option Value → xHp → Prop) (L : List Value) (hp : xHp) : (xV k_Text_new (l, d, b, lo, gz, n0, s0, m_Text_new, Po) 12 L [] hp) = (hp.2.1 = n0 + 1 ∧ hp.2.2 = s0 + 80 ∧ Po (none) hp) := xVe _ _ _ _ _ _
theorem fl_Row_7 : xFl "SunnyOnes$Row" 7 7 0 := ⟨("SunnyOnes$Row", F_Row, 2), rfl, by decide, wg1 48 (by decide +kernel) rfl⟩
def k_Row_new : List xEC := [
  (0, .aload_n 0, 1, 0, 0, 0, m_x),
  (1, .invokespecial 1, 4, 0, 0, 1, m_x),
  (4, .aload_n 0, 5, 0, 0, 0, m_x),
  (5, .bipush 16, 7, 0, 0, 0, m_x),
  (7, .newarray .long, 9, 0, 0, 0, m_x),
  (9, .putfield 7, 12, 7, 0, 0, m_x),
  (12, .return_, 13, 0, 0, 0, m_x)]
theorem dc_Row_new : ∀ E ∈ k_Row_new, xDc m_Row_new E := by decide +kernel
set_option maxRecDepth 20000 in
theorem ok_Row_new : ∀ E ∈ k_Row_new, xOk m_Row_new E := xok_of dc_Row_new (xfc trivial (xfc ⟨wg1 47 (by decide +kernel) rfl, wg1 26 (by decide +kernel) rfl, wg1 27 (by decide +kernel) rfl⟩ (xfc trivial (xfc trivial (xfc ⟨wg1 55 (by decide +kernel) rfl, by unfold xAty; decide⟩ (xfc ⟨fl_Row_7, fun q h f => by cases h; exact ⟨rfl, rfl⟩⟩ (xfc trivial (xfn))))))))
theorem s_Row_new_0 (C : xCx) (r : List Value) (hp : xHp) (x : Nat) : (xV k_Row_new C 0 [.ref x] r hp) = (True ∧ xV k_Row_new C 1 [.ref x] (.ref x :: r) hp) := xVe _ _ _ _ _ _
theorem s_Row_new_1 (a : Nat) (l : Launch) (d b lo gz n0 s0 : Nat) (Po : Option Value → xHp → Prop) (L r : List Value) (hp : xHp) : (xV k_Row_new (l, d + 1, b, lo, gz, n0, s0, m_Row_new, Po) 1 L (.ref a :: r) hp) = (xcs r 8 ∧ xV k_Row_new (l, d + 1, b, lo, gz, n0, s0, m_Row_new, Po) 4 L r hp) := xVe _ _ _ _ _ _
theorem s_Row_new_4 (C : xCx) (r : List Value) (hp : xHp) (x : Nat) : (xV k_Row_new C 4 [.ref x] r hp) = (True ∧ xV k_Row_new C 5 [.ref x] (.ref x :: r) hp) := xVe _ _ _ _ _ _
theorem s_Row_new_5  (C : xCx) (L r : List Value) (hp : xHp) : (xV k_Row_new C 5 L (r) hp) = (xV k_Row_new C 7 L (.int (16) :: r) hp) := xVe _ _ _ _ _ _
theorem s_Row_new_7 (n : Int32) (l : Launch) (d b lo gz n0 s0 : Nat) (Po : Option Value → xHp → Prop) (L r : List Value) (hp : xHp) : (xV k_Row_new (l, d, b, lo, gz, n0, s0, m_Row_new, Po) 7 L (.int n :: r) hp) = (¬ n < 0 ∧ n.toNatClampNeg ≤ 10000 ∧ (gz = 0 ∧ hp.2.1 + 1 ≤ n0 + 1 ∧ hp.2.2 + n.toNatClampNeg ≤ s0 + 16) ∧ xV k_Row_new (l, d, b, lo, gz, n0, s0, m_Row_new, Po) 9 L (.ref hp.2.1 :: r) (va_up hp.1 hp.2.1 (.inl (.long, xZero .long n.toNatClampNeg)), hp.2.1 + 1, hp.2.2 + n.toNatClampNeg)) := xVe _ _ _ _ _ _
theorem s_Row_new_9 (x a : Nat) (C : xCx) (L r : List Value) (hp : xHp) : (xV k_Row_new C 9 L (.ref x :: .ref a :: r) hp) = (True ∧ xPf hp a 7 0 (.ref x) (fun hp' => xV k_Row_new C 12 L r hp')) := xVe _ _ _ _ _ _
theorem s_Row_new_12 (l : Launch) (d b lo gz n0 s0 : Nat) (Po : Option Value → xHp → Prop) (L : List Value) (hp : xHp) : (xV k_Row_new (l, d, b, lo, gz, n0, s0, m_Row_new, Po) 12 L [] hp) = (hp.2.1 = n0 + 1 ∧ hp.2.2 = s0 + 16 ∧ Po (none) hp) := xVe _ _ _ _ _ _
theorem fl_Land_9 : xFl "SunnyOnes$Land" 9 4 0 := ⟨("SunnyOnes$Land", F_Land, 4), rfl, by decide, wg1 65 (by decide +kernel) rfl⟩
theorem fl_Land_15 : xFl "SunnyOnes$Land" 15 4 1 := ⟨("SunnyOnes$Land", F_Land, 4), rfl, by decide, wg1 66 (by decide +kernel) rfl⟩
theorem ml_Land_18 : xLk "SunnyOnes$Land" 18 m_So_put := Or.inr ⟨"SunnyOnes", List.mem_of_getElem? (i := 2) (by decide +kernel)⟩
theorem fl_Land_22 : xFl "SunnyOnes$Land" 22 4 3 := ⟨("SunnyOnes$Land", F_Land, 4), rfl, by decide, wg1 68 (by decide +kernel) rfl⟩
def k_Land_new : List xEC := [
  (0, .aload_n 0, 1, 0, 0, 0, m_x),
  (1, .invokespecial 3, 4, 0, 0, 1, m_x),
  (4, .aload_n 0, 5, 0, 0, 0, m_x),
  (5, .bipush 6, 7, 0, 0, 0, m_x),
  (7, .newarray .int, 9, 0, 0, 0, m_x),
  (9, .putfield 9, 12, 4, 0, 0, m_x),
  (12, .aload_n 0, 13, 0, 0, 0, m_x),
  (13, .bipush 20, 15, 0, 0, 0, m_x),
  (15, .newarray .int, 17, 0, 0, 0, m_x),
  (17, .putfield 15, 20, 4, 1, 0, m_x),
  (20, .aload_n 0, 21, 0, 0, 0, m_x),
  (21, .getfield 15, 24, 4, 1, 0, m_x),
  (24, .iconst 0, 25, 0, 0, 0, m_x),
  (25, .bipush 9, 27, 0, 0, 0, m_x),
  (27, .invokestatic 18, 30, 0, 0, 0, m_So_put),
  (30, .aload_n 0, 31, 0, 0, 0, m_x),
  (31, .iconst 1, 32, 0, 0, 0, m_x),
  (32, .putfield 22, 35, 4, 3, 0, m_x),
  (35, .return_, 36, 0, 0, 0, m_x)]
theorem dc_Land_new : ∀ E ∈ k_Land_new, xDc m_Land_new E := by decide +kernel
set_option maxRecDepth 20000 in
theorem ok_Land_new : ∀ E ∈ k_Land_new, xOk m_Land_new E := xok_of dc_Land_new (xfc trivial (xfc ⟨wg1 61 (by decide +kernel) rfl, wg1 26 (by decide +kernel) rfl, wg1 27 (by decide +kernel) rfl⟩ (xfc trivial (xfc trivial (xfc ⟨wg1 41 (by decide +kernel) rfl, by unfold xAty; decide⟩ (xfc ⟨fl_Land_9, fun q h f => by cases h; exact ⟨rfl, rfl⟩⟩ (xfc trivial (xfc trivial (xfc ⟨wg1 41 (by decide +kernel) rfl, by unfold xAty; decide⟩ (xfc ⟨fl_Land_15, fun q h f => by cases h; exact ⟨rfl, rfl⟩⟩ (xfc trivial (xfc fl_Land_15 (xfc trivial (xfc trivial (xfc ⟨ml_Land_18, kd_So_put⟩ (xfc trivial (xfc trivial (xfc ⟨fl_Land_22, fun q h f => by cases h; exact absurd f (by decide)⟩ (xfc trivial (xfn))))))))))))))))))))
theorem s_Land_new_0 (C : xCx) (r : List Value) (hp : xHp) (x : Nat) : (xV k_Land_new C 0 [.ref x] r hp) = (True ∧ xV k_Land_new C 1 [.ref x] (.ref x :: r) hp) := xVe _ _ _ _ _ _
theorem s_Land_new_1 (a : Nat) (l : Launch) (d b lo gz n0 s0 : Nat) (Po : Option Value → xHp → Prop) (L r : List Value) (hp : xHp) : (xV k_Land_new (l, d + 1, b, lo, gz, n0, s0, m_Land_new, Po) 1 L (.ref a :: r) hp) = (xcs r 8 ∧ xV k_Land_new (l, d + 1, b, lo, gz, n0, s0, m_Land_new, Po) 4 L r hp) := xVe _ _ _ _ _ _
theorem s_Land_new_4 (C : xCx) (r : List Value) (hp : xHp) (x : Nat) : (xV k_Land_new C 4 [.ref x] r hp) = (True ∧ xV k_Land_new C 5 [.ref x] (.ref x :: r) hp) := xVe _ _ _ _ _ _
theorem s_Land_new_5  (C : xCx) (L r : List Value) (hp : xHp) : (xV k_Land_new C 5 L (r) hp) = (xV k_Land_new C 7 L (.int (6) :: r) hp) := xVe _ _ _ _ _ _
theorem s_Land_new_7 (n : Int32) (l : Launch) (d b lo gz n0 s0 : Nat) (Po : Option Value → xHp → Prop) (L r : List Value) (hp : xHp) : (xV k_Land_new (l, d, b, lo, gz, n0, s0, m_Land_new, Po) 7 L (.int n :: r) hp) = (¬ n < 0 ∧ n.toNatClampNeg ≤ 10000 ∧ (gz = 0 ∧ hp.2.1 + 1 ≤ n0 + 2 ∧ hp.2.2 + n.toNatClampNeg ≤ s0 + 26) ∧ xV k_Land_new (l, d, b, lo, gz, n0, s0, m_Land_new, Po) 9 L (.ref hp.2.1 :: r) (va_up hp.1 hp.2.1 (.inl (.int, xZero .int n.toNatClampNeg)), hp.2.1 + 1, hp.2.2 + n.toNatClampNeg)) := xVe _ _ _ _ _ _
theorem s_Land_new_9 (x a : Nat) (C : xCx) (L r : List Value) (hp : xHp) : (xV k_Land_new C 9 L (.ref x :: .ref a :: r) hp) = (True ∧ xPf hp a 4 0 (.ref x) (fun hp' => xV k_Land_new C 12 L r hp')) := xVe _ _ _ _ _ _
theorem s_Land_new_12 (C : xCx) (r : List Value) (hp : xHp) (x : Nat) : (xV k_Land_new C 12 [.ref x] r hp) = (True ∧ xV k_Land_new C 13 [.ref x] (.ref x :: r) hp) := xVe _ _ _ _ _ _
theorem s_Land_new_13  (C : xCx) (L r : List Value) (hp : xHp) : (xV k_Land_new C 13 L (r) hp) = (xV k_Land_new C 15 L (.int (20) :: r) hp) := xVe _ _ _ _ _ _
theorem s_Land_new_15 (n : Int32) (l : Launch) (d b lo gz n0 s0 : Nat) (Po : Option Value → xHp → Prop) (L r : List Value) (hp : xHp) : (xV k_Land_new (l, d, b, lo, gz, n0, s0, m_Land_new, Po) 15 L (.int n :: r) hp) = (¬ n < 0 ∧ n.toNatClampNeg ≤ 10000 ∧ (gz = 0 ∧ hp.2.1 + 1 ≤ n0 + 2 ∧ hp.2.2 + n.toNatClampNeg ≤ s0 + 26) ∧ xV k_Land_new (l, d, b, lo, gz, n0, s0, m_Land_new, Po) 17 L (.ref hp.2.1 :: r) (va_up hp.1 hp.2.1 (.inl (.int, xZero .int n.toNatClampNeg)), hp.2.1 + 1, hp.2.2 + n.toNatClampNeg)) := xVe _ _ _ _ _ _
theorem s_Land_new_17 (x a : Nat) (C : xCx) (L r : List Value) (hp : xHp) : (xV k_Land_new C 17 L (.ref x :: .ref a :: r) hp) = (True ∧ xPf hp a 4 1 (.ref x) (fun hp' => xV k_Land_new C 20 L r hp')) := xVe _ _ _ _ _ _
theorem s_Land_new_20 (C : xCx) (r : List Value) (hp : xHp) (x : Nat) : (xV k_Land_new C 20 [.ref x] r hp) = (True ∧ xV k_Land_new C 21 [.ref x] (.ref x :: r) hp) := xVe _ _ _ _ _ _
theorem s_Land_new_21 (a : Nat) (C : xCx) (L r : List Value) (hp : xHp) : (xV k_Land_new C 21 L (.ref a :: r) hp) = (xF hp a 4 1 (fun v => xV k_Land_new C 24 L (v :: r) hp)) := xVe _ _ _ _ _ _
theorem s_Land_new_24  (C : xCx) (L r : List Value) (hp : xHp) : (xV k_Land_new C 24 L (r) hp) = (xV k_Land_new C 25 L (.int (0) :: r) hp) := xVe _ _ _ _ _ _
theorem s_Land_new_25  (C : xCx) (L r : List Value) (hp : xHp) : (xV k_Land_new C 25 L (r) hp) = (xV k_Land_new C 27 L (.int (9) :: r) hp) := xVe _ _ _ _ _ _
theorem s_Land_new_27 (x0 : Nat) (x1 : Int32) (x2 : Int32) (l : Launch) (d b lo gz n0 s0 : Nat) (Po : Option Value → xHp → Prop) (L r : List Value) (hp : xHp) : (xV k_Land_new (l, d + 1, b, lo, gz, n0, s0, m_Land_new, Po) 27 L (.int x2 :: .int x1 :: .ref x0 :: r) hp) = (3 ≤ List.length (.int x2 :: .int x1 :: .ref x0 :: r) ∧ xcs r 8 ∧ xMv l d b lo gz m_So_put [.ref x0, .int x1, .int x2] hp (fun hp' => xV k_Land_new (l, d + 1, b, lo, gz, n0, s0, m_Land_new, Po) 30 L r hp')) := xVe _ _ _ _ _ _
theorem s_Land_new_30 (C : xCx) (r : List Value) (hp : xHp) (x : Nat) : (xV k_Land_new C 30 [.ref x] r hp) = (True ∧ xV k_Land_new C 31 [.ref x] (.ref x :: r) hp) := xVe _ _ _ _ _ _
theorem s_Land_new_31  (C : xCx) (L r : List Value) (hp : xHp) : (xV k_Land_new C 31 L (r) hp) = (xV k_Land_new C 32 L (.int (1) :: r) hp) := xVe _ _ _ _ _ _
theorem s_Land_new_32 (x : Int32) (a : Nat) (C : xCx) (L r : List Value) (hp : xHp) : (xV k_Land_new C 32 L (.int x :: .ref a :: r) hp) = (True ∧ xPf hp a 4 3 (.int x) (fun hp' => xV k_Land_new C 35 L r hp')) := xVe _ _ _ _ _ _
theorem s_Land_new_35 (l : Launch) (d b lo gz n0 s0 : Nat) (Po : Option Value → xHp → Prop) (L : List Value) (hp : xHp) : (xV k_Land_new (l, d, b, lo, gz, n0, s0, m_Land_new, Po) 35 L [] hp) = (hp.2.1 = n0 + 2 ∧ hp.2.2 = s0 + 26 ∧ Po (none) hp) := xVe _ _ _ _ _ _
theorem fl_Folk_9 : xFl "SunnyOnes$Folk" 9 3 0 := ⟨("SunnyOnes$Folk", F_Folk, 5), rfl, by decide, wg1 130 (by decide +kernel) rfl⟩
theorem fl_Folk_15 : xFl "SunnyOnes$Folk" 15 3 1 := ⟨("SunnyOnes$Folk", F_Folk, 5), rfl, by decide, wg1 131 (by decide +kernel) rfl⟩
theorem fl_Folk_18 : xFl "SunnyOnes$Folk" 18 3 2 := ⟨("SunnyOnes$Folk", F_Folk, 5), rfl, by decide, wg1 132 (by decide +kernel) rfl⟩
def k_Folk_new : List xEC := [
  (0, .aload_n 0, 1, 0, 0, 0, m_x),
  (1, .invokespecial 3, 4, 0, 0, 1, m_x),
  (4, .aload_n 0, 5, 0, 0, 0, m_x),
  (5, .bipush 7, 7, 0, 0, 0, m_x),
  (7, .newarray .int, 9, 0, 0, 0, m_x),
  (9, .putfield 9, 12, 3, 0, 0, m_x),
  (12, .aload_n 0, 13, 0, 0, 0, m_x),
  (13, .bipush 7, 15, 0, 0, 0, m_x),
  (15, .newarray .int, 17, 0, 0, 0, m_x),
  (17, .putfield 15, 20, 3, 1, 0, m_x),
  (20, .aload_n 0, 21, 0, 0, 0, m_x),
  (21, .bipush 7, 23, 0, 0, 0, m_x),
  (23, .newarray .int, 25, 0, 0, 0, m_x),
  (25, .putfield 18, 28, 3, 2, 0, m_x),
  (28, .return_, 29, 0, 0, 0, m_x)]
theorem dc_Folk_new : ∀ E ∈ k_Folk_new, xDc m_Folk_new E := by decide +kernel
set_option maxRecDepth 20000 in
theorem ok_Folk_new : ∀ E ∈ k_Folk_new, xOk m_Folk_new E := xok_of dc_Folk_new (xfc trivial (xfc ⟨wg1 129 (by decide +kernel) rfl, wg1 26 (by decide +kernel) rfl, wg1 27 (by decide +kernel) rfl⟩ (xfc trivial (xfc trivial (xfc ⟨wg1 41 (by decide +kernel) rfl, by unfold xAty; decide⟩ (xfc ⟨fl_Folk_9, fun q h f => by cases h; exact ⟨rfl, rfl⟩⟩ (xfc trivial (xfc trivial (xfc ⟨wg1 41 (by decide +kernel) rfl, by unfold xAty; decide⟩ (xfc ⟨fl_Folk_15, fun q h f => by cases h; exact ⟨rfl, rfl⟩⟩ (xfc trivial (xfc trivial (xfc ⟨wg1 41 (by decide +kernel) rfl, by unfold xAty; decide⟩ (xfc ⟨fl_Folk_18, fun q h f => by cases h; exact ⟨rfl, rfl⟩⟩ (xfc trivial (xfn))))))))))))))))
theorem s_Folk_new_0 (C : xCx) (r : List Value) (hp : xHp) (x : Nat) : (xV k_Folk_new C 0 [.ref x] r hp) = (True ∧ xV k_Folk_new C 1 [.ref x] (.ref x :: r) hp) := xVe _ _ _ _ _ _
theorem s_Folk_new_1 (a : Nat) (l : Launch) (d b lo gz n0 s0 : Nat) (Po : Option Value → xHp → Prop) (L r : List Value) (hp : xHp) : (xV k_Folk_new (l, d + 1, b, lo, gz, n0, s0, m_Folk_new, Po) 1 L (.ref a :: r) hp) = (xcs r 8 ∧ xV k_Folk_new (l, d + 1, b, lo, gz, n0, s0, m_Folk_new, Po) 4 L r hp) := xVe _ _ _ _ _ _
theorem s_Folk_new_4 (C : xCx) (r : List Value) (hp : xHp) (x : Nat) : (xV k_Folk_new C 4 [.ref x] r hp) = (True ∧ xV k_Folk_new C 5 [.ref x] (.ref x :: r) hp) := xVe _ _ _ _ _ _
theorem s_Folk_new_5  (C : xCx) (L r : List Value) (hp : xHp) : (xV k_Folk_new C 5 L (r) hp) = (xV k_Folk_new C 7 L (.int (7) :: r) hp) := xVe _ _ _ _ _ _
theorem s_Folk_new_7 (n : Int32) (l : Launch) (d b lo gz n0 s0 : Nat) (Po : Option Value → xHp → Prop) (L r : List Value) (hp : xHp) : (xV k_Folk_new (l, d, b, lo, gz, n0, s0, m_Folk_new, Po) 7 L (.int n :: r) hp) = (¬ n < 0 ∧ n.toNatClampNeg ≤ 10000 ∧ (gz = 0 ∧ hp.2.1 + 1 ≤ n0 + 3 ∧ hp.2.2 + n.toNatClampNeg ≤ s0 + 21) ∧ xV k_Folk_new (l, d, b, lo, gz, n0, s0, m_Folk_new, Po) 9 L (.ref hp.2.1 :: r) (va_up hp.1 hp.2.1 (.inl (.int, xZero .int n.toNatClampNeg)), hp.2.1 + 1, hp.2.2 + n.toNatClampNeg)) := xVe _ _ _ _ _ _
theorem s_Folk_new_9 (x a : Nat) (C : xCx) (L r : List Value) (hp : xHp) : (xV k_Folk_new C 9 L (.ref x :: .ref a :: r) hp) = (True ∧ xPf hp a 3 0 (.ref x) (fun hp' => xV k_Folk_new C 12 L r hp')) := xVe _ _ _ _ _ _
theorem s_Folk_new_12 (C : xCx) (r : List Value) (hp : xHp) (x : Nat) : (xV k_Folk_new C 12 [.ref x] r hp) = (True ∧ xV k_Folk_new C 13 [.ref x] (.ref x :: r) hp) := xVe _ _ _ _ _ _
theorem s_Folk_new_13  (C : xCx) (L r : List Value) (hp : xHp) : (xV k_Folk_new C 13 L (r) hp) = (xV k_Folk_new C 15 L (.int (7) :: r) hp) := xVe _ _ _ _ _ _
theorem s_Folk_new_15 (n : Int32) (l : Launch) (d b lo gz n0 s0 : Nat) (Po : Option Value → xHp → Prop) (L r : List Value) (hp : xHp) : (xV k_Folk_new (l, d, b, lo, gz, n0, s0, m_Folk_new, Po) 15 L (.int n :: r) hp) = (¬ n < 0 ∧ n.toNatClampNeg ≤ 10000 ∧ (gz = 0 ∧ hp.2.1 + 1 ≤ n0 + 3 ∧ hp.2.2 + n.toNatClampNeg ≤ s0 + 21) ∧ xV k_Folk_new (l, d, b, lo, gz, n0, s0, m_Folk_new, Po) 17 L (.ref hp.2.1 :: r) (va_up hp.1 hp.2.1 (.inl (.int, xZero .int n.toNatClampNeg)), hp.2.1 + 1, hp.2.2 + n.toNatClampNeg)) := xVe _ _ _ _ _ _
theorem s_Folk_new_17 (x a : Nat) (C : xCx) (L r : List Value) (hp : xHp) : (xV k_Folk_new C 17 L (.ref x :: .ref a :: r) hp) = (True ∧ xPf hp a 3 1 (.ref x) (fun hp' => xV k_Folk_new C 20 L r hp')) := xVe _ _ _ _ _ _
theorem s_Folk_new_20 (C : xCx) (r : List Value) (hp : xHp) (x : Nat) : (xV k_Folk_new C 20 [.ref x] r hp) = (True ∧ xV k_Folk_new C 21 [.ref x] (.ref x :: r) hp) := xVe _ _ _ _ _ _
theorem s_Folk_new_21  (C : xCx) (L r : List Value) (hp : xHp) : (xV k_Folk_new C 21 L (r) hp) = (xV k_Folk_new C 23 L (.int (7) :: r) hp) := xVe _ _ _ _ _ _
theorem s_Folk_new_23 (n : Int32) (l : Launch) (d b lo gz n0 s0 : Nat) (Po : Option Value → xHp → Prop) (L r : List Value) (hp : xHp) : (xV k_Folk_new (l, d, b, lo, gz, n0, s0, m_Folk_new, Po) 23 L (.int n :: r) hp) = (¬ n < 0 ∧ n.toNatClampNeg ≤ 10000 ∧ (gz = 0 ∧ hp.2.1 + 1 ≤ n0 + 3 ∧ hp.2.2 + n.toNatClampNeg ≤ s0 + 21) ∧ xV k_Folk_new (l, d, b, lo, gz, n0, s0, m_Folk_new, Po) 25 L (.ref hp.2.1 :: r) (va_up hp.1 hp.2.1 (.inl (.int, xZero .int n.toNatClampNeg)), hp.2.1 + 1, hp.2.2 + n.toNatClampNeg)) := xVe _ _ _ _ _ _
theorem s_Folk_new_25 (x a : Nat) (C : xCx) (L r : List Value) (hp : xHp) : (xV k_Folk_new C 25 L (.ref x :: .ref a :: r) hp) = (True ∧ xPf hp a 3 2 (.ref x) (fun hp' => xV k_Folk_new C 28 L r hp')) := xVe _ _ _ _ _ _
theorem s_Folk_new_28 (l : Launch) (d b lo gz n0 s0 : Nat) (Po : Option Value → xHp → Prop) (L : List Value) (hp : xHp) : (xV k_Folk_new (l, d, b, lo, gz, n0, s0, m_Folk_new, Po) 28 L [] hp) = (hp.2.1 = n0 + 3 ∧ hp.2.2 = s0 + 21 ∧ Po (none) hp) := xVe _ _ _ _ _ _
theorem fl_Past_11 : xFl "SunnyOnes$Past" 11 5 0 := ⟨("SunnyOnes$Past", F_Past, 5), rfl, by decide, wg1 155 (by decide +kernel) rfl⟩
theorem fl_Past_15 : xFl "SunnyOnes$Past" 15 5 1 := ⟨("SunnyOnes$Past", F_Past, 5), rfl, by decide, wg1 156 (by decide +kernel) rfl⟩
theorem fl_Past_18 : xFl "SunnyOnes$Past" 18 5 2 := ⟨("SunnyOnes$Past", F_Past, 5), rfl, by decide, wg1 157 (by decide +kernel) rfl⟩
theorem ml_Past_22 : xLk "SunnyOnes$Past" 22 m_Folk_new := Or.inr ⟨"SunnyOnes", List.mem_of_getElem? (i := 4) (by decide +kernel)⟩
def k_Past_new : List xEC := [
  (0, .aload_n 0, 1, 0, 0, 0, m_x),
  (1, .invokespecial 1, 4, 0, 0, 1, m_x),
  (4, .aload_n 0, 5, 0, 0, 0, m_x),
  (5, .bipush 12, 7, 0, 0, 0, m_x),
  (7, .anewarray 9, 10, 0, 0, 0, m_x),
  (10, .putfield 11, 13, 5, 0, 0, m_x),
  (13, .aload_n 0, 14, 0, 0, 0, m_x),
  (14, .iconst 2, 15, 0, 0, 0, m_x),
  (15, .anewarray 9, 18, 0, 0, 0, m_x),
  (18, .putfield 15, 21, 5, 1, 0, m_x),
  (21, .aload_n 0, 22, 0, 0, 0, m_x),
  (22, .iconst 2, 23, 0, 0, 0, m_x),
  (23, .newarray .boolean, 25, 0, 0, 0, m_x),
  (25, .putfield 18, 28, 5, 2, 0, m_x),
  (28, .iconst 0, 29, 0, 0, 0, m_x),
  (29, .istore_n 1, 30, 0, 0, 0, m_x),
  (30, .iload_n 1, 31, 0, 0, 0, m_x),
  (31, .aload_n 0, 32, 0, 0, 0, m_x),
  (32, .getfield 11, 35, 5, 0, 0, m_x),
  (35, .arraylength, 36, 0, 0, 0, m_x),
  (36, .if_icmp .ge 22, 39, 0, 58, 0, m_x),
  (39, .aload_n 0, 40, 0, 0, 0, m_x),
  (40, .getfield 11, 43, 5, 0, 0, m_x),
  (43, .iload_n 1, 44, 0, 0, 0, m_x),
  (44, .new 9, 47, 3, 0, 0, m_x),
  (47, .dup, 48, 0, 0, 0, m_x),
  (48, .invokespecial 22, 51, 0, 0, 0, m_Folk_new),
  (51, .aastore, 52, 0, 0, 0, m_x),
  (52, .iinc 1 1, 55, 0, 0, 0, m_x),
  (55, .goto (-25), 58, 0, 30, 0, m_x),
  (58, .iconst 0, 59, 0, 0, 0, m_x),
  (59, .istore_n 1, 60, 0, 0, 0, m_x),
  (60, .iload_n 1, 61, 0, 0, 0, m_x),
  (61, .aload_n 0, 62, 0, 0, 0, m_x),
  (62, .getfield 15, 65, 5, 1, 0, m_x),
  (65, .arraylength, 66, 0, 0, 0, m_x),
  (66, .if_icmp .ge 22, 69, 0, 88, 0, m_x),
  (69, .aload_n 0, 70, 0, 0, 0, m_x),
  (70, .getfield 15, 73, 5, 1, 0, m_x),
  (73, .iload_n 1, 74, 0, 0, 0, m_x),
  (74, .new 9, 77, 3, 0, 0, m_x),
  (77, .dup, 78, 0, 0, 0, m_x),
  (78, .invokespecial 22, 81, 0, 0, 0, m_Folk_new),
  (81, .aastore, 82, 0, 0, 0, m_x),
  (82, .iinc 1 1, 85, 0, 0, 0, m_x),
  (85, .goto (-25), 88, 0, 60, 0, m_x),
  (88, .return_, 89, 0, 0, 0, m_x)]
theorem dc_Past_new : ∀ E ∈ k_Past_new, xDc m_Past_new E := by decide +kernel
set_option maxRecDepth 20000 in
theorem ok_Past_new : ∀ E ∈ k_Past_new, xOk m_Past_new E := xok_of dc_Past_new (xfc trivial (xfc ⟨wg1 151 (by decide +kernel) rfl, wg1 26 (by decide +kernel) rfl, wg1 27 (by decide +kernel) rfl⟩ (xfc trivial (xfc trivial (xfc (wg1 152 (by decide +kernel) rfl) (xfc ⟨fl_Past_11, fun q h f => by cases h; exact ⟨rfl, rfl⟩⟩ (xfc trivial (xfc trivial (xfc (wg1 152 (by decide +kernel) rfl) (xfc ⟨fl_Past_15, fun q h f => by cases h; exact ⟨rfl, rfl⟩⟩ (xfc trivial (xfc trivial (xfc ⟨wg1 171 (by decide +kernel) rfl, by unfold xAty; decide⟩ (xfc ⟨fl_Past_18, fun q h f => by cases h; exact ⟨rfl, rfl⟩⟩ (xfc trivial (xfc trivial (xfc trivial (xfc trivial (xfc fl_Past_11 (xfc trivial (xfc (show ((36 : Nat) : Int) + (22) = ((58 : Nat) : Int) from by decide) (xfc trivial (xfc fl_Past_11 (xfc trivial (xfc ⟨("SunnyOnes$Folk", F_Folk, 5), rfl, wg1 152 (by decide +kernel) rfl, wg1 125 (by decide +kernel) rfl, wg1 7 (by decide +kernel) rfl, rfl⟩ (xfc trivial (xfc ⟨ml_Past_22, kd_Folk_new⟩ (xfc trivial (xfc trivial (xfc (show ((55 : Nat) : Int) + (-25) = ((30 : Nat) : Int) from by decide) (xfc trivial (xfc trivial (xfc trivial (xfc trivial (xfc fl_Past_15 (xfc trivial (xfc (show ((66 : Nat) : Int) + (22) = ((88 : Nat) : Int) from by decide) (xfc trivial (xfc fl_Past_15 (xfc trivial (xfc ⟨("SunnyOnes$Folk", F_Folk, 5), rfl, wg1 152 (by decide +kernel) rfl, wg1 125 (by decide +kernel) rfl, wg1 7 (by decide +kernel) rfl, rfl⟩ (xfc trivial (xfc ⟨ml_Past_22, kd_Folk_new⟩ (xfc trivial (xfc trivial (xfc (show ((85 : Nat) : Int) + (-25) = ((60 : Nat) : Int) from by decide) (xfc trivial (xfn))))))))))))))))))))))))))))))))))))))))))))))))
theorem s_Past_new_0 (C : xCx) (r : List Value) (hp : xHp) (x : Nat) (a1 : Value) : (xV k_Past_new C 0 [.ref x, a1] r hp) = (True ∧ xV k_Past_new C 1 [.ref x, a1] (.ref x :: r) hp) := xVe _ _ _ _ _ _
theorem s_Past_new_1 (a : Nat) (l : Launch) (d b lo gz n0 s0 : Nat) (Po : Option Value → xHp → Prop) (L r : List Value) (hp : xHp) : (xV k_Past_new (l, d + 1, b, lo, gz, n0, s0, m_Past_new, Po) 1 L (.ref a :: r) hp) = (xcs r 8 ∧ xV k_Past_new (l, d + 1, b, lo, gz, n0, s0, m_Past_new, Po) 4 L r hp) := xVe _ _ _ _ _ _
theorem s_Past_new_4 (C : xCx) (r : List Value) (hp : xHp) (x : Nat) (a1 : Value) : (xV k_Past_new C 4 [.ref x, a1] r hp) = (True ∧ xV k_Past_new C 5 [.ref x, a1] (.ref x :: r) hp) := xVe _ _ _ _ _ _
theorem s_Past_new_5  (C : xCx) (L r : List Value) (hp : xHp) : (xV k_Past_new C 5 L (r) hp) = (xV k_Past_new C 7 L (.int (12) :: r) hp) := xVe _ _ _ _ _ _
theorem s_Past_new_7 (n : Int32) (l : Launch) (d b lo gz n0 s0 : Nat) (Po : Option Value → xHp → Prop) (L r : List Value) (hp : xHp) : (xV k_Past_new (l, d, b, lo, gz, n0, s0, m_Past_new, Po) 7 L (.int n :: r) hp) = (¬ n < 0 ∧ n.toNatClampNeg ≤ 10000 ∧ (gz = 0 ∧ hp.2.1 + 1 ≤ n0 + 59 ∧ hp.2.2 + n.toNatClampNeg ≤ s0 + 380) ∧ xV k_Past_new (l, d, b, lo, gz, n0, s0, m_Past_new, Po) 10 L (.ref hp.2.1 :: r) (va_up hp.1 hp.2.1 (.inl (.object "SunnyOnes$Folk", n.toNatClampNeg, .inr (.inr (.inr (.inr (fun _ => none)))))), hp.2.1 + 1, hp.2.2 + n.toNatClampNeg)) := xVe _ _ _ _ _ _
theorem s_Past_new_10 (x a : Nat) (C : xCx) (L r : List Value) (hp : xHp) : (xV k_Past_new C 10 L (.ref x :: .ref a :: r) hp) = (True ∧ xPf hp a 5 0 (.ref x) (fun hp' => xV k_Past_new C 13 L r hp')) := xVe _ _ _ _ _ _
theorem s_Past_new_13 (C : xCx) (r : List Value) (hp : xHp) (x : Nat) (a1 : Value) : (xV k_Past_new C 13 [.ref x, a1] r hp) = (True ∧ xV k_Past_new C 14 [.ref x, a1] (.ref x :: r) hp) := xVe _ _ _ _ _ _
theorem s_Past_new_14  (C : xCx) (L r : List Value) (hp : xHp) : (xV k_Past_new C 14 L (r) hp) = (xV k_Past_new C 15 L (.int (2) :: r) hp) := xVe _ _ _ _ _ _
theorem s_Past_new_15 (n : Int32) (l : Launch) (d b lo gz n0 s0 : Nat) (Po : Option Value → xHp → Prop) (L r : List Value) (hp : xHp) : (xV k_Past_new (l, d, b, lo, gz, n0, s0, m_Past_new, Po) 15 L (.int n :: r) hp) = (¬ n < 0 ∧ n.toNatClampNeg ≤ 10000 ∧ (gz = 0 ∧ hp.2.1 + 1 ≤ n0 + 59 ∧ hp.2.2 + n.toNatClampNeg ≤ s0 + 380) ∧ xV k_Past_new (l, d, b, lo, gz, n0, s0, m_Past_new, Po) 18 L (.ref hp.2.1 :: r) (va_up hp.1 hp.2.1 (.inl (.object "SunnyOnes$Folk", n.toNatClampNeg, .inr (.inr (.inr (.inr (fun _ => none)))))), hp.2.1 + 1, hp.2.2 + n.toNatClampNeg)) := xVe _ _ _ _ _ _
theorem s_Past_new_18 (x a : Nat) (C : xCx) (L r : List Value) (hp : xHp) : (xV k_Past_new C 18 L (.ref x :: .ref a :: r) hp) = (True ∧ xPf hp a 5 1 (.ref x) (fun hp' => xV k_Past_new C 21 L r hp')) := xVe _ _ _ _ _ _
theorem s_Past_new_21 (C : xCx) (r : List Value) (hp : xHp) (x : Nat) (a1 : Value) : (xV k_Past_new C 21 [.ref x, a1] r hp) = (True ∧ xV k_Past_new C 22 [.ref x, a1] (.ref x :: r) hp) := xVe _ _ _ _ _ _
theorem s_Past_new_22  (C : xCx) (L r : List Value) (hp : xHp) : (xV k_Past_new C 22 L (r) hp) = (xV k_Past_new C 23 L (.int (2) :: r) hp) := xVe _ _ _ _ _ _
theorem s_Past_new_23 (n : Int32) (l : Launch) (d b lo gz n0 s0 : Nat) (Po : Option Value → xHp → Prop) (L r : List Value) (hp : xHp) : (xV k_Past_new (l, d, b, lo, gz, n0, s0, m_Past_new, Po) 23 L (.int n :: r) hp) = (¬ n < 0 ∧ n.toNatClampNeg ≤ 10000 ∧ (gz = 0 ∧ hp.2.1 + 1 ≤ n0 + 59 ∧ hp.2.2 + n.toNatClampNeg ≤ s0 + 380) ∧ xV k_Past_new (l, d, b, lo, gz, n0, s0, m_Past_new, Po) 25 L (.ref hp.2.1 :: r) (va_up hp.1 hp.2.1 (.inl (.boolean, xZero .boolean n.toNatClampNeg)), hp.2.1 + 1, hp.2.2 + n.toNatClampNeg)) := xVe _ _ _ _ _ _
theorem s_Past_new_25 (x a : Nat) (C : xCx) (L r : List Value) (hp : xHp) : (xV k_Past_new C 25 L (.ref x :: .ref a :: r) hp) = (True ∧ xPf hp a 5 2 (.ref x) (fun hp' => xV k_Past_new C 28 L r hp')) := xVe _ _ _ _ _ _
theorem s_Past_new_28  (C : xCx) (L r : List Value) (hp : xHp) : (xV k_Past_new C 28 L (r) hp) = (xV k_Past_new C 29 L (.int (0) :: r) hp) := xVe _ _ _ _ _ _
theorem s_Past_new_29 (C : xCx) (r : List Value) (hp : xHp) (x : Int32) (a0 a1 : Value) : (xV k_Past_new C 29 [a0, a1] (.int x :: r) hp) = (1 < 2 ∧ xNl [a0, a1] 1 ∧ xV k_Past_new C 30 [a0, .int x] r hp) := xVe _ _ _ _ _ _
theorem s_Past_new_30 (C : xCx) (r : List Value) (hp : xHp) (x : Int32) (a0 : Value) : (xV k_Past_new C 30 [a0, .int x] r hp) = (xV k_Past_new C 31 [a0, .int x] (.int x :: r) hp) := xVe _ _ _ _ _ _
theorem s_Past_new_31 (C : xCx) (r : List Value) (hp : xHp) (x : Nat) (a1 : Value) : (xV k_Past_new C 31 [.ref x, a1] r hp) = (True ∧ xV k_Past_new C 32 [.ref x, a1] (.ref x :: r) hp) := xVe _ _ _ _ _ _
theorem s_Past_new_32 (a : Nat) (C : xCx) (L r : List Value) (hp : xHp) : (xV k_Past_new C 32 L (.ref a :: r) hp) = (xF hp a 5 0 (fun v => xV k_Past_new C 35 L (v :: r) hp)) := xVe _ _ _ _ _ _
theorem s_Past_new_35 (a : Nat) (C : xCx) (L r : List Value) (hp : xHp) : (xV k_Past_new C 35 L (.ref a :: r) hp) = (xLn hp a (fun n => xV k_Past_new C 36 L (.int (Int32.ofNat n) :: r) hp)) := xVe _ _ _ _ _ _
theorem s_Past_new_36 (x y : Int32) (C : xCx) (L r : List Value) (hp : xHp) : (xV k_Past_new C 36 L (.int y :: .int x :: r) hp) = (((y ≤ x → xV k_Past_new C 58 L r hp) ∧ (¬ y ≤ x → xV k_Past_new C 39 L r hp))) := xVe _ _ _ _ _ _
theorem s_Past_new_39 (C : xCx) (r : List Value) (hp : xHp) (x : Nat) (a1 : Value) : (xV k_Past_new C 39 [.ref x, a1] r hp) = (True ∧ xV k_Past_new C 40 [.ref x, a1] (.ref x :: r) hp) := xVe _ _ _ _ _ _
theorem s_Past_new_40 (a : Nat) (C : xCx) (L r : List Value) (hp : xHp) : (xV k_Past_new C 40 L (.ref a :: r) hp) = (xF hp a 5 0 (fun v => xV k_Past_new C 43 L (v :: r) hp)) := xVe _ _ _ _ _ _
theorem s_Past_new_43 (C : xCx) (r : List Value) (hp : xHp) (x : Int32) (a0 : Value) : (xV k_Past_new C 43 [a0, .int x] r hp) = (xV k_Past_new C 44 [a0, .int x] (.int x :: r) hp) := xVe _ _ _ _ _ _
theorem s_Past_new_44 (l : Launch) (d b lo gz n0 s0 : Nat) (Po : Option Value → xHp → Prop) (L r : List Value) (hp : xHp) : (xV k_Past_new (l, d, b, lo, gz, n0, s0, m_Past_new, Po) 44 L r hp) = ((gz = 0 ∧ hp.2.1 + 1 ≤ n0 + 59 ∧ hp.2.2 + 5 ≤ s0 + 380) ∧ xV k_Past_new (l, d, b, lo, gz, n0, s0, m_Past_new, Po) 47 L (.ref hp.2.1 :: r) (va_up hp.1 hp.2.1 (.inr (3, xDf 3)), hp.2.1 + 1, hp.2.2 + 5)) := xVe _ _ _ _ _ _
theorem s_Past_new_47 (v : Value) (C : xCx) (L r : List Value) (hp : xHp) : (xV k_Past_new C 47 L (v :: r) hp) = (v.category = 1 ∧ xV k_Past_new C 48 L (v :: v :: r) hp) := xVe _ _ _ _ _ _
theorem s_Past_new_48 (a : Nat) (l : Launch) (d b lo gz n0 s0 : Nat) (Po : Option Value → xHp → Prop) (L r : List Value) (hp : xHp) : (xV k_Past_new (l, d + 1, b, lo, gz, n0, s0, m_Past_new, Po) 48 L (.ref a :: r) hp) = (True ∧ xcs r 8 ∧ (gz = 0 ∧ hp.2.1 + 3 ≤ n0 + 59 ∧ hp.2.2 + 21 ≤ s0 + 380) ∧ xMv l d b lo gz m_Folk_new [.ref a] hp (fun hp' => xV k_Past_new (l, d + 1, b, lo, gz, n0, s0, m_Past_new, Po) 51 L r hp')) := xVe _ _ _ _ _ _
theorem s_Past_new_51 (i : Int32) (v a : Nat) (C : xCx) (L r : List Value) (hp : xHp) : (xV k_Past_new C 51 L (.ref v :: .int i :: .ref a :: r) hp) = (xO hp v 3 ∧ xAq hp a (fun ty n g => ty = .object "SunnyOnes$Folk" ∧ vp_in i n ∧ xV k_Past_new C 52 L r (xup hp a (.inl (.object "SunnyOnes$Folk", n, .inr (.inr (.inr (.inr (va_up g i.toNatClampNeg (some v)))))))))) := xVe _ _ _ _ _ _
theorem s_Past_new_52 (C : xCx) (r : List Value) (hp : xHp) (x : Int32) (a0 : Value) : (xV k_Past_new C 52 [a0, .int x] r hp) = (xNl [a0, .int x] 1 ∧ xV k_Past_new C 55 [a0, .int (x + (1))] r hp) := xVe _ _ _ _ _ _
theorem s_Past_new_55 (C : xCx) (L r : List Value) (hp : xHp) : (xV k_Past_new C 55 L r hp) = (xV k_Past_new C 30 L r hp) := xVe _ _ _ _ _ _
theorem s_Past_new_58  (C : xCx) (L r : List Value) (hp : xHp) : (xV k_Past_new C 58 L (r) hp) = (xV k_Past_new C 59 L (.int (0) :: r) hp) := xVe _ _ _ _ _ _
theorem s_Past_new_59 (C : xCx) (r : List Value) (hp : xHp) (x : Int32) (a0 a1 : Value) : (xV k_Past_new C 59 [a0, a1] (.int x :: r) hp) = (1 < 2 ∧ xNl [a0, a1] 1 ∧ xV k_Past_new C 60 [a0, .int x] r hp) := xVe _ _ _ _ _ _
theorem s_Past_new_60 (C : xCx) (r : List Value) (hp : xHp) (x : Int32) (a0 : Value) : (xV k_Past_new C 60 [a0, .int x] r hp) = (xV k_Past_new C 61 [a0, .int x] (.int x :: r) hp) := xVe _ _ _ _ _ _
theorem s_Past_new_61 (C : xCx) (r : List Value) (hp : xHp) (x : Nat) (a1 : Value) : (xV k_Past_new C 61 [.ref x, a1] r hp) = (True ∧ xV k_Past_new C 62 [.ref x, a1] (.ref x :: r) hp) := xVe _ _ _ _ _ _
theorem s_Past_new_62 (a : Nat) (C : xCx) (L r : List Value) (hp : xHp) : (xV k_Past_new C 62 L (.ref a :: r) hp) = (xF hp a 5 1 (fun v => xV k_Past_new C 65 L (v :: r) hp)) := xVe _ _ _ _ _ _
theorem s_Past_new_65 (a : Nat) (C : xCx) (L r : List Value) (hp : xHp) : (xV k_Past_new C 65 L (.ref a :: r) hp) = (xLn hp a (fun n => xV k_Past_new C 66 L (.int (Int32.ofNat n) :: r) hp)) := xVe _ _ _ _ _ _
theorem s_Past_new_66 (x y : Int32) (C : xCx) (L r : List Value) (hp : xHp) : (xV k_Past_new C 66 L (.int y :: .int x :: r) hp) = (((y ≤ x → xV k_Past_new C 88 L r hp) ∧ (¬ y ≤ x → xV k_Past_new C 69 L r hp))) := xVe _ _ _ _ _ _
theorem s_Past_new_69 (C : xCx) (r : List Value) (hp : xHp) (x : Nat) (a1 : Value) : (xV k_Past_new C 69 [.ref x, a1] r hp) = (True ∧ xV k_Past_new C 70 [.ref x, a1] (.ref x :: r) hp) := xVe _ _ _ _ _ _
theorem s_Past_new_70 (a : Nat) (C : xCx) (L r : List Value) (hp : xHp) : (xV k_Past_new C 70 L (.ref a :: r) hp) = (xF hp a 5 1 (fun v => xV k_Past_new C 73 L (v :: r) hp)) := xVe _ _ _ _ _ _
theorem s_Past_new_73 (C : xCx) (r : List Value) (hp : xHp) (x : Int32) (a0 : Value) : (xV k_Past_new C 73 [a0, .int x] r hp) = (xV k_Past_new C 74 [a0, .int x] (.int x :: r) hp) := xVe _ _ _ _ _ _
theorem s_Past_new_74 (l : Launch) (d b lo gz n0 s0 : Nat) (Po : Option Value → xHp → Prop) (L r : List Value) (hp : xHp) : (xV k_Past_new (l, d, b, lo, gz, n0, s0, m_Past_new, Po) 74 L r hp) = ((gz = 0 ∧ hp.2.1 + 1 ≤ n0 + 59 ∧ hp.2.2 + 5 ≤ s0 + 380) ∧ xV k_Past_new (l, d, b, lo, gz, n0, s0, m_Past_new, Po) 77 L (.ref hp.2.1 :: r) (va_up hp.1 hp.2.1 (.inr (3, xDf 3)), hp.2.1 + 1, hp.2.2 + 5)) := xVe _ _ _ _ _ _
theorem s_Past_new_77 (v : Value) (C : xCx) (L r : List Value) (hp : xHp) : (xV k_Past_new C 77 L (v :: r) hp) = (v.category = 1 ∧ xV k_Past_new C 78 L (v :: v :: r) hp) := xVe _ _ _ _ _ _
theorem s_Past_new_78 (a : Nat) (l : Launch) (d b lo gz n0 s0 : Nat) (Po : Option Value → xHp → Prop) (L r : List Value) (hp : xHp) : (xV k_Past_new (l, d + 1, b, lo, gz, n0, s0, m_Past_new, Po) 78 L (.ref a :: r) hp) = (True ∧ xcs r 8 ∧ (gz = 0 ∧ hp.2.1 + 3 ≤ n0 + 59 ∧ hp.2.2 + 21 ≤ s0 + 380) ∧ xMv l d b lo gz m_Folk_new [.ref a] hp (fun hp' => xV k_Past_new (l, d + 1, b, lo, gz, n0, s0, m_Past_new, Po) 81 L r hp')) := xVe _ _ _ _ _ _
theorem s_Past_new_81 (i : Int32) (v a : Nat) (C : xCx) (L r : List Value) (hp : xHp) : (xV k_Past_new C 81 L (.ref v :: .int i :: .ref a :: r) hp) = (xO hp v 3 ∧ xAq hp a (fun ty n g => ty = .object "SunnyOnes$Folk" ∧ vp_in i n ∧ xV k_Past_new C 82 L r (xup hp a (.inl (.object "SunnyOnes$Folk", n, .inr (.inr (.inr (.inr (va_up g i.toNatClampNeg (some v)))))))))) := xVe _ _ _ _ _ _
theorem s_Past_new_82 (C : xCx) (r : List Value) (hp : xHp) (x : Int32) (a0 : Value) : (xV k_Past_new C 82 [a0, .int x] r hp) = (xNl [a0, .int x] 1 ∧ xV k_Past_new C 85 [a0, .int (x + (1))] r hp) := xVe _ _ _ _ _ _
theorem s_Past_new_85 (C : xCx) (L r : List Value) (hp : xHp) : (xV k_Past_new C 85 L r hp) = (xV k_Past_new C 60 L r hp) := xVe _ _ _ _ _ _
theorem s_Past_new_88 (l : Launch) (d b lo gz n0 s0 : Nat) (Po : Option Value → xHp → Prop) (L : List Value) (hp : xHp) : (xV k_Past_new (l, d, b, lo, gz, n0, s0, m_Past_new, Po) 88 L [] hp) = (hp.2.1 = n0 + 59 ∧ hp.2.2 = s0 + 380 ∧ Po (none) hp) := xVe _ _ _ _ _ _
theorem fl_Clues_9 : xFl "SunnyOnes$Clues" 9 2 1 := ⟨("SunnyOnes$Clues", F_Clues, 4), rfl, by decide, wg1 182 (by decide +kernel) rfl⟩
theorem fl_Clues_15 : xFl "SunnyOnes$Clues" 15 2 2 := ⟨("SunnyOnes$Clues", F_Clues, 4), rfl, by decide, wg1 183 (by decide +kernel) rfl⟩
theorem ml_Clues_18 : xLk "SunnyOnes$Clues" 18 m_Math_min := Or.inl (wg1 178 (by decide +kernel) rfl)
theorem fl_Clues_24 : xFl "SunnyOnes$Clues" 24 2 0 := ⟨("SunnyOnes$Clues", F_Clues, 4), rfl, by decide, wg1 181 (by decide +kernel) rfl⟩
def k_Clues_new : List xEC := [
  (0, .aload_n 0, 1, 0, 0, 0, m_x),
  (1, .invokespecial 3, 4, 0, 0, 1, m_x),
  (4, .aload_n 0, 5, 0, 0, 0, m_x),
  (5, .bipush 12, 7, 0, 0, 0, m_x),
  (7, .newarray .int, 9, 0, 0, 0, m_x),
  (9, .putfield 9, 12, 2, 1, 0, m_x),
  (12, .aload_n 0, 13, 0, 0, 0, m_x),
  (13, .bipush 12, 15, 0, 0, 0, m_x),
  (15, .newarray .int, 17, 0, 0, 0, m_x),
  (17, .putfield 15, 20, 2, 2, 0, m_x),
  (20, .aload_n 0, 21, 0, 0, 0, m_x),
  (21, .iload_n 1, 22, 0, 0, 0, m_x),
  (22, .bipush 12, 24, 0, 0, 0, m_x),
  (24, .invokestatic 18, 27, 0, 0, 0, m_Math_min),
  (27, .putfield 24, 30, 2, 0, 0, m_x),
  (30, .return_, 31, 0, 0, 0, m_x)]
theorem dc_Clues_new : ∀ E ∈ k_Clues_new, xDc m_Clues_new E := by decide +kernel
set_option maxRecDepth 20000 in
theorem ok_Clues_new : ∀ E ∈ k_Clues_new, xOk m_Clues_new E := xok_of dc_Clues_new (xfc trivial (xfc ⟨wg1 177 (by decide +kernel) rfl, wg1 26 (by decide +kernel) rfl, wg1 27 (by decide +kernel) rfl⟩ (xfc trivial (xfc trivial (xfc ⟨wg1 41 (by decide +kernel) rfl, by unfold xAty; decide⟩ (xfc ⟨fl_Clues_9, fun q h f => by cases h; exact ⟨rfl, rfl⟩⟩ (xfc trivial (xfc trivial (xfc ⟨wg1 41 (by decide +kernel) rfl, by unfold xAty; decide⟩ (xfc ⟨fl_Clues_15, fun q h f => by cases h; exact ⟨rfl, rfl⟩⟩ (xfc trivial (xfc trivial (xfc trivial (xfc ⟨ml_Clues_18, kd_Math_min⟩ (xfc ⟨fl_Clues_24, fun q h f => by cases h; exact ⟨rfl, rfl⟩⟩ (xfc trivial (xfn)))))))))))))))))
theorem s_Clues_new_0 (C : xCx) (r : List Value) (hp : xHp) (x : Nat) (a1 : Value) : (xV k_Clues_new C 0 [.ref x, a1] r hp) = (True ∧ xV k_Clues_new C 1 [.ref x, a1] (.ref x :: r) hp) := xVe _ _ _ _ _ _
theorem s_Clues_new_1 (a : Nat) (l : Launch) (d b lo gz n0 s0 : Nat) (Po : Option Value → xHp → Prop) (L r : List Value) (hp : xHp) : (xV k_Clues_new (l, d + 1, b, lo, gz, n0, s0, m_Clues_new, Po) 1 L (.ref a :: r) hp) = (xcs r 8 ∧ xV k_Clues_new (l, d + 1, b, lo, gz, n0, s0, m_Clues_new, Po) 4 L r hp) := xVe _ _ _ _ _ _
theorem s_Clues_new_4 (C : xCx) (r : List Value) (hp : xHp) (x : Nat) (a1 : Value) : (xV k_Clues_new C 4 [.ref x, a1] r hp) = (True ∧ xV k_Clues_new C 5 [.ref x, a1] (.ref x :: r) hp) := xVe _ _ _ _ _ _
theorem s_Clues_new_5  (C : xCx) (L r : List Value) (hp : xHp) : (xV k_Clues_new C 5 L (r) hp) = (xV k_Clues_new C 7 L (.int (12) :: r) hp) := xVe _ _ _ _ _ _
theorem s_Clues_new_7 (n : Int32) (l : Launch) (d b lo gz n0 s0 : Nat) (Po : Option Value → xHp → Prop) (L r : List Value) (hp : xHp) : (xV k_Clues_new (l, d, b, lo, gz, n0, s0, m_Clues_new, Po) 7 L (.int n :: r) hp) = (¬ n < 0 ∧ n.toNatClampNeg ≤ 10000 ∧ (gz = 0 ∧ hp.2.1 + 1 ≤ n0 + 2 ∧ hp.2.2 + n.toNatClampNeg ≤ s0 + 24) ∧ xV k_Clues_new (l, d, b, lo, gz, n0, s0, m_Clues_new, Po) 9 L (.ref hp.2.1 :: r) (va_up hp.1 hp.2.1 (.inl (.int, xZero .int n.toNatClampNeg)), hp.2.1 + 1, hp.2.2 + n.toNatClampNeg)) := xVe _ _ _ _ _ _
theorem s_Clues_new_9 (x a : Nat) (C : xCx) (L r : List Value) (hp : xHp) : (xV k_Clues_new C 9 L (.ref x :: .ref a :: r) hp) = (True ∧ xPf hp a 2 1 (.ref x) (fun hp' => xV k_Clues_new C 12 L r hp')) := xVe _ _ _ _ _ _
theorem s_Clues_new_12 (C : xCx) (r : List Value) (hp : xHp) (x : Nat) (a1 : Value) : (xV k_Clues_new C 12 [.ref x, a1] r hp) = (True ∧ xV k_Clues_new C 13 [.ref x, a1] (.ref x :: r) hp) := xVe _ _ _ _ _ _
theorem s_Clues_new_13  (C : xCx) (L r : List Value) (hp : xHp) : (xV k_Clues_new C 13 L (r) hp) = (xV k_Clues_new C 15 L (.int (12) :: r) hp) := xVe _ _ _ _ _ _
theorem s_Clues_new_15 (n : Int32) (l : Launch) (d b lo gz n0 s0 : Nat) (Po : Option Value → xHp → Prop) (L r : List Value) (hp : xHp) : (xV k_Clues_new (l, d, b, lo, gz, n0, s0, m_Clues_new, Po) 15 L (.int n :: r) hp) = (¬ n < 0 ∧ n.toNatClampNeg ≤ 10000 ∧ (gz = 0 ∧ hp.2.1 + 1 ≤ n0 + 2 ∧ hp.2.2 + n.toNatClampNeg ≤ s0 + 24) ∧ xV k_Clues_new (l, d, b, lo, gz, n0, s0, m_Clues_new, Po) 17 L (.ref hp.2.1 :: r) (va_up hp.1 hp.2.1 (.inl (.int, xZero .int n.toNatClampNeg)), hp.2.1 + 1, hp.2.2 + n.toNatClampNeg)) := xVe _ _ _ _ _ _
theorem s_Clues_new_17 (x a : Nat) (C : xCx) (L r : List Value) (hp : xHp) : (xV k_Clues_new C 17 L (.ref x :: .ref a :: r) hp) = (True ∧ xPf hp a 2 2 (.ref x) (fun hp' => xV k_Clues_new C 20 L r hp')) := xVe _ _ _ _ _ _
theorem s_Clues_new_20 (C : xCx) (r : List Value) (hp : xHp) (x : Nat) (a1 : Value) : (xV k_Clues_new C 20 [.ref x, a1] r hp) = (True ∧ xV k_Clues_new C 21 [.ref x, a1] (.ref x :: r) hp) := xVe _ _ _ _ _ _
theorem s_Clues_new_21 (C : xCx) (r : List Value) (hp : xHp) (x : Int32) (a0 : Value) : (xV k_Clues_new C 21 [a0, .int x] r hp) = (xV k_Clues_new C 22 [a0, .int x] (.int x :: r) hp) := xVe _ _ _ _ _ _
theorem s_Clues_new_22  (C : xCx) (L r : List Value) (hp : xHp) : (xV k_Clues_new C 22 L (r) hp) = (xV k_Clues_new C 24 L (.int (12) :: r) hp) := xVe _ _ _ _ _ _
theorem s_Clues_new_24 (x0 : Int32) (x1 : Int32) (l : Launch) (d b lo gz n0 s0 : Nat) (Po : Option Value → xHp → Prop) (L r : List Value) (hp : xHp) : (xV k_Clues_new (l, d + 1, b, lo, gz, n0, s0, m_Clues_new, Po) 24 L (.int x1 :: .int x0 :: r) hp) = (2 ≤ List.length (.int x1 :: .int x0 :: r) ∧ xcs r 8 ∧ xMi l d b lo gz m_Math_min [.int x0, .int x1] hp (fun x hp' => xV k_Clues_new (l, d + 1, b, lo, gz, n0, s0, m_Clues_new, Po) 27 L (.int x :: r) hp')) := xVe _ _ _ _ _ _
theorem s_Clues_new_27 (x : Int32) (a : Nat) (C : xCx) (L r : List Value) (hp : xHp) : (xV k_Clues_new C 27 L (.int x :: .ref a :: r) hp) = (True ∧ xPf hp a 2 0 (.int x) (fun hp' => xV k_Clues_new C 30 L r hp')) := xVe _ _ _ _ _ _
theorem s_Clues_new_30 (l : Launch) (d b lo gz n0 s0 : Nat) (Po : Option Value → xHp → Prop) (L : List Value) (hp : xHp) : (xV k_Clues_new (l, d, b, lo, gz, n0, s0, m_Clues_new, Po) 30 L [] hp) = (hp.2.1 = n0 + 2 ∧ hp.2.2 = s0 + 24 ∧ Po (none) hp) := xVe _ _ _ _ _ _
def k_Math_min : List xEC := [
  (0, .iload_n 0, 1, 0, 0, 0, m_x),
  (1, .iload_n 1, 2, 0, 0, 0, m_x),
  (2, .if_icmp .gt 7, 5, 0, 9, 0, m_x),
  (5, .iload_n 0, 6, 0, 0, 0, m_x),
  (6, .goto 4, 9, 0, 10, 0, m_x),
  (9, .iload_n 1, 10, 0, 0, 0, m_x),
  (10, .ireturn, 11, 0, 0, 0, m_x)]
theorem dc_Math_min : ∀ E ∈ k_Math_min, xDc m_Math_min E := by decide +kernel
set_option maxRecDepth 20000 in
theorem ok_Math_min : ∀ E ∈ k_Math_min, xOk m_Math_min E := xok_of dc_Math_min (xfc trivial (xfc trivial (xfc (show ((2 : Nat) : Int) + (7) = ((9 : Nat) : Int) from by decide) (xfc trivial (xfc (show ((6 : Nat) : Int) + (4) = ((10 : Nat) : Int) from by decide) (xfc trivial (xfc trivial (xfn))))))))
theorem s_Math_min_0 (C : xCx) (r : List Value) (hp : xHp) (x : Int32) (a1 : Value) : (xV k_Math_min C 0 [.int x, a1] r hp) = (xV k_Math_min C 1 [.int x, a1] (.int x :: r) hp) := xVe _ _ _ _ _ _
theorem s_Math_min_1 (C : xCx) (r : List Value) (hp : xHp) (x : Int32) (a0 : Value) : (xV k_Math_min C 1 [a0, .int x] r hp) = (xV k_Math_min C 2 [a0, .int x] (.int x :: r) hp) := xVe _ _ _ _ _ _
theorem s_Math_min_2 (x y : Int32) (C : xCx) (L r : List Value) (hp : xHp) : (xV k_Math_min C 2 L (.int y :: .int x :: r) hp) = (((y < x → xV k_Math_min C 9 L r hp) ∧ (¬ y < x → xV k_Math_min C 5 L r hp))) := xVe _ _ _ _ _ _
theorem s_Math_min_5 (C : xCx) (r : List Value) (hp : xHp) (x : Int32) (a1 : Value) : (xV k_Math_min C 5 [.int x, a1] r hp) = (xV k_Math_min C 6 [.int x, a1] (.int x :: r) hp) := xVe _ _ _ _ _ _
theorem s_Math_min_6 (C : xCx) (L r : List Value) (hp : xHp) : (xV k_Math_min C 6 L r hp) = (xV k_Math_min C 10 L r hp) := xVe _ _ _ _ _ _
theorem s_Math_min_9 (C : xCx) (r : List Value) (hp : xHp) (x : Int32) (a0 : Value) : (xV k_Math_min C 9 [a0, .int x] r hp) = (xV k_Math_min C 10 [a0, .int x] (.int x :: r) hp) := xVe _ _ _ _ _ _
theorem s_Math_min_10 (v : Int32) (l : Launch) (d b lo gz n0 s0 : Nat) (Po : Option Value → xHp → Prop) (L : List Value) (hp : xHp) : (xV k_Math_min (l, d, b, lo, gz, n0, s0, m_Math_min, Po) 10 L [.int v] hp) = (Po (some (.int v)) hp) := xVe _ _ _ _ _ _
theorem fl_Text_15 : xFl "SunnyOnes$Text" 15 10 1 := ⟨("SunnyOnes$Text", F_Text, 2), rfl, by decide, wg1 35 (by decide +kernel) rfl⟩
theorem ml_Text_30 : xLk "SunnyOnes$Text" 30 m_So_put := Or.inr ⟨"SunnyOnes", List.mem_of_getElem? (i := 5) (by decide +kernel)⟩
def k_Text_addFour : List xEC := [
  (0, .aload_n 0, 1, 0, 0, 0, m_x),
  (1, .getfield 15, 4, 10, 1, 0, m_x),
  (4, .bipush 76, 6, 0, 0, 0, m_x),
  (6, .if_icmp .le 5, 9, 0, 11, 0, m_x),
  (9, .iconst 0, 10, 0, 0, 0, m_x),
  (10, .ireturn, 11, 0, 0, 0, m_x),
  (11, .bipush 24, 13, 0, 0, 0, m_x),
  (13, .istore_n 2, 14, 0, 0, 0, m_x),
  (14, .iload_n 2, 15, 0, 0, 0, m_x),
  (15, .ifCond .lt 37, 18, 0, 52, 0, m_x),
  (18, .aload_n 0, 19, 0, 0, 0, m_x),
  (19, .getfield 11, 22, 10, 0, 0, m_x),
  (22, .aload_n 0, 23, 0, 0, 0, m_x),
  (23, .getfield 15, 26, 10, 1, 0, m_x),
  (26, .iload_n 1, 27, 0, 0, 0, m_x),
  (27, .iload_n 2, 28, 0, 0, 0, m_x),
  (28, .iushr, 29, 0, 0, 0, m_x),
  (29, .sipush 255, 32, 0, 0, 0, m_x),
  (32, .iand, 33, 0, 0, 0, m_x),
  (33, .invokestatic 30, 36, 0, 0, 0, m_So_put),
  (36, .aload_n 0, 37, 0, 0, 0, m_x),
  (37, .dup, 38, 0, 0, 0, m_x),
  (38, .getfield 15, 41, 10, 1, 0, m_x),
  (41, .iconst 1, 42, 0, 0, 0, m_x),
  (42, .iadd, 43, 0, 0, 0, m_x),
  (43, .putfield 15, 46, 10, 1, 0, m_x),
  (46, .iinc 2 (-8), 49, 0, 0, 0, m_x),
  (49, .goto (-35), 52, 0, 14, 0, m_x),
  (52, .iconst 1, 53, 0, 0, 0, m_x),
  (53, .ireturn, 54, 0, 0, 0, m_x)]
theorem dc_Text_addFour : ∀ E ∈ k_Text_addFour, xDc m_Text_addFour E := by decide +kernel
set_option maxRecDepth 20000 in
theorem ok_Text_addFour : ∀ E ∈ k_Text_addFour, xOk m_Text_addFour E := xok_of dc_Text_addFour (xfc trivial (xfc fl_Text_15 (xfc trivial (xfc (show ((6 : Nat) : Int) + (5) = ((11 : Nat) : Int) from by decide) (xfc trivial (xfc trivial (xfc trivial (xfc trivial (xfc trivial (xfc (show ((15 : Nat) : Int) + (37) = ((52 : Nat) : Int) from by decide) (xfc trivial (xfc fl_Text_11 (xfc trivial (xfc fl_Text_15 (xfc trivial (xfc trivial (xfc trivial (xfc trivial (xfc trivial (xfc ⟨ml_Text_30, kd_So_put⟩ (xfc trivial (xfc trivial (xfc fl_Text_15 (xfc trivial (xfc trivial (xfc ⟨fl_Text_15, fun q h f => by cases h; exact absurd f (by decide)⟩ (xfc trivial (xfc (show ((49 : Nat) : Int) + (-35) = ((14 : Nat) : Int) from by decide) (xfc trivial (xfc trivial (xfn)))))))))))))))))))))))))))))))
theorem s_Text_addFour_0 (C : xCx) (r : List Value) (hp : xHp) (x : Nat) (a1 a2 : Value) : (xV k_Text_addFour C 0 [.ref x, a1, a2] r hp) = (True ∧ xV k_Text_addFour C 1 [.ref x, a1, a2] (.ref x :: r) hp) := xVe _ _ _ _ _ _
theorem s_Text_addFour_1 (a : Nat) (C : xCx) (L r : List Value) (hp : xHp) : (xV k_Text_addFour C 1 L (.ref a :: r) hp) = (xF hp a 10 1 (fun v => xV k_Text_addFour C 4 L (v :: r) hp)) := xVe _ _ _ _ _ _
theorem s_Text_addFour_4  (C : xCx) (L r : List Value) (hp : xHp) : (xV k_Text_addFour C 4 L (r) hp) = (xV k_Text_addFour C 6 L (.int (76) :: r) hp) := xVe _ _ _ _ _ _
theorem s_Text_addFour_6 (x y : Int32) (C : xCx) (L r : List Value) (hp : xHp) : (xV k_Text_addFour C 6 L (.int y :: .int x :: r) hp) = (((x ≤ y → xV k_Text_addFour C 11 L r hp) ∧ (¬ x ≤ y → xV k_Text_addFour C 9 L r hp))) := xVe _ _ _ _ _ _
theorem s_Text_addFour_9  (C : xCx) (L r : List Value) (hp : xHp) : (xV k_Text_addFour C 9 L (r) hp) = (xV k_Text_addFour C 10 L (.int (0) :: r) hp) := xVe _ _ _ _ _ _
theorem s_Text_addFour_10 (v : Int32) (l : Launch) (d b lo gz n0 s0 : Nat) (Po : Option Value → xHp → Prop) (L : List Value) (hp : xHp) : (xV k_Text_addFour (l, d, b, lo, gz, n0, s0, m_Text_addFour, Po) 10 L [.int v] hp) = ((v = 0 ∨ v = 1) ∧ Po (some (.int v)) hp) := xVe _ _ _ _ _ _
theorem s_Text_addFour_11  (C : xCx) (L r : List Value) (hp : xHp) : (xV k_Text_addFour C 11 L (r) hp) = (xV k_Text_addFour C 13 L (.int (24) :: r) hp) := xVe _ _ _ _ _ _
theorem s_Text_addFour_13 (C : xCx) (r : List Value) (hp : xHp) (x : Int32) (a0 a1 a2 : Value) : (xV k_Text_addFour C 13 [a0, a1, a2] (.int x :: r) hp) = (2 < 3 ∧ xNl [a0, a1, a2] 2 ∧ xV k_Text_addFour C 14 [a0, a1, .int x] r hp) := xVe _ _ _ _ _ _
theorem s_Text_addFour_14 (C : xCx) (r : List Value) (hp : xHp) (x : Int32) (a0 a1 : Value) : (xV k_Text_addFour C 14 [a0, a1, .int x] r hp) = (xV k_Text_addFour C 15 [a0, a1, .int x] (.int x :: r) hp) := xVe _ _ _ _ _ _
theorem s_Text_addFour_15 (x : Int32) (C : xCx) (L r : List Value) (hp : xHp) : (xV k_Text_addFour C 15 L (.int x :: r) hp) = (((x < 0 → xV k_Text_addFour C 52 L r hp) ∧ (¬ x < 0 → xV k_Text_addFour C 18 L r hp))) := xVe _ _ _ _ _ _
theorem s_Text_addFour_18 (C : xCx) (r : List Value) (hp : xHp) (x : Nat) (a1 a2 : Value) : (xV k_Text_addFour C 18 [.ref x, a1, a2] r hp) = (True ∧ xV k_Text_addFour C 19 [.ref x, a1, a2] (.ref x :: r) hp) := xVe _ _ _ _ _ _
theorem s_Text_addFour_19 (a : Nat) (C : xCx) (L r : List Value) (hp : xHp) : (xV k_Text_addFour C 19 L (.ref a :: r) hp) = (xF hp a 10 0 (fun v => xV k_Text_addFour C 22 L (v :: r) hp)) := xVe _ _ _ _ _ _
theorem s_Text_addFour_22 (C : xCx) (r : List Value) (hp : xHp) (x : Nat) (a1 a2 : Value) : (xV k_Text_addFour C 22 [.ref x, a1, a2] r hp) = (True ∧ xV k_Text_addFour C 23 [.ref x, a1, a2] (.ref x :: r) hp) := xVe _ _ _ _ _ _
theorem s_Text_addFour_23 (a : Nat) (C : xCx) (L r : List Value) (hp : xHp) : (xV k_Text_addFour C 23 L (.ref a :: r) hp) = (xF hp a 10 1 (fun v => xV k_Text_addFour C 26 L (v :: r) hp)) := xVe _ _ _ _ _ _
theorem s_Text_addFour_26 (C : xCx) (r : List Value) (hp : xHp) (x : Int32) (a0 a2 : Value) : (xV k_Text_addFour C 26 [a0, .int x, a2] r hp) = (xV k_Text_addFour C 27 [a0, .int x, a2] (.int x :: r) hp) := xVe _ _ _ _ _ _
theorem s_Text_addFour_27 (C : xCx) (r : List Value) (hp : xHp) (x : Int32) (a0 a1 : Value) : (xV k_Text_addFour C 27 [a0, a1, .int x] r hp) = (xV k_Text_addFour C 28 [a0, a1, .int x] (.int x :: r) hp) := xVe _ _ _ _ _ _
theorem s_Text_addFour_28 (x y : Int32) (C : xCx) (L r : List Value) (hp : xHp) : (xV k_Text_addFour C 28 L (.int y :: .int x :: r) hp) = (xV k_Text_addFour C 29 L (.int ((x.toUInt32 >>> (y.toUInt32 &&& Int32.toUInt32 31)).toInt32) :: r) hp) := xVe _ _ _ _ _ _
theorem s_Text_addFour_29  (C : xCx) (L r : List Value) (hp : xHp) : (xV k_Text_addFour C 29 L (r) hp) = (xV k_Text_addFour C 32 L (.int (255) :: r) hp) := xVe _ _ _ _ _ _
theorem s_Text_addFour_32 (x y : Int32) (C : xCx) (L r : List Value) (hp : xHp) : (xV k_Text_addFour C 32 L (.int y :: .int x :: r) hp) = (xV k_Text_addFour C 33 L (.int (x &&& y) :: r) hp) := xVe _ _ _ _ _ _
theorem s_Text_addFour_33 (x0 : Nat) (x1 : Int32) (x2 : Int32) (l : Launch) (d b lo gz n0 s0 : Nat) (Po : Option Value → xHp → Prop) (L r : List Value) (hp : xHp) : (xV k_Text_addFour (l, d + 1, b, lo, gz, n0, s0, m_Text_addFour, Po) 33 L (.int x2 :: .int x1 :: .ref x0 :: r) hp) = (3 ≤ List.length (.int x2 :: .int x1 :: .ref x0 :: r) ∧ xcs r 8 ∧ xMv l d b lo gz m_So_put [.ref x0, .int x1, .int x2] hp (fun hp' => xV k_Text_addFour (l, d + 1, b, lo, gz, n0, s0, m_Text_addFour, Po) 36 L r hp')) := xVe _ _ _ _ _ _
theorem s_Text_addFour_36 (C : xCx) (r : List Value) (hp : xHp) (x : Nat) (a1 a2 : Value) : (xV k_Text_addFour C 36 [.ref x, a1, a2] r hp) = (True ∧ xV k_Text_addFour C 37 [.ref x, a1, a2] (.ref x :: r) hp) := xVe _ _ _ _ _ _
theorem s_Text_addFour_37 (v : Value) (C : xCx) (L r : List Value) (hp : xHp) : (xV k_Text_addFour C 37 L (v :: r) hp) = (v.category = 1 ∧ xV k_Text_addFour C 38 L (v :: v :: r) hp) := xVe _ _ _ _ _ _
theorem s_Text_addFour_38 (a : Nat) (C : xCx) (L r : List Value) (hp : xHp) : (xV k_Text_addFour C 38 L (.ref a :: r) hp) = (xF hp a 10 1 (fun v => xV k_Text_addFour C 41 L (v :: r) hp)) := xVe _ _ _ _ _ _
theorem s_Text_addFour_41  (C : xCx) (L r : List Value) (hp : xHp) : (xV k_Text_addFour C 41 L (r) hp) = (xV k_Text_addFour C 42 L (.int (1) :: r) hp) := xVe _ _ _ _ _ _
theorem s_Text_addFour_42 (x y : Int32) (C : xCx) (L r : List Value) (hp : xHp) : (xV k_Text_addFour C 42 L (.int y :: .int x :: r) hp) = (xV k_Text_addFour C 43 L (.int (x + y) :: r) hp) := xVe _ _ _ _ _ _
theorem s_Text_addFour_43 (x : Int32) (a : Nat) (C : xCx) (L r : List Value) (hp : xHp) : (xV k_Text_addFour C 43 L (.int x :: .ref a :: r) hp) = (True ∧ xPf hp a 10 1 (.int x) (fun hp' => xV k_Text_addFour C 46 L r hp')) := xVe _ _ _ _ _ _
theorem s_Text_addFour_46 (C : xCx) (r : List Value) (hp : xHp) (x : Int32) (a0 a1 : Value) : (xV k_Text_addFour C 46 [a0, a1, .int x] r hp) = (xNl [a0, a1, .int x] 2 ∧ xV k_Text_addFour C 49 [a0, a1, .int (x + (-8))] r hp) := xVe _ _ _ _ _ _
theorem s_Text_addFour_49 (C : xCx) (L r : List Value) (hp : xHp) : (xV k_Text_addFour C 49 L r hp) = (xV k_Text_addFour C 14 L r hp) := xVe _ _ _ _ _ _
theorem s_Text_addFour_52  (C : xCx) (L r : List Value) (hp : xHp) : (xV k_Text_addFour C 52 L (r) hp) = (xV k_Text_addFour C 53 L (.int (1) :: r) hp) := xVe _ _ _ _ _ _
theorem s_Text_addFour_53 (v : Int32) (l : Launch) (d b lo gz n0 s0 : Nat) (Po : Option Value → xHp → Prop) (L : List Value) (hp : xHp) : (xV k_Text_addFour (l, d, b, lo, gz, n0, s0, m_Text_addFour, Po) 53 L [.int v] hp) = ((v = 0 ∨ v = 1) ∧ Po (some (.int v)) hp) := xVe _ _ _ _ _ _
def k_Text_length : List xEC := [
  (0, .aload_n 0, 1, 0, 0, 0, m_x),
  (1, .getfield 15, 4, 10, 1, 0, m_x),
  (4, .ireturn, 5, 0, 0, 0, m_x)]
theorem dc_Text_length : ∀ E ∈ k_Text_length, xDc m_Text_length E := by decide +kernel
set_option maxRecDepth 20000 in
theorem ok_Text_length : ∀ E ∈ k_Text_length, xOk m_Text_length E := xok_of dc_Text_length (xfc trivial (xfc fl_Text_15 (xfc trivial (xfn))))
theorem s_Text_length_0 (C : xCx) (r : List Value) (hp : xHp) (x : Nat) : (xV k_Text_length C 0 [.ref x] r hp) = (True ∧ xV k_Text_length C 1 [.ref x] (.ref x :: r) hp) := xVe _ _ _ _ _ _
theorem s_Text_length_1 (a : Nat) (C : xCx) (L r : List Value) (hp : xHp) : (xV k_Text_length C 1 L (.ref a :: r) hp) = (xF hp a 10 1 (fun v => xV k_Text_length C 4 L (v :: r) hp)) := xVe _ _ _ _ _ _
theorem s_Text_length_4 (v : Int32) (l : Launch) (d b lo gz n0 s0 : Nat) (Po : Option Value → xHp → Prop) (L : List Value) (hp : xHp) : (xV k_Text_length (l, d, b, lo, gz, n0, s0, m_Text_length, Po) 4 L [.int v] hp) = (Po (some (.int v)) hp) := xVe _ _ _ _ _ _
def k_Text_cut : List xEC := [
  (0, .iload_n 1, 1, 0, 0, 0, m_x),
  (1, .ifCond .lt 11, 4, 0, 12, 0, m_x),
  (4, .iload_n 1, 5, 0, 0, 0, m_x),
  (5, .aload_n 0, 6, 0, 0, 0, m_x),
  (6, .getfield 15, 9, 10, 1, 0, m_x),
  (9, .if_icmp .le 5, 12, 0, 14, 0, m_x),
  (12, .iconst 0, 13, 0, 0, 0, m_x),
  (13, .ireturn, 14, 0, 0, 0, m_x),
  (14, .aload_n 0, 15, 0, 0, 0, m_x),
  (15, .iload_n 1, 16, 0, 0, 0, m_x),
  (16, .putfield 15, 19, 10, 1, 0, m_x),
  (19, .iconst 1, 20, 0, 0, 0, m_x),
  (20, .ireturn, 21, 0, 0, 0, m_x)]
theorem dc_Text_cut : ∀ E ∈ k_Text_cut, xDc m_Text_cut E := by decide +kernel
set_option maxRecDepth 20000 in
theorem ok_Text_cut : ∀ E ∈ k_Text_cut, xOk m_Text_cut E := xok_of dc_Text_cut (xfc trivial (xfc (show ((1 : Nat) : Int) + (11) = ((12 : Nat) : Int) from by decide) (xfc trivial (xfc trivial (xfc fl_Text_15 (xfc (show ((9 : Nat) : Int) + (5) = ((14 : Nat) : Int) from by decide) (xfc trivial (xfc trivial (xfc trivial (xfc trivial (xfc ⟨fl_Text_15, fun q h f => by cases h; exact absurd f (by decide)⟩ (xfc trivial (xfc trivial (xfn))))))))))))))
theorem s_Text_cut_0 (C : xCx) (r : List Value) (hp : xHp) (x : Int32) (a0 : Value) : (xV k_Text_cut C 0 [a0, .int x] r hp) = (xV k_Text_cut C 1 [a0, .int x] (.int x :: r) hp) := xVe _ _ _ _ _ _
theorem s_Text_cut_1 (x : Int32) (C : xCx) (L r : List Value) (hp : xHp) : (xV k_Text_cut C 1 L (.int x :: r) hp) = (((x < 0 → xV k_Text_cut C 12 L r hp) ∧ (¬ x < 0 → xV k_Text_cut C 4 L r hp))) := xVe _ _ _ _ _ _
theorem s_Text_cut_4 (C : xCx) (r : List Value) (hp : xHp) (x : Int32) (a0 : Value) : (xV k_Text_cut C 4 [a0, .int x] r hp) = (xV k_Text_cut C 5 [a0, .int x] (.int x :: r) hp) := xVe _ _ _ _ _ _
theorem s_Text_cut_5 (C : xCx) (r : List Value) (hp : xHp) (x : Nat) (a1 : Value) : (xV k_Text_cut C 5 [.ref x, a1] r hp) = (True ∧ xV k_Text_cut C 6 [.ref x, a1] (.ref x :: r) hp) := xVe _ _ _ _ _ _
theorem s_Text_cut_6 (a : Nat) (C : xCx) (L r : List Value) (hp : xHp) : (xV k_Text_cut C 6 L (.ref a :: r) hp) = (xF hp a 10 1 (fun v => xV k_Text_cut C 9 L (v :: r) hp)) := xVe _ _ _ _ _ _
theorem s_Text_cut_9 (x y : Int32) (C : xCx) (L r : List Value) (hp : xHp) : (xV k_Text_cut C 9 L (.int y :: .int x :: r) hp) = (((x ≤ y → xV k_Text_cut C 14 L r hp) ∧ (¬ x ≤ y → xV k_Text_cut C 12 L r hp))) := xVe _ _ _ _ _ _
theorem s_Text_cut_12  (C : xCx) (L r : List Value) (hp : xHp) : (xV k_Text_cut C 12 L (r) hp) = (xV k_Text_cut C 13 L (.int (0) :: r) hp) := xVe _ _ _ _ _ _
theorem s_Text_cut_13 (v : Int32) (l : Launch) (d b lo gz n0 s0 : Nat) (Po : Option Value → xHp → Prop) (L : List Value) (hp : xHp) : (xV k_Text_cut (l, d, b, lo, gz, n0, s0, m_Text_cut, Po) 13 L [.int v] hp) = ((v = 0 ∨ v = 1) ∧ Po (some (.int v)) hp) := xVe _ _ _ _ _ _
theorem s_Text_cut_14 (C : xCx) (r : List Value) (hp : xHp) (x : Nat) (a1 : Value) : (xV k_Text_cut C 14 [.ref x, a1] r hp) = (True ∧ xV k_Text_cut C 15 [.ref x, a1] (.ref x :: r) hp) := xVe _ _ _ _ _ _
theorem s_Text_cut_15 (C : xCx) (r : List Value) (hp : xHp) (x : Int32) (a0 : Value) : (xV k_Text_cut C 15 [a0, .int x] r hp) = (xV k_Text_cut C 16 [a0, .int x] (.int x :: r) hp) := xVe _ _ _ _ _ _
theorem s_Text_cut_16 (x : Int32) (a : Nat) (C : xCx) (L r : List Value) (hp : xHp) : (xV k_Text_cut C 16 L (.int x :: .ref a :: r) hp) = (True ∧ xPf hp a 10 1 (.int x) (fun hp' => xV k_Text_cut C 19 L r hp')) := xVe _ _ _ _ _ _
theorem s_Text_cut_19  (C : xCx) (L r : List Value) (hp : xHp) : (xV k_Text_cut C 19 L (r) hp) = (xV k_Text_cut C 20 L (.int (1) :: r) hp) := xVe _ _ _ _ _ _
theorem s_Text_cut_20 (v : Int32) (l : Launch) (d b lo gz n0 s0 : Nat) (Po : Option Value → xHp → Prop) (L : List Value) (hp : xHp) : (xV k_Text_cut (l, d, b, lo, gz, n0, s0, m_Text_cut, Po) 20 L [.int v] hp) = ((v = 0 ∨ v = 1) ∧ Po (some (.int v)) hp) := xVe _ _ _ _ _ _
theorem fl_Land_26 : xFl "SunnyOnes$Land" 26 4 2 := ⟨("SunnyOnes$Land", F_Land, 4), rfl, by decide, wg1 67 (by decide +kernel) rfl⟩
def k_Land_size : List xEC := [
  (0, .aload_n 0, 1, 0, 0, 0, m_x),
  (1, .getfield 26, 4, 4, 2, 0, m_x),
  (4, .ireturn, 5, 0, 0, 0, m_x)]
theorem dc_Land_size : ∀ E ∈ k_Land_size, xDc m_Land_size E := by decide +kernel
set_option maxRecDepth 20000 in
theorem ok_Land_size : ∀ E ∈ k_Land_size, xOk m_Land_size E := xok_of dc_Land_size (xfc trivial (xfc fl_Land_26 (xfc trivial (xfn))))
theorem s_Land_size_0 (C : xCx) (r : List Value) (hp : xHp) (x : Nat) : (xV k_Land_size C 0 [.ref x] r hp) = (True ∧ xV k_Land_size C 1 [.ref x] (.ref x :: r) hp) := xVe _ _ _ _ _ _
theorem s_Land_size_1 (a : Nat) (C : xCx) (L r : List Value) (hp : xHp) : (xV k_Land_size C 1 L (.ref a :: r) hp) = (xF hp a 4 2 (fun v => xV k_Land_size C 4 L (v :: r) hp)) := xVe _ _ _ _ _ _
theorem s_Land_size_4 (v : Int32) (l : Launch) (d b lo gz n0 s0 : Nat) (Po : Option Value → xHp → Prop) (L : List Value) (hp : xHp) : (xV k_Land_size (l, d, b, lo, gz, n0, s0, m_Land_size, Po) 4 L [.int v] hp) = (Po (some (.int v)) hp) := xVe _ _ _ _ _ _
theorem ml_Text_19 : xLk "SunnyOnes$Text" 19 m_Text_at := Or.inl (wg2 129 (by decide +kernel) rfl)
theorem ml_Text_23 : xLk "SunnyOnes$Text" 23 m_Text_isDigit := Or.inl (wg2 133 (by decide +kernel) rfl)
theorem ml_Text_27 : xLk "SunnyOnes$Text" 27 m_Text_digit := Or.inl (wg2 136 (by decide +kernel) rfl)
def k_Text_badLine : List xEC := [
  (0, .iload_n 2, 1, 0, 0, 0, m_x),
  (1, .iload_n 1, 2, 0, 0, 0, m_x),
  (2, .iconst 1, 3, 0, 0, 0, m_x),
  (3, .iadd, 4, 0, 0, 0, m_x),
  (4, .imul, 5, 0, 0, 0, m_x),
  (5, .iconst 1, 6, 0, 0, 0, m_x),
  (6, .isub, 7, 0, 0, 0, m_x),
  (7, .istore 5, 9, 0, 0, 0, m_x),
  (9, .iload_n 3, 10, 0, 0, 0, m_x),
  (10, .istore 6, 12, 0, 0, 0, m_x),
  (12, .iconst 0, 13, 0, 0, 0, m_x),
  (13, .istore 7, 15, 0, 0, 0, m_x),
  (15, .iconst 0, 16, 0, 0, 0, m_x),
  (16, .istore 8, 18, 0, 0, 0, m_x),
  (18, .iload 8, 20, 0, 0, 0, m_x),
  (20, .aload_n 0, 21, 0, 0, 0, m_x),
  (21, .getfield 15, 24, 10, 1, 0, m_x),
  (24, .if_icmp .ge 94, 27, 0, 118, 0, m_x),
  (27, .iload 8, 29, 0, 0, 0, m_x),
  (29, .iload 5, 31, 0, 0, 0, m_x),
  (31, .if_icmp .ge 14, 34, 0, 45, 0, m_x),
  (34, .iload 7, 36, 0, 0, 0, m_x),
  (36, .ifCond .ne 12, 39, 0, 48, 0, m_x),
  (39, .iload 6, 41, 0, 0, 0, m_x),
  (41, .iload_n 2, 42, 0, 0, 0, m_x),
  (42, .if_icmp .lt 6, 45, 0, 48, 0, m_x),
  (45, .iload 8, 47, 0, 0, 0, m_x),
  (47, .ireturn, 48, 0, 0, 0, m_x),
  (48, .iload 7, 50, 0, 0, 0, m_x),
  (50, .iload_n 1, 51, 0, 0, 0, m_x),
  (51, .if_icmp .ne 26, 54, 0, 77, 0, m_x),
  (54, .aload_n 0, 55, 0, 0, 0, m_x),
  (55, .iload 8, 57, 0, 0, 0, m_x),
  (57, .invokevirtual 19, 60, 10, 0, 0, m_Text_at),
  (60, .bipush 59, 62, 0, 0, 0, m_x),
  (62, .if_icmp .eq 6, 65, 0, 68, 0, m_x),
  (65, .iload 8, 67, 0, 0, 0, m_x),
  (67, .ireturn, 68, 0, 0, 0, m_x),
  (68, .iconst 0, 69, 0, 0, 0, m_x),
  (69, .istore 7, 71, 0, 0, 0, m_x),
  (71, .iinc 6 1, 74, 0, 0, 0, m_x),
  (74, .goto 38, 77, 0, 112, 0, m_x),
  (77, .iinc 7 1, 80, 0, 0, 0, m_x),
  (80, .aload_n 0, 81, 0, 0, 0, m_x),
  (81, .iload 8, 83, 0, 0, 0, m_x),
  (83, .invokevirtual 19, 86, 10, 0, 0, m_Text_at),
  (86, .invokestatic 23, 89, 0, 0, 0, m_Text_isDigit),
  (89, .ifCond .eq 20, 92, 0, 109, 0, m_x),
  (92, .iload 7, 94, 0, 0, 0, m_x),
  (94, .iload_n 1, 95, 0, 0, 0, m_x),
  (95, .if_icmp .ne 17, 98, 0, 112, 0, m_x),
  (98, .aload_n 0, 99, 0, 0, 0, m_x),
  (99, .iload 8, 101, 0, 0, 0, m_x),
  (101, .invokevirtual 27, 104, 10, 0, 0, m_Text_digit),
  (104, .iload 4, 106, 0, 0, 0, m_x),
  (106, .if_icmp .lt 6, 109, 0, 112, 0, m_x),
  (109, .iload 8, 111, 0, 0, 0, m_x),
  (111, .ireturn, 112, 0, 0, 0, m_x),
  (112, .iinc 8 1, 115, 0, 0, 0, m_x),
  (115, .goto (-97), 118, 0, 18, 0, m_x),
  (118, .aload_n 0, 119, 0, 0, 0, m_x),
  (119, .getfield 15, 122, 10, 1, 0, m_x),
  (122, .ifCond .eq 9, 125, 0, 131, 0, m_x),
  (125, .iload 7, 127, 0, 0, 0, m_x),
  (127, .iload_n 1, 128, 0, 0, 0, m_x),
  (128, .if_icmp .ne 7, 131, 0, 135, 0, m_x),
  (131, .iconst (-1), 132, 0, 0, 0, m_x),
  (132, .goto 7, 135, 0, 139, 0, m_x),
  (135, .aload_n 0, 136, 0, 0, 0, m_x),
  (136, .getfield 15, 139, 10, 1, 0, m_x),
  (139, .ireturn, 140, 0, 0, 0, m_x)]
theorem dc_Text_badLine : ∀ E ∈ k_Text_badLine, xDc m_Text_badLine E := by decide +kernel
set_option maxRecDepth 20000 in
theorem ok_Text_badLine : ∀ E ∈ k_Text_badLine, xOk m_Text_badLine E := xok_of dc_Text_badLine (xfc trivial (xfc trivial (xfc trivial (xfc trivial (xfc trivial (xfc trivial (xfc trivial (xfc trivial (xfc trivial (xfc trivial (xfc trivial (xfc trivial (xfc trivial (xfc trivial (xfc trivial (xfc trivial (xfc fl_Text_15 (xfc (show ((24 : Nat) : Int) + (94) = ((118 : Nat) : Int) from by decide) (xfc trivial (xfc trivial (xfc (show ((31 : Nat) : Int) + (14) = ((45 : Nat) : Int) from by decide) (xfc trivial (xfc (show ((36 : Nat) : Int) + (12) = ((48 : Nat) : Int) from by decide) (xfc trivial (xfc trivial (xfc (show ((42 : Nat) : Int) + (6) = ((48 : Nat) : Int) from by decide) (xfc trivial (xfc trivial (xfc trivial (xfc trivial (xfc (show ((51 : Nat) : Int) + (26) = ((77 : Nat) : Int) from by decide) (xfc trivial (xfc trivial (xfc ⟨ml_Text_19, kd_Text_at⟩ (xfc trivial (xfc (show ((62 : Nat) : Int) + (6) = ((68 : Nat) : Int) from by decide) (xfc trivial (xfc trivial (xfc trivial (xfc trivial (xfc trivial (xfc (show ((74 : Nat) : Int) + (38) = ((112 : Nat) : Int) from by decide) (xfc trivial (xfc trivial (xfc trivial (xfc ⟨ml_Text_19, kd_Text_at⟩ (xfc ⟨ml_Text_23, kd_Text_isDigit⟩ (xfc (show ((89 : Nat) : Int) + (20) = ((109 : Nat) : Int) from by decide) (xfc trivial (xfc trivial (xfc (show ((95 : Nat) : Int) + (17) = ((112 : Nat) : Int) from by decide) (xfc trivial (xfc trivial (xfc ⟨ml_Text_27, kd_Text_digit⟩ (xfc trivial (xfc (show ((106 : Nat) : Int) + (6) = ((112 : Nat) : Int) from by decide) (xfc trivial (xfc trivial (xfc trivial (xfc (show ((115 : Nat) : Int) + (-97) = ((18 : Nat) : Int) from by decide) (xfc trivial (xfc fl_Text_15 (xfc (show ((122 : Nat) : Int) + (9) = ((131 : Nat) : Int) from by decide) (xfc trivial (xfc trivial (xfc (show ((128 : Nat) : Int) + (7) = ((135 : Nat) : Int) from by decide) (xfc trivial (xfc (show ((132 : Nat) : Int) + (7) = ((139 : Nat) : Int) from by decide) (xfc trivial (xfc fl_Text_15 (xfc trivial (xfn))))))))))))))))))))))))))))))))))))))))))))))))))))))))))))))))))))))))
theorem s_Text_badLine_0 (C : xCx) (r : List Value) (hp : xHp) (x : Int32) (a0 a1 a3 a4 a5 a6 a7 a8 : Value) : (xV k_Text_badLine C 0 [a0, a1, .int x, a3, a4, a5, a6, a7, a8] r hp) = (xV k_Text_badLine C 1 [a0, a1, .int x, a3, a4, a5, a6, a7, a8] (.int x :: r) hp) := xVe _ _ _ _ _ _
theorem s_Text_badLine_1 (C : xCx) (r : List Value) (hp : xHp) (x : Int32) (a0 a2 a3 a4 a5 a6 a7 a8 : Value) : (xV k_Text_badLine C 1 [a0, .int x, a2, a3, a4, a5, a6, a7, a8] r hp) = (xV k_Text_badLine C 2 [a0, .int x, a2, a3, a4, a5, a6, a7, a8] (.int x :: r) hp) := xVe _ _ _ _ _ _
theorem s_Text_badLine_2  (C : xCx) (L r : List Value) (hp : xHp) : (xV k_Text_badLine C 2 L (r) hp) = (xV k_Text_badLine C 3 L (.int (1) :: r) hp) := xVe _ _ _ _ _ _
theorem s_Text_badLine_3 (x y : Int32) (C : xCx) (L r : List Value) (hp : xHp) : (xV k_Text_badLine C 3 L (.int y :: .int x :: r) hp) = (xV k_Text_badLine C 4 L (.int (x + y) :: r) hp) := xVe _ _ _ _ _ _
theorem s_Text_badLine_4 (x y : Int32) (C : xCx) (L r : List Value) (hp : xHp) : (xV k_Text_badLine C 4 L (.int y :: .int x :: r) hp) = (xV k_Text_badLine C 5 L (.int (x * y) :: r) hp) := xVe _ _ _ _ _ _
theorem s_Text_badLine_5  (C : xCx) (L r : List Value) (hp : xHp) : (xV k_Text_badLine C 5 L (r) hp) = (xV k_Text_badLine C 6 L (.int (1) :: r) hp) := xVe _ _ _ _ _ _
theorem s_Text_badLine_6 (x y : Int32) (C : xCx) (L r : List Value) (hp : xHp) : (xV k_Text_badLine C 6 L (.int y :: .int x :: r) hp) = (xV k_Text_badLine C 7 L (.int (x - y) :: r) hp) := xVe _ _ _ _ _ _
theorem s_Text_badLine_7 (C : xCx) (r : List Value) (hp : xHp) (x : Int32) (a0 a1 a2 a3 a4 a5 a6 a7 a8 : Value) : (xV k_Text_badLine C 7 [a0, a1, a2, a3, a4, a5, a6, a7, a8] (.int x :: r) hp) = (5 < 9 ∧ xNl [a0, a1, a2, a3, a4, a5, a6, a7, a8] 5 ∧ xV k_Text_badLine C 9 [a0, a1, a2, a3, a4, .int x, a6, a7, a8] r hp) := xVe _ _ _ _ _ _
theorem s_Text_badLine_9 (C : xCx) (r : List Value) (hp : xHp) (x : Int32) (a0 a1 a2 a4 a5 a6 a7 a8 : Value) : (xV k_Text_badLine C 9 [a0, a1, a2, .int x, a4, a5, a6, a7, a8] r hp) = (xV k_Text_badLine C 10 [a0, a1, a2, .int x, a4, a5, a6, a7, a8] (.int x :: r) hp) := xVe _ _ _ _ _ _
theorem s_Text_badLine_10 (C : xCx) (r : List Value) (hp : xHp) (x : Int32) (a0 a1 a2 a3 a4 a5 a6 a7 a8 : Value) : (xV k_Text_badLine C 10 [a0, a1, a2, a3, a4, a5, a6, a7, a8] (.int x :: r) hp) = (6 < 9 ∧ xNl [a0, a1, a2, a3, a4, a5, a6, a7, a8] 6 ∧ xV k_Text_badLine C 12 [a0, a1, a2, a3, a4, a5, .int x, a7, a8] r hp) := xVe _ _ _ _ _ _
theorem s_Text_badLine_12  (C : xCx) (L r : List Value) (hp : xHp) : (xV k_Text_badLine C 12 L (r) hp) = (xV k_Text_badLine C 13 L (.int (0) :: r) hp) := xVe _ _ _ _ _ _
theorem s_Text_badLine_13 (C : xCx) (r : List Value) (hp : xHp) (x : Int32) (a0 a1 a2 a3 a4 a5 a6 a7 a8 : Value) : (xV k_Text_badLine C 13 [a0, a1, a2, a3, a4, a5, a6, a7, a8] (.int x :: r) hp) = (7 < 9 ∧ xNl [a0, a1, a2, a3, a4, a5, a6, a7, a8] 7 ∧ xV k_Text_badLine C 15 [a0, a1, a2, a3, a4, a5, a6, .int x, a8] r hp) := xVe _ _ _ _ _ _
theorem s_Text_badLine_15  (C : xCx) (L r : List Value) (hp : xHp) : (xV k_Text_badLine C 15 L (r) hp) = (xV k_Text_badLine C 16 L (.int (0) :: r) hp) := xVe _ _ _ _ _ _
theorem s_Text_badLine_16 (C : xCx) (r : List Value) (hp : xHp) (x : Int32) (a0 a1 a2 a3 a4 a5 a6 a7 a8 : Value) : (xV k_Text_badLine C 16 [a0, a1, a2, a3, a4, a5, a6, a7, a8] (.int x :: r) hp) = (8 < 9 ∧ xNl [a0, a1, a2, a3, a4, a5, a6, a7, a8] 8 ∧ xV k_Text_badLine C 18 [a0, a1, a2, a3, a4, a5, a6, a7, .int x] r hp) := xVe _ _ _ _ _ _
theorem s_Text_badLine_18 (C : xCx) (r : List Value) (hp : xHp) (x : Int32) (a0 a1 a2 a3 a4 a5 a6 a7 : Value) : (xV k_Text_badLine C 18 [a0, a1, a2, a3, a4, a5, a6, a7, .int x] r hp) = (xV k_Text_badLine C 20 [a0, a1, a2, a3, a4, a5, a6, a7, .int x] (.int x :: r) hp) := xVe _ _ _ _ _ _
theorem s_Text_badLine_20 (C : xCx) (r : List Value) (hp : xHp) (x : Nat) (a1 a2 a3 a4 a5 a6 a7 a8 : Value) : (xV k_Text_badLine C 20 [.ref x, a1, a2, a3, a4, a5, a6, a7, a8] r hp) = (True ∧ xV k_Text_badLine C 21 [.ref x, a1, a2, a3, a4, a5, a6, a7, a8] (.ref x :: r) hp) := xVe _ _ _ _ _ _
theorem s_Text_badLine_21 (a : Nat) (C : xCx) (L r : List Value) (hp : xHp) : (xV k_Text_badLine C 21 L (.ref a :: r) hp) = (xF hp a 10 1 (fun v => xV k_Text_badLine C 24 L (v :: r) hp)) := xVe _ _ _ _ _ _
theorem s_Text_badLine_24 (x y : Int32) (C : xCx) (L r : List Value) (hp : xHp) : (xV k_Text_badLine C 24 L (.int y :: .int x :: r) hp) = (((y ≤ x → xV k_Text_badLine C 118 L r hp) ∧ (¬ y ≤ x → xV k_Text_badLine C 27 L r hp))) := xVe _ _ _ _ _ _
theorem s_Text_badLine_27 (C : xCx) (r : List Value) (hp : xHp) (x : Int32) (a0 a1 a2 a3 a4 a5 a6 a7 : Value) : (xV k_Text_badLine C 27 [a0, a1, a2, a3, a4, a5, a6, a7, .int x] r hp) = (xV k_Text_badLine C 29 [a0, a1, a2, a3, a4, a5, a6, a7, .int x] (.int x :: r) hp) := xVe _ _ _ _ _ _
theorem s_Text_badLine_29 (C : xCx) (r : List Value) (hp : xHp) (x : Int32) (a0 a1 a2 a3 a4 a6 a7 a8 : Value) : (xV k_Text_badLine C 29 [a0, a1, a2, a3, a4, .int x, a6, a7, a8] r hp) = (xV k_Text_badLine C 31 [a0, a1, a2, a3, a4, .int x, a6, a7, a8] (.int x :: r) hp) := xVe _ _ _ _ _ _
theorem s_Text_badLine_31 (x y : Int32) (C : xCx) (L r : List Value) (hp : xHp) : (xV k_Text_badLine C 31 L (.int y :: .int x :: r) hp) = (((y ≤ x → xV k_Text_badLine C 45 L r hp) ∧ (¬ y ≤ x → xV k_Text_badLine C 34 L r hp))) := xVe _ _ _ _ _ _
theorem s_Text_badLine_34 (C : xCx) (r : List Value) (hp : xHp) (x : Int32) (a0 a1 a2 a3 a4 a5 a6 a8 : Value) : (xV k_Text_badLine C 34 [a0, a1, a2, a3, a4, a5, a6, .int x, a8] r hp) = (xV k_Text_badLine C 36 [a0, a1, a2, a3, a4, a5, a6, .int x, a8] (.int x :: r) hp) := xVe _ _ _ _ _ _
theorem s_Text_badLine_36 (x : Int32) (C : xCx) (L r : List Value) (hp : xHp) : (xV k_Text_badLine C 36 L (.int x :: r) hp) = (((¬ x = 0 → xV k_Text_badLine C 48 L r hp) ∧ (x = 0 → xV k_Text_badLine C 39 L r hp))) := xVe _ _ _ _ _ _
theorem s_Text_badLine_39 (C : xCx) (r : List Value) (hp : xHp) (x : Int32) (a0 a1 a2 a3 a4 a5 a7 a8 : Value) : (xV k_Text_badLine C 39 [a0, a1, a2, a3, a4, a5, .int x, a7, a8] r hp) = (xV k_Text_badLine C 41 [a0, a1, a2, a3, a4, a5, .int x, a7, a8] (.int x :: r) hp) := xVe _ _ _ _ _ _
theorem s_Text_badLine_41 (C : xCx) (r : List Value) (hp : xHp) (x : Int32) (a0 a1 a3 a4 a5 a6 a7 a8 : Value) : (xV k_Text_badLine C 41 [a0, a1, .int x, a3, a4, a5, a6, a7, a8] r hp) = (xV k_Text_badLine C 42 [a0, a1, .int x, a3, a4, a5, a6, a7, a8] (.int x :: r) hp) := xVe _ _ _ _ _ _
theorem s_Text_badLine_42 (x y : Int32) (C : xCx) (L r : List Value) (hp : xHp) : (xV k_Text_badLine C 42 L (.int y :: .int x :: r) hp) = (((x < y → xV k_Text_badLine C 48 L r hp) ∧ (¬ x < y → xV k_Text_badLine C 45 L r hp))) := xVe _ _ _ _ _ _
theorem s_Text_badLine_45 (C : xCx) (r : List Value) (hp : xHp) (x : Int32) (a0 a1 a2 a3 a4 a5 a6 a7 : Value) : (xV k_Text_badLine C 45 [a0, a1, a2, a3, a4, a5, a6, a7, .int x] r hp) = (xV k_Text_badLine C 47 [a0, a1, a2, a3, a4, a5, a6, a7, .int x] (.int x :: r) hp) := xVe _ _ _ _ _ _
theorem s_Text_badLine_47 (v : Int32) (l : Launch) (d b lo gz n0 s0 : Nat) (Po : Option Value → xHp → Prop) (L : List Value) (hp : xHp) : (xV k_Text_badLine (l, d, b, lo, gz, n0, s0, m_Text_badLine, Po) 47 L [.int v] hp) = (Po (some (.int v)) hp) := xVe _ _ _ _ _ _
theorem s_Text_badLine_48 (C : xCx) (r : List Value) (hp : xHp) (x : Int32) (a0 a1 a2 a3 a4 a5 a6 a8 : Value) : (xV k_Text_badLine C 48 [a0, a1, a2, a3, a4, a5, a6, .int x, a8] r hp) = (xV k_Text_badLine C 50 [a0, a1, a2, a3, a4, a5, a6, .int x, a8] (.int x :: r) hp) := xVe _ _ _ _ _ _
theorem s_Text_badLine_50 (C : xCx) (r : List Value) (hp : xHp) (x : Int32) (a0 a2 a3 a4 a5 a6 a7 a8 : Value) : (xV k_Text_badLine C 50 [a0, .int x, a2, a3, a4, a5, a6, a7, a8] r hp) = (xV k_Text_badLine C 51 [a0, .int x, a2, a3, a4, a5, a6, a7, a8] (.int x :: r) hp) := xVe _ _ _ _ _ _
theorem s_Text_badLine_51 (x y : Int32) (C : xCx) (L r : List Value) (hp : xHp) : (xV k_Text_badLine C 51 L (.int y :: .int x :: r) hp) = (((¬ x = y → xV k_Text_badLine C 77 L r hp) ∧ (x = y → xV k_Text_badLine C 54 L r hp))) := xVe _ _ _ _ _ _
theorem s_Text_badLine_54 (C : xCx) (r : List Value) (hp : xHp) (x : Nat) (a1 a2 a3 a4 a5 a6 a7 a8 : Value) : (xV k_Text_badLine C 54 [.ref x, a1, a2, a3, a4, a5, a6, a7, a8] r hp) = (True ∧ xV k_Text_badLine C 55 [.ref x, a1, a2, a3, a4, a5, a6, a7, a8] (.ref x :: r) hp) := xVe _ _ _ _ _ _
theorem s_Text_badLine_55 (C : xCx) (r : List Value) (hp : xHp) (x : Int32) (a0 a1 a2 a3 a4 a5 a6 a7 : Value) : (xV k_Text_badLine C 55 [a0, a1, a2, a3, a4, a5, a6, a7, .int x] r hp) = (xV k_Text_badLine C 57 [a0, a1, a2, a3, a4, a5, a6, a7, .int x] (.int x :: r) hp) := xVe _ _ _ _ _ _
theorem s_Text_badLine_57 (x0 : Int32) (a : Nat) (l : Launch) (d b lo gz n0 s0 : Nat) (Po : Option Value → xHp → Prop) (L r : List Value) (hp : xHp) : (xV k_Text_badLine (l, d + 1, b, lo, gz, n0, s0, m_Text_badLine, Po) 57 L (.int x0 :: .ref a :: r) hp) = (xO hp a 10 ∧ xcs r 8 ∧ xMi l d b lo gz m_Text_at [.ref a, .int x0] hp (fun x hp' => xV k_Text_badLine (l, d + 1, b, lo, gz, n0, s0, m_Text_badLine, Po) 60 L (.int x :: r) hp')) := xVe _ _ _ _ _ _
theorem s_Text_badLine_60  (C : xCx) (L r : List Value) (hp : xHp) : (xV k_Text_badLine C 60 L (r) hp) = (xV k_Text_badLine C 62 L (.int (59) :: r) hp) := xVe _ _ _ _ _ _
theorem s_Text_badLine_62 (x y : Int32) (C : xCx) (L r : List Value) (hp : xHp) : (xV k_Text_badLine C 62 L (.int y :: .int x :: r) hp) = (((x = y → xV k_Text_badLine C 68 L r hp) ∧ (¬ x = y → xV k_Text_badLine C 65 L r hp))) := xVe _ _ _ _ _ _
theorem s_Text_badLine_65 (C : xCx) (r : List Value) (hp : xHp) (x : Int32) (a0 a1 a2 a3 a4 a5 a6 a7 : Value) : (xV k_Text_badLine C 65 [a0, a1, a2, a3, a4, a5, a6, a7, .int x] r hp) = (xV k_Text_badLine C 67 [a0, a1, a2, a3, a4, a5, a6, a7, .int x] (.int x :: r) hp) := xVe _ _ _ _ _ _
theorem s_Text_badLine_67 (v : Int32) (l : Launch) (d b lo gz n0 s0 : Nat) (Po : Option Value → xHp → Prop) (L : List Value) (hp : xHp) : (xV k_Text_badLine (l, d, b, lo, gz, n0, s0, m_Text_badLine, Po) 67 L [.int v] hp) = (Po (some (.int v)) hp) := xVe _ _ _ _ _ _
theorem s_Text_badLine_68  (C : xCx) (L r : List Value) (hp : xHp) : (xV k_Text_badLine C 68 L (r) hp) = (xV k_Text_badLine C 69 L (.int (0) :: r) hp) := xVe _ _ _ _ _ _
theorem s_Text_badLine_69 (C : xCx) (r : List Value) (hp : xHp) (x : Int32) (a0 a1 a2 a3 a4 a5 a6 a7 a8 : Value) : (xV k_Text_badLine C 69 [a0, a1, a2, a3, a4, a5, a6, a7, a8] (.int x :: r) hp) = (7 < 9 ∧ xNl [a0, a1, a2, a3, a4, a5, a6, a7, a8] 7 ∧ xV k_Text_badLine C 71 [a0, a1, a2, a3, a4, a5, a6, .int x, a8] r hp) := xVe _ _ _ _ _ _
theorem s_Text_badLine_71 (C : xCx) (r : List Value) (hp : xHp) (x : Int32) (a0 a1 a2 a3 a4 a5 a7 a8 : Value) : (xV k_Text_badLine C 71 [a0, a1, a2, a3, a4, a5, .int x, a7, a8] r hp) = (xNl [a0, a1, a2, a3, a4, a5, .int x, a7, a8] 6 ∧ xV k_Text_badLine C 74 [a0, a1, a2, a3, a4, a5, .int (x + (1)), a7, a8] r hp) := xVe _ _ _ _ _ _
theorem s_Text_badLine_74 (C : xCx) (L r : List Value) (hp : xHp) : (xV k_Text_badLine C 74 L r hp) = (xV k_Text_badLine C 112 L r hp) := xVe _ _ _ _ _ _
theorem s_Text_badLine_77 (C : xCx) (r : List Value) (hp : xHp) (x : Int32) (a0 a1 a2 a3 a4 a5 a6 a8 : Value) : (xV k_Text_badLine C 77 [a0, a1, a2, a3, a4, a5, a6, .int x, a8] r hp) = (xNl [a0, a1, a2, a3, a4, a5, a6, .int x, a8] 7 ∧ xV k_Text_badLine C 80 [a0, a1, a2, a3, a4, a5, a6, .int (x + (1)), a8] r hp) := xVe _ _ _ _ _ _
theorem s_Text_badLine_80 (C : xCx) (r : List Value) (hp : xHp) (x : Nat) (a1 a2 a3 a4 a5 a6 a7 a8 : Value) : (xV k_Text_badLine C 80 [.ref x, a1, a2, a3, a4, a5, a6, a7, a8] r hp) = (True ∧ xV k_Text_badLine C 81 [.ref x, a1, a2, a3, a4, a5, a6, a7, a8] (.ref x :: r) hp) := xVe _ _ _ _ _ _
theorem s_Text_badLine_81 (C : xCx) (r : List Value) (hp : xHp) (x : Int32) (a0 a1 a2 a3 a4 a5 a6 a7 : Value) : (xV k_Text_badLine C 81 [a0, a1, a2, a3, a4, a5, a6, a7, .int x] r hp) = (xV k_Text_badLine C 83 [a0, a1, a2, a3, a4, a5, a6, a7, .int x] (.int x :: r) hp) := xVe _ _ _ _ _ _
theorem s_Text_badLine_83 (x0 : Int32) (a : Nat) (l : Launch) (d b lo gz n0 s0 : Nat) (Po : Option Value → xHp → Prop) (L r : List Value) (hp : xHp) : (xV k_Text_badLine (l, d + 1, b, lo, gz, n0, s0, m_Text_badLine, Po) 83 L (.int x0 :: .ref a :: r) hp) = (xO hp a 10 ∧ xcs r 8 ∧ xMi l d b lo gz m_Text_at [.ref a, .int x0] hp (fun x hp' => xV k_Text_badLine (l, d + 1, b, lo, gz, n0, s0, m_Text_badLine, Po) 86 L (.int x :: r) hp')) := xVe _ _ _ _ _ _
theorem s_Text_badLine_86 (x0 : Int32) (l : Launch) (d b lo gz n0 s0 : Nat) (Po : Option Value → xHp → Prop) (L r : List Value) (hp : xHp) : (xV k_Text_badLine (l, d + 1, b, lo, gz, n0, s0, m_Text_badLine, Po) 86 L (.int x0 :: r) hp) = (1 ≤ List.length (.int x0 :: r) ∧ xcs r 8 ∧ xMi l d b lo gz m_Text_isDigit [.int x0] hp (fun x hp' => xV k_Text_badLine (l, d + 1, b, lo, gz, n0, s0, m_Text_badLine, Po) 89 L (.int x :: r) hp')) := xVe _ _ _ _ _ _
theorem s_Text_badLine_89 (x : Int32) (C : xCx) (L r : List Value) (hp : xHp) : (xV k_Text_badLine C 89 L (.int x :: r) hp) = (((x = 0 → xV k_Text_badLine C 109 L r hp) ∧ (¬ x = 0 → xV k_Text_badLine C 92 L r hp))) := xVe _ _ _ _ _ _
theorem s_Text_badLine_92 (C : xCx) (r : List Value) (hp : xHp) (x : Int32) (a0 a1 a2 a3 a4 a5 a6 a8 : Value) : (xV k_Text_badLine C 92 [a0, a1, a2, a3, a4, a5, a6, .int x, a8] r hp) = (xV k_Text_badLine C 94 [a0, a1, a2, a3, a4, a5, a6, .int x, a8] (.int x :: r) hp) := xVe _ _ _ _ _ _
theorem s_Text_badLine_94 (C : xCx) (r : List Value) (hp : xHp) (x : Int32) (a0 a2 a3 a4 a5 a6 a7 a8 : Value) : (xV k_Text_badLine C 94 [a0, .int x, a2, a3, a4, a5, a6, a7, a8] r hp) = (xV k_Text_badLine C 95 [a0, .int x, a2, a3, a4, a5, a6, a7, a8] (.int x :: r) hp) := xVe _ _ _ _ _ _
theorem s_Text_badLine_95 (x y : Int32) (C : xCx) (L r : List Value) (hp : xHp) : (xV k_Text_badLine C 95 L (.int y :: .int x :: r) hp) = (((¬ x = y → xV k_Text_badLine C 112 L r hp) ∧ (x = y → xV k_Text_badLine C 98 L r hp))) := xVe _ _ _ _ _ _
theorem s_Text_badLine_98 (C : xCx) (r : List Value) (hp : xHp) (x : Nat) (a1 a2 a3 a4 a5 a6 a7 a8 : Value) : (xV k_Text_badLine C 98 [.ref x, a1, a2, a3, a4, a5, a6, a7, a8] r hp) = (True ∧ xV k_Text_badLine C 99 [.ref x, a1, a2, a3, a4, a5, a6, a7, a8] (.ref x :: r) hp) := xVe _ _ _ _ _ _
theorem s_Text_badLine_99 (C : xCx) (r : List Value) (hp : xHp) (x : Int32) (a0 a1 a2 a3 a4 a5 a6 a7 : Value) : (xV k_Text_badLine C 99 [a0, a1, a2, a3, a4, a5, a6, a7, .int x] r hp) = (xV k_Text_badLine C 101 [a0, a1, a2, a3, a4, a5, a6, a7, .int x] (.int x :: r) hp) := xVe _ _ _ _ _ _
theorem s_Text_badLine_101 (x0 : Int32) (a : Nat) (l : Launch) (d b lo gz n0 s0 : Nat) (Po : Option Value → xHp → Prop) (L r : List Value) (hp : xHp) : (xV k_Text_badLine (l, d + 1, b, lo, gz, n0, s0, m_Text_badLine, Po) 101 L (.int x0 :: .ref a :: r) hp) = (xO hp a 10 ∧ xcs r 8 ∧ xMi l d b lo gz m_Text_digit [.ref a, .int x0] hp (fun x hp' => xV k_Text_badLine (l, d + 1, b, lo, gz, n0, s0, m_Text_badLine, Po) 104 L (.int x :: r) hp')) := xVe _ _ _ _ _ _
theorem s_Text_badLine_104 (C : xCx) (r : List Value) (hp : xHp) (x : Int32) (a0 a1 a2 a3 a5 a6 a7 a8 : Value) : (xV k_Text_badLine C 104 [a0, a1, a2, a3, .int x, a5, a6, a7, a8] r hp) = (xV k_Text_badLine C 106 [a0, a1, a2, a3, .int x, a5, a6, a7, a8] (.int x :: r) hp) := xVe _ _ _ _ _ _
theorem s_Text_badLine_106 (x y : Int32) (C : xCx) (L r : List Value) (hp : xHp) : (xV k_Text_badLine C 106 L (.int y :: .int x :: r) hp) = (((x < y → xV k_Text_badLine C 112 L r hp) ∧ (¬ x < y → xV k_Text_badLine C 109 L r hp))) := xVe _ _ _ _ _ _
theorem s_Text_badLine_109 (C : xCx) (r : List Value) (hp : xHp) (x : Int32) (a0 a1 a2 a3 a4 a5 a6 a7 : Value) : (xV k_Text_badLine C 109 [a0, a1, a2, a3, a4, a5, a6, a7, .int x] r hp) = (xV k_Text_badLine C 111 [a0, a1, a2, a3, a4, a5, a6, a7, .int x] (.int x :: r) hp) := xVe _ _ _ _ _ _
theorem s_Text_badLine_111 (v : Int32) (l : Launch) (d b lo gz n0 s0 : Nat) (Po : Option Value → xHp → Prop) (L : List Value) (hp : xHp) : (xV k_Text_badLine (l, d, b, lo, gz, n0, s0, m_Text_badLine, Po) 111 L [.int v] hp) = (Po (some (.int v)) hp) := xVe _ _ _ _ _ _
theorem s_Text_badLine_112 (C : xCx) (r : List Value) (hp : xHp) (x : Int32) (a0 a1 a2 a3 a4 a5 a6 a7 : Value) : (xV k_Text_badLine C 112 [a0, a1, a2, a3, a4, a5, a6, a7, .int x] r hp) = (xNl [a0, a1, a2, a3, a4, a5, a6, a7, .int x] 8 ∧ xV k_Text_badLine C 115 [a0, a1, a2, a3, a4, a5, a6, a7, .int (x + (1))] r hp) := xVe _ _ _ _ _ _
theorem s_Text_badLine_115 (C : xCx) (L r : List Value) (hp : xHp) : (xV k_Text_badLine C 115 L r hp) = (xV k_Text_badLine C 18 L r hp) := xVe _ _ _ _ _ _
theorem s_Text_badLine_118 (C : xCx) (r : List Value) (hp : xHp) (x : Nat) (a1 a2 a3 a4 a5 a6 a7 a8 : Value) : (xV k_Text_badLine C 118 [.ref x, a1, a2, a3, a4, a5, a6, a7, a8] r hp) = (True ∧ xV k_Text_badLine C 119 [.ref x, a1, a2, a3, a4, a5, a6, a7, a8] (.ref x :: r) hp) := xVe _ _ _ _ _ _
theorem s_Text_badLine_119 (a : Nat) (C : xCx) (L r : List Value) (hp : xHp) : (xV k_Text_badLine C 119 L (.ref a :: r) hp) = (xF hp a 10 1 (fun v => xV k_Text_badLine C 122 L (v :: r) hp)) := xVe _ _ _ _ _ _
theorem s_Text_badLine_122 (x : Int32) (C : xCx) (L r : List Value) (hp : xHp) : (xV k_Text_badLine C 122 L (.int x :: r) hp) = (((x = 0 → xV k_Text_badLine C 131 L r hp) ∧ (¬ x = 0 → xV k_Text_badLine C 125 L r hp))) := xVe _ _ _ _ _ _
theorem s_Text_badLine_125 (C : xCx) (r : List Value) (hp : xHp) (x : Int32) (a0 a1 a2 a3 a4 a5 a6 a8 : Value) : (xV k_Text_badLine C 125 [a0, a1, a2, a3, a4, a5, a6, .int x, a8] r hp) = (xV k_Text_badLine C 127 [a0, a1, a2, a3, a4, a5, a6, .int x, a8] (.int x :: r) hp) := xVe _ _ _ _ _ _
theorem s_Text_badLine_127 (C : xCx) (r : List Value) (hp : xHp) (x : Int32) (a0 a2 a3 a4 a5 a6 a7 a8 : Value) : (xV k_Text_badLine C 127 [a0, .int x, a2, a3, a4, a5, a6, a7, a8] r hp) = (xV k_Text_badLine C 128 [a0, .int x, a2, a3, a4, a5, a6, a7, a8] (.int x :: r) hp) := xVe _ _ _ _ _ _
theorem s_Text_badLine_128 (x y : Int32) (C : xCx) (L r : List Value) (hp : xHp) : (xV k_Text_badLine C 128 L (.int y :: .int x :: r) hp) = (((¬ x = y → xV k_Text_badLine C 135 L r hp) ∧ (x = y → xV k_Text_badLine C 131 L r hp))) := xVe _ _ _ _ _ _
theorem s_Text_badLine_131  (C : xCx) (L r : List Value) (hp : xHp) : (xV k_Text_badLine C 131 L (r) hp) = (xV k_Text_badLine C 132 L (.int (-1) :: r) hp) := xVe _ _ _ _ _ _
theorem s_Text_badLine_132 (C : xCx) (L r : List Value) (hp : xHp) : (xV k_Text_badLine C 132 L r hp) = (xV k_Text_badLine C 139 L r hp) := xVe _ _ _ _ _ _
theorem s_Text_badLine_135 (C : xCx) (r : List Value) (hp : xHp) (x : Nat) (a1 a2 a3 a4 a5 a6 a7 a8 : Value) : (xV k_Text_badLine C 135 [.ref x, a1, a2, a3, a4, a5, a6, a7, a8] r hp) = (True ∧ xV k_Text_badLine C 136 [.ref x, a1, a2, a3, a4, a5, a6, a7, a8] (.ref x :: r) hp) := xVe _ _ _ _ _ _
theorem s_Text_badLine_136 (a : Nat) (C : xCx) (L r : List Value) (hp : xHp) : (xV k_Text_badLine C 136 L (.ref a :: r) hp) = (xF hp a 10 1 (fun v => xV k_Text_badLine C 139 L (v :: r) hp)) := xVe _ _ _ _ _ _
theorem s_Text_badLine_139 (v : Int32) (l : Launch) (d b lo gz n0 s0 : Nat) (Po : Option Value → xHp → Prop) (L : List Value) (hp : xHp) : (xV k_Text_badLine (l, d, b, lo, gz, n0, s0, m_Text_badLine, Po) 139 L [.int v] hp) = (Po (some (.int v)) hp) := xVe _ _ _ _ _ _
def k_Text_at : List xEC := [
  (0, .iload_n 1, 1, 0, 0, 0, m_x),
  (1, .ifCond .lt 29, 4, 0, 30, 0, m_x),
  (4, .iload_n 1, 5, 0, 0, 0, m_x),
  (5, .aload_n 0, 6, 0, 0, 0, m_x),
  (6, .getfield 15, 9, 10, 1, 0, m_x),
  (9, .if_icmp .ge 21, 12, 0, 30, 0, m_x),
  (12, .iload_n 1, 13, 0, 0, 0, m_x),
  (13, .aload_n 0, 14, 0, 0, 0, m_x),
  (14, .getfield 11, 17, 10, 0, 0, m_x),
  (17, .arraylength, 18, 0, 0, 0, m_x),
  (18, .if_icmp .ge 12, 21, 0, 30, 0, m_x),
  (21, .aload_n 0, 22, 0, 0, 0, m_x),
  (22, .getfield 11, 25, 10, 0, 0, m_x),
  (25, .iload_n 1, 26, 0, 0, 0, m_x),
  (26, .iaload, 27, 0, 0, 0, m_x),
  (27, .goto 4, 30, 0, 31, 0, m_x),
  (30, .iconst (-1), 31, 0, 0, 0, m_x),
  (31, .ireturn, 32, 0, 0, 0, m_x)]
theorem dc_Text_at : ∀ E ∈ k_Text_at, xDc m_Text_at E := by decide +kernel
set_option maxRecDepth 20000 in
theorem ok_Text_at : ∀ E ∈ k_Text_at, xOk m_Text_at E := xok_of dc_Text_at (xfc trivial (xfc (show ((1 : Nat) : Int) + (29) = ((30 : Nat) : Int) from by decide) (xfc trivial (xfc trivial (xfc fl_Text_15 (xfc (show ((9 : Nat) : Int) + (21) = ((30 : Nat) : Int) from by decide) (xfc trivial (xfc trivial (xfc fl_Text_11 (xfc trivial (xfc (show ((18 : Nat) : Int) + (12) = ((30 : Nat) : Int) from by decide) (xfc trivial (xfc fl_Text_11 (xfc trivial (xfc trivial (xfc (show ((27 : Nat) : Int) + (4) = ((31 : Nat) : Int) from by decide) (xfc trivial (xfc trivial (xfn)))))))))))))))))))
theorem s_Text_at_0 (C : xCx) (r : List Value) (hp : xHp) (x : Int32) (a0 : Value) : (xV k_Text_at C 0 [a0, .int x] r hp) = (xV k_Text_at C 1 [a0, .int x] (.int x :: r) hp) := xVe _ _ _ _ _ _
theorem s_Text_at_1 (x : Int32) (C : xCx) (L r : List Value) (hp : xHp) : (xV k_Text_at C 1 L (.int x :: r) hp) = (((x < 0 → xV k_Text_at C 30 L r hp) ∧ (¬ x < 0 → xV k_Text_at C 4 L r hp))) := xVe _ _ _ _ _ _
theorem s_Text_at_4 (C : xCx) (r : List Value) (hp : xHp) (x : Int32) (a0 : Value) : (xV k_Text_at C 4 [a0, .int x] r hp) = (xV k_Text_at C 5 [a0, .int x] (.int x :: r) hp) := xVe _ _ _ _ _ _
theorem s_Text_at_5 (C : xCx) (r : List Value) (hp : xHp) (x : Nat) (a1 : Value) : (xV k_Text_at C 5 [.ref x, a1] r hp) = (True ∧ xV k_Text_at C 6 [.ref x, a1] (.ref x :: r) hp) := xVe _ _ _ _ _ _
theorem s_Text_at_6 (a : Nat) (C : xCx) (L r : List Value) (hp : xHp) : (xV k_Text_at C 6 L (.ref a :: r) hp) = (xF hp a 10 1 (fun v => xV k_Text_at C 9 L (v :: r) hp)) := xVe _ _ _ _ _ _
theorem s_Text_at_9 (x y : Int32) (C : xCx) (L r : List Value) (hp : xHp) : (xV k_Text_at C 9 L (.int y :: .int x :: r) hp) = (((y ≤ x → xV k_Text_at C 30 L r hp) ∧ (¬ y ≤ x → xV k_Text_at C 12 L r hp))) := xVe _ _ _ _ _ _
theorem s_Text_at_12 (C : xCx) (r : List Value) (hp : xHp) (x : Int32) (a0 : Value) : (xV k_Text_at C 12 [a0, .int x] r hp) = (xV k_Text_at C 13 [a0, .int x] (.int x :: r) hp) := xVe _ _ _ _ _ _
theorem s_Text_at_13 (C : xCx) (r : List Value) (hp : xHp) (x : Nat) (a1 : Value) : (xV k_Text_at C 13 [.ref x, a1] r hp) = (True ∧ xV k_Text_at C 14 [.ref x, a1] (.ref x :: r) hp) := xVe _ _ _ _ _ _
theorem s_Text_at_14 (a : Nat) (C : xCx) (L r : List Value) (hp : xHp) : (xV k_Text_at C 14 L (.ref a :: r) hp) = (xF hp a 10 0 (fun v => xV k_Text_at C 17 L (v :: r) hp)) := xVe _ _ _ _ _ _
theorem s_Text_at_17 (a : Nat) (C : xCx) (L r : List Value) (hp : xHp) : (xV k_Text_at C 17 L (.ref a :: r) hp) = (xLn hp a (fun n => xV k_Text_at C 18 L (.int (Int32.ofNat n) :: r) hp)) := xVe _ _ _ _ _ _
theorem s_Text_at_18 (x y : Int32) (C : xCx) (L r : List Value) (hp : xHp) : (xV k_Text_at C 18 L (.int y :: .int x :: r) hp) = (((y ≤ x → xV k_Text_at C 30 L r hp) ∧ (¬ y ≤ x → xV k_Text_at C 21 L r hp))) := xVe _ _ _ _ _ _
theorem s_Text_at_21 (C : xCx) (r : List Value) (hp : xHp) (x : Nat) (a1 : Value) : (xV k_Text_at C 21 [.ref x, a1] r hp) = (True ∧ xV k_Text_at C 22 [.ref x, a1] (.ref x :: r) hp) := xVe _ _ _ _ _ _
theorem s_Text_at_22 (a : Nat) (C : xCx) (L r : List Value) (hp : xHp) : (xV k_Text_at C 22 L (.ref a :: r) hp) = (xF hp a 10 0 (fun v => xV k_Text_at C 25 L (v :: r) hp)) := xVe _ _ _ _ _ _
theorem s_Text_at_25 (C : xCx) (r : List Value) (hp : xHp) (x : Int32) (a0 : Value) : (xV k_Text_at C 25 [a0, .int x] r hp) = (xV k_Text_at C 26 [a0, .int x] (.int x :: r) hp) := xVe _ _ _ _ _ _
theorem s_Text_at_26 (i : Int32) (a : Nat) (C : xCx) (L r : List Value) (hp : xHp) : (xV k_Text_at C 26 L (.int i :: .ref a :: r) hp) = (xAi hp a (fun ty n g => ty = .int ∧ vp_in i n ∧ xV k_Text_at C 27 L (.int (g i.toNatClampNeg) :: r) hp)) := xVe _ _ _ _ _ _
theorem s_Text_at_27 (C : xCx) (L r : List Value) (hp : xHp) : (xV k_Text_at C 27 L r hp) = (xV k_Text_at C 31 L r hp) := xVe _ _ _ _ _ _
theorem s_Text_at_30  (C : xCx) (L r : List Value) (hp : xHp) : (xV k_Text_at C 30 L (r) hp) = (xV k_Text_at C 31 L (.int (-1) :: r) hp) := xVe _ _ _ _ _ _
theorem s_Text_at_31 (v : Int32) (l : Launch) (d b lo gz n0 s0 : Nat) (Po : Option Value → xHp → Prop) (L : List Value) (hp : xHp) : (xV k_Text_at (l, d, b, lo, gz, n0, s0, m_Text_at, Po) 31 L [.int v] hp) = (Po (some (.int v)) hp) := xVe _ _ _ _ _ _
def k_Text_isDigit : List xEC := [
  (0, .iload_n 0, 1, 0, 0, 0, m_x),
  (1, .bipush 48, 3, 0, 0, 0, m_x),
  (3, .if_icmp .lt 13, 6, 0, 16, 0, m_x),
  (6, .iload_n 0, 7, 0, 0, 0, m_x),
  (7, .bipush 57, 9, 0, 0, 0, m_x),
  (9, .if_icmp .gt 7, 12, 0, 16, 0, m_x),
  (12, .iconst 1, 13, 0, 0, 0, m_x),
  (13, .goto 4, 16, 0, 17, 0, m_x),
  (16, .iconst 0, 17, 0, 0, 0, m_x),
  (17, .ireturn, 18, 0, 0, 0, m_x)]
theorem dc_Text_isDigit : ∀ E ∈ k_Text_isDigit, xDc m_Text_isDigit E := by decide +kernel
set_option maxRecDepth 20000 in
theorem ok_Text_isDigit : ∀ E ∈ k_Text_isDigit, xOk m_Text_isDigit E := xok_of dc_Text_isDigit (xfc trivial (xfc trivial (xfc (show ((3 : Nat) : Int) + (13) = ((16 : Nat) : Int) from by decide) (xfc trivial (xfc trivial (xfc (show ((9 : Nat) : Int) + (7) = ((16 : Nat) : Int) from by decide) (xfc trivial (xfc (show ((13 : Nat) : Int) + (4) = ((17 : Nat) : Int) from by decide) (xfc trivial (xfc trivial (xfn)))))))))))
theorem s_Text_isDigit_0 (C : xCx) (r : List Value) (hp : xHp) (x : Int32) : (xV k_Text_isDigit C 0 [.int x] r hp) = (xV k_Text_isDigit C 1 [.int x] (.int x :: r) hp) := xVe _ _ _ _ _ _
theorem s_Text_isDigit_1  (C : xCx) (L r : List Value) (hp : xHp) : (xV k_Text_isDigit C 1 L (r) hp) = (xV k_Text_isDigit C 3 L (.int (48) :: r) hp) := xVe _ _ _ _ _ _
theorem s_Text_isDigit_3 (x y : Int32) (C : xCx) (L r : List Value) (hp : xHp) : (xV k_Text_isDigit C 3 L (.int y :: .int x :: r) hp) = (((x < y → xV k_Text_isDigit C 16 L r hp) ∧ (¬ x < y → xV k_Text_isDigit C 6 L r hp))) := xVe _ _ _ _ _ _
theorem s_Text_isDigit_6 (C : xCx) (r : List Value) (hp : xHp) (x : Int32) : (xV k_Text_isDigit C 6 [.int x] r hp) = (xV k_Text_isDigit C 7 [.int x] (.int x :: r) hp) := xVe _ _ _ _ _ _
theorem s_Text_isDigit_7  (C : xCx) (L r : List Value) (hp : xHp) : (xV k_Text_isDigit C 7 L (r) hp) = (xV k_Text_isDigit C 9 L (.int (57) :: r) hp) := xVe _ _ _ _ _ _
theorem s_Text_isDigit_9 (x y : Int32) (C : xCx) (L r : List Value) (hp : xHp) : (xV k_Text_isDigit C 9 L (.int y :: .int x :: r) hp) = (((y < x → xV k_Text_isDigit C 16 L r hp) ∧ (¬ y < x → xV k_Text_isDigit C 12 L r hp))) := xVe _ _ _ _ _ _
theorem s_Text_isDigit_12  (C : xCx) (L r : List Value) (hp : xHp) : (xV k_Text_isDigit C 12 L (r) hp) = (xV k_Text_isDigit C 13 L (.int (1) :: r) hp) := xVe _ _ _ _ _ _
theorem s_Text_isDigit_13 (C : xCx) (L r : List Value) (hp : xHp) : (xV k_Text_isDigit C 13 L r hp) = (xV k_Text_isDigit C 17 L r hp) := xVe _ _ _ _ _ _
theorem s_Text_isDigit_16  (C : xCx) (L r : List Value) (hp : xHp) : (xV k_Text_isDigit C 16 L (r) hp) = (xV k_Text_isDigit C 17 L (.int (0) :: r) hp) := xVe _ _ _ _ _ _
theorem s_Text_isDigit_17 (v : Int32) (l : Launch) (d b lo gz n0 s0 : Nat) (Po : Option Value → xHp → Prop) (L : List Value) (hp : xHp) : (xV k_Text_isDigit (l, d, b, lo, gz, n0, s0, m_Text_isDigit, Po) 17 L [.int v] hp) = ((v = 0 ∨ v = 1) ∧ Po (some (.int v)) hp) := xVe _ _ _ _ _ _
def k_Text_digit : List xEC := [
  (0, .aload_n 0, 1, 0, 0, 0, m_x),
  (1, .iload_n 1, 2, 0, 0, 0, m_x),
  (2, .invokevirtual 19, 5, 10, 0, 0, m_Text_at),
  (5, .invokestatic 23, 8, 0, 0, 0, m_Text_isDigit),
  (8, .ifCond .eq 14, 11, 0, 22, 0, m_x),
  (11, .aload_n 0, 12, 0, 0, 0, m_x),
  (12, .iload_n 1, 13, 0, 0, 0, m_x),
  (13, .invokevirtual 19, 16, 10, 0, 0, m_Text_at),
  (16, .bipush 48, 18, 0, 0, 0, m_x),
  (18, .isub, 19, 0, 0, 0, m_x),
  (19, .goto 4, 22, 0, 23, 0, m_x),
  (22, .iconst 0, 23, 0, 0, 0, m_x),
  (23, .ireturn, 24, 0, 0, 0, m_x)]
theorem dc_Text_digit : ∀ E ∈ k_Text_digit, xDc m_Text_digit E := by decide +kernel
set_option maxRecDepth 20000 in
theorem ok_Text_digit : ∀ E ∈ k_Text_digit, xOk m_Text_digit E := xok_of dc_Text_digit (xfc trivial (xfc trivial (xfc ⟨ml_Text_19, kd_Text_at⟩ (xfc ⟨ml_Text_23, kd_Text_isDigit⟩ (xfc (show ((8 : Nat) : Int) + (14) = ((22 : Nat) : Int) from by decide) (xfc trivial (xfc trivial (xfc ⟨ml_Text_19, kd_Text_at⟩ (xfc trivial (xfc trivial (xfc (show ((19 : Nat) : Int) + (4) = ((23 : Nat) : Int) from by decide) (xfc trivial (xfc trivial (xfn))))))))))))))
theorem s_Text_digit_0 (C : xCx) (r : List Value) (hp : xHp) (x : Nat) (a1 : Value) : (xV k_Text_digit C 0 [.ref x, a1] r hp) = (True ∧ xV k_Text_digit C 1 [.ref x, a1] (.ref x :: r) hp) := xVe _ _ _ _ _ _
theorem s_Text_digit_1 (C : xCx) (r : List Value) (hp : xHp) (x : Int32) (a0 : Value) : (xV k_Text_digit C 1 [a0, .int x] r hp) = (xV k_Text_digit C 2 [a0, .int x] (.int x :: r) hp) := xVe _ _ _ _ _ _
theorem s_Text_digit_2 (x0 : Int32) (a : Nat) (l : Launch) (d b lo gz n0 s0 : Nat) (Po : Option Value → xHp → Prop) (L r : List Value) (hp : xHp) : (xV k_Text_digit (l, d + 1, b, lo, gz, n0, s0, m_Text_digit, Po) 2 L (.int x0 :: .ref a :: r) hp) = (xO hp a 10 ∧ xcs r 8 ∧ xMi l d b lo gz m_Text_at [.ref a, .int x0] hp (fun x hp' => xV k_Text_digit (l, d + 1, b, lo, gz, n0, s0, m_Text_digit, Po) 5 L (.int x :: r) hp')) := xVe _ _ _ _ _ _
theorem s_Text_digit_5 (x0 : Int32) (l : Launch) (d b lo gz n0 s0 : Nat) (Po : Option Value → xHp → Prop) (L r : List Value) (hp : xHp) : (xV k_Text_digit (l, d + 1, b, lo, gz, n0, s0, m_Text_digit, Po) 5 L (.int x0 :: r) hp) = (1 ≤ List.length (.int x0 :: r) ∧ xcs r 8 ∧ xMi l d b lo gz m_Text_isDigit [.int x0] hp (fun x hp' => xV k_Text_digit (l, d + 1, b, lo, gz, n0, s0, m_Text_digit, Po) 8 L (.int x :: r) hp')) := xVe _ _ _ _ _ _
theorem s_Text_digit_8 (x : Int32) (C : xCx) (L r : List Value) (hp : xHp) : (xV k_Text_digit C 8 L (.int x :: r) hp) = (((x = 0 → xV k_Text_digit C 22 L r hp) ∧ (¬ x = 0 → xV k_Text_digit C 11 L r hp))) := xVe _ _ _ _ _ _
theorem s_Text_digit_11 (C : xCx) (r : List Value) (hp : xHp) (x : Nat) (a1 : Value) : (xV k_Text_digit C 11 [.ref x, a1] r hp) = (True ∧ xV k_Text_digit C 12 [.ref x, a1] (.ref x :: r) hp) := xVe _ _ _ _ _ _
theorem s_Text_digit_12 (C : xCx) (r : List Value) (hp : xHp) (x : Int32) (a0 : Value) : (xV k_Text_digit C 12 [a0, .int x] r hp) = (xV k_Text_digit C 13 [a0, .int x] (.int x :: r) hp) := xVe _ _ _ _ _ _
theorem s_Text_digit_13 (x0 : Int32) (a : Nat) (l : Launch) (d b lo gz n0 s0 : Nat) (Po : Option Value → xHp → Prop) (L r : List Value) (hp : xHp) : (xV k_Text_digit (l, d + 1, b, lo, gz, n0, s0, m_Text_digit, Po) 13 L (.int x0 :: .ref a :: r) hp) = (xO hp a 10 ∧ xcs r 8 ∧ xMi l d b lo gz m_Text_at [.ref a, .int x0] hp (fun x hp' => xV k_Text_digit (l, d + 1, b, lo, gz, n0, s0, m_Text_digit, Po) 16 L (.int x :: r) hp')) := xVe _ _ _ _ _ _
theorem s_Text_digit_16  (C : xCx) (L r : List Value) (hp : xHp) : (xV k_Text_digit C 16 L (r) hp) = (xV k_Text_digit C 18 L (.int (48) :: r) hp) := xVe _ _ _ _ _ _
theorem s_Text_digit_18 (x y : Int32) (C : xCx) (L r : List Value) (hp : xHp) : (xV k_Text_digit C 18 L (.int y :: .int x :: r) hp) = (xV k_Text_digit C 19 L (.int (x - y) :: r) hp) := xVe _ _ _ _ _ _
theorem s_Text_digit_19 (C : xCx) (L r : List Value) (hp : xHp) : (xV k_Text_digit C 19 L r hp) = (xV k_Text_digit C 23 L r hp) := xVe _ _ _ _ _ _
theorem s_Text_digit_22  (C : xCx) (L r : List Value) (hp : xHp) : (xV k_Text_digit C 22 L (r) hp) = (xV k_Text_digit C 23 L (.int (0) :: r) hp) := xVe _ _ _ _ _ _
theorem s_Text_digit_23 (v : Int32) (l : Launch) (d b lo gz n0 s0 : Nat) (Po : Option Value → xHp → Prop) (L : List Value) (hp : xHp) : (xV k_Text_digit (l, d, b, lo, gz, n0, s0, m_Text_digit, Po) 23 L [.int v] hp) = (Po (some (.int v)) hp) := xVe _ _ _ _ _ _
def k_Text_lines : List xEC := [
  (0, .aload_n 0, 1, 0, 0, 0, m_x),
  (1, .getfield 15, 4, 10, 1, 0, m_x),
  (4, .ifCond .le 7, 7, 0, 11, 0, m_x),
  (7, .iconst 1, 8, 0, 0, 0, m_x),
  (8, .goto 4, 11, 0, 12, 0, m_x),
  (11, .iconst 0, 12, 0, 0, 0, m_x),
  (12, .istore_n 1, 13, 0, 0, 0, m_x),
  (13, .iconst 0, 14, 0, 0, 0, m_x),
  (14, .istore_n 2, 15, 0, 0, 0, m_x),
  (15, .iload_n 2, 16, 0, 0, 0, m_x),
  (16, .aload_n 0, 17, 0, 0, 0, m_x),
  (17, .getfield 15, 20, 10, 1, 0, m_x),
  (20, .if_icmp .ge 27, 23, 0, 47, 0, m_x),
  (23, .iload_n 1, 24, 0, 0, 0, m_x),
  (24, .aload_n 0, 25, 0, 0, 0, m_x),
  (25, .iload_n 2, 26, 0, 0, 0, m_x),
  (26, .invokevirtual 19, 29, 10, 0, 0, m_Text_at),
  (29, .bipush 59, 31, 0, 0, 0, m_x),
  (31, .if_icmp .ne 7, 34, 0, 38, 0, m_x),
  (34, .iconst 1, 35, 0, 0, 0, m_x),
  (35, .goto 4, 38, 0, 39, 0, m_x),
  (38, .iconst 0, 39, 0, 0, 0, m_x),
  (39, .iadd, 40, 0, 0, 0, m_x),
  (40, .istore_n 1, 41, 0, 0, 0, m_x),
  (41, .iinc 2 1, 44, 0, 0, 0, m_x),
  (44, .goto (-29), 47, 0, 15, 0, m_x),
  (47, .iload_n 1, 48, 0, 0, 0, m_x),
  (48, .ireturn, 49, 0, 0, 0, m_x)]
theorem dc_Text_lines : ∀ E ∈ k_Text_lines, xDc m_Text_lines E := by decide +kernel
set_option maxRecDepth 20000 in
theorem ok_Text_lines : ∀ E ∈ k_Text_lines, xOk m_Text_lines E := xok_of dc_Text_lines (xfc trivial (xfc fl_Text_15 (xfc (show ((4 : Nat) : Int) + (7) = ((11 : Nat) : Int) from by decide) (xfc trivial (xfc (show ((8 : Nat) : Int) + (4) = ((12 : Nat) : Int) from by decide) (xfc trivial (xfc trivial (xfc trivial (xfc trivial (xfc trivial (xfc trivial (xfc fl_Text_15 (xfc (show ((20 : Nat) : Int) + (27) = ((47 : Nat) : Int) from by decide) (xfc trivial (xfc trivial (xfc trivial (xfc ⟨ml_Text_19, kd_Text_at⟩ (xfc trivial (xfc (show ((31 : Nat) : Int) + (7) = ((38 : Nat) : Int) from by decide) (xfc trivial (xfc (show ((35 : Nat) : Int) + (4) = ((39 : Nat) : Int) from by decide) (xfc trivial (xfc trivial (xfc trivial (xfc trivial (xfc (show ((44 : Nat) : Int) + (-29) = ((15 : Nat) : Int) from by decide) (xfc trivial (xfc trivial (xfn)))))))))))))))))))))))))))))
theorem s_Text_lines_0 (C : xCx) (r : List Value) (hp : xHp) (x : Nat) (a1 a2 : Value) : (xV k_Text_lines C 0 [.ref x, a1, a2] r hp) = (True ∧ xV k_Text_lines C 1 [.ref x, a1, a2] (.ref x :: r) hp) := xVe _ _ _ _ _ _
theorem s_Text_lines_1 (a : Nat) (C : xCx) (L r : List Value) (hp : xHp) : (xV k_Text_lines C 1 L (.ref a :: r) hp) = (xF hp a 10 1 (fun v => xV k_Text_lines C 4 L (v :: r) hp)) := xVe _ _ _ _ _ _
theorem s_Text_lines_4 (x : Int32) (C : xCx) (L r : List Value) (hp : xHp) : (xV k_Text_lines C 4 L (.int x :: r) hp) = (((x ≤ 0 → xV k_Text_lines C 11 L r hp) ∧ (¬ x ≤ 0 → xV k_Text_lines C 7 L r hp))) := xVe _ _ _ _ _ _
theorem s_Text_lines_7  (C : xCx) (L r : List Value) (hp : xHp) : (xV k_Text_lines C 7 L (r) hp) = (xV k_Text_lines C 8 L (.int (1) :: r) hp) := xVe _ _ _ _ _ _
theorem s_Text_lines_8 (C : xCx) (L r : List Value) (hp : xHp) : (xV k_Text_lines C 8 L r hp) = (xV k_Text_lines C 12 L r hp) := xVe _ _ _ _ _ _
theorem s_Text_lines_11  (C : xCx) (L r : List Value) (hp : xHp) : (xV k_Text_lines C 11 L (r) hp) = (xV k_Text_lines C 12 L (.int (0) :: r) hp) := xVe _ _ _ _ _ _
theorem s_Text_lines_12 (C : xCx) (r : List Value) (hp : xHp) (x : Int32) (a0 a1 a2 : Value) : (xV k_Text_lines C 12 [a0, a1, a2] (.int x :: r) hp) = (1 < 3 ∧ xNl [a0, a1, a2] 1 ∧ xV k_Text_lines C 13 [a0, .int x, a2] r hp) := xVe _ _ _ _ _ _
theorem s_Text_lines_13  (C : xCx) (L r : List Value) (hp : xHp) : (xV k_Text_lines C 13 L (r) hp) = (xV k_Text_lines C 14 L (.int (0) :: r) hp) := xVe _ _ _ _ _ _
theorem s_Text_lines_14 (C : xCx) (r : List Value) (hp : xHp) (x : Int32) (a0 a1 a2 : Value) : (xV k_Text_lines C 14 [a0, a1, a2] (.int x :: r) hp) = (2 < 3 ∧ xNl [a0, a1, a2] 2 ∧ xV k_Text_lines C 15 [a0, a1, .int x] r hp) := xVe _ _ _ _ _ _
theorem s_Text_lines_15 (C : xCx) (r : List Value) (hp : xHp) (x : Int32) (a0 a1 : Value) : (xV k_Text_lines C 15 [a0, a1, .int x] r hp) = (xV k_Text_lines C 16 [a0, a1, .int x] (.int x :: r) hp) := xVe _ _ _ _ _ _
theorem s_Text_lines_16 (C : xCx) (r : List Value) (hp : xHp) (x : Nat) (a1 a2 : Value) : (xV k_Text_lines C 16 [.ref x, a1, a2] r hp) = (True ∧ xV k_Text_lines C 17 [.ref x, a1, a2] (.ref x :: r) hp) := xVe _ _ _ _ _ _
theorem s_Text_lines_17 (a : Nat) (C : xCx) (L r : List Value) (hp : xHp) : (xV k_Text_lines C 17 L (.ref a :: r) hp) = (xF hp a 10 1 (fun v => xV k_Text_lines C 20 L (v :: r) hp)) := xVe _ _ _ _ _ _
theorem s_Text_lines_20 (x y : Int32) (C : xCx) (L r : List Value) (hp : xHp) : (xV k_Text_lines C 20 L (.int y :: .int x :: r) hp) = (((y ≤ x → xV k_Text_lines C 47 L r hp) ∧ (¬ y ≤ x → xV k_Text_lines C 23 L r hp))) := xVe _ _ _ _ _ _
theorem s_Text_lines_23 (C : xCx) (r : List Value) (hp : xHp) (x : Int32) (a0 a2 : Value) : (xV k_Text_lines C 23 [a0, .int x, a2] r hp) = (xV k_Text_lines C 24 [a0, .int x, a2] (.int x :: r) hp) := xVe _ _ _ _ _ _
theorem s_Text_lines_24 (C : xCx) (r : List Value) (hp : xHp) (x : Nat) (a1 a2 : Value) : (xV k_Text_lines C 24 [.ref x, a1, a2] r hp) = (True ∧ xV k_Text_lines C 25 [.ref x, a1, a2] (.ref x :: r) hp) := xVe _ _ _ _ _ _
theorem s_Text_lines_25 (C : xCx) (r : List Value) (hp : xHp) (x : Int32) (a0 a1 : Value) : (xV k_Text_lines C 25 [a0, a1, .int x] r hp) = (xV k_Text_lines C 26 [a0, a1, .int x] (.int x :: r) hp) := xVe _ _ _ _ _ _
theorem s_Text_lines_26 (x0 : Int32) (a : Nat) (l : Launch) (d b lo gz n0 s0 : Nat) (Po : Option Value → xHp → Prop) (L r : List Value) (hp : xHp) : (xV k_Text_lines (l, d + 1, b, lo, gz, n0, s0, m_Text_lines, Po) 26 L (.int x0 :: .ref a :: r) hp) = (xO hp a 10 ∧ xcs r 8 ∧ xMi l d b lo gz m_Text_at [.ref a, .int x0] hp (fun x hp' => xV k_Text_lines (l, d + 1, b, lo, gz, n0, s0, m_Text_lines, Po) 29 L (.int x :: r) hp')) := xVe _ _ _ _ _ _
theorem s_Text_lines_29  (C : xCx) (L r : List Value) (hp : xHp) : (xV k_Text_lines C 29 L (r) hp) = (xV k_Text_lines C 31 L (.int (59) :: r) hp) := xVe _ _ _ _ _ _
theorem s_Text_lines_31 (x y : Int32) (C : xCx) (L r : List Value) (hp : xHp) : (xV k_Text_lines C 31 L (.int y :: .int x :: r) hp) = (((¬ x = y → xV k_Text_lines C 38 L r hp) ∧ (x = y → xV k_Text_lines C 34 L r hp))) := xVe _ _ _ _ _ _
theorem s_Text_lines_34  (C : xCx) (L r : List Value) (hp : xHp) : (xV k_Text_lines C 34 L (r) hp) = (xV k_Text_lines C 35 L (.int (1) :: r) hp) := xVe _ _ _ _ _ _
theorem s_Text_lines_35 (C : xCx) (L r : List Value) (hp : xHp) : (xV k_Text_lines C 35 L r hp) = (xV k_Text_lines C 39 L r hp) := xVe _ _ _ _ _ _
theorem s_Text_lines_38  (C : xCx) (L r : List Value) (hp : xHp) : (xV k_Text_lines C 38 L (r) hp) = (xV k_Text_lines C 39 L (.int (0) :: r) hp) := xVe _ _ _ _ _ _
theorem s_Text_lines_39 (x y : Int32) (C : xCx) (L r : List Value) (hp : xHp) : (xV k_Text_lines C 39 L (.int y :: .int x :: r) hp) = (xV k_Text_lines C 40 L (.int (x + y) :: r) hp) := xVe _ _ _ _ _ _
theorem s_Text_lines_40 (C : xCx) (r : List Value) (hp : xHp) (x : Int32) (a0 a1 a2 : Value) : (xV k_Text_lines C 40 [a0, a1, a2] (.int x :: r) hp) = (1 < 3 ∧ xNl [a0, a1, a2] 1 ∧ xV k_Text_lines C 41 [a0, .int x, a2] r hp) := xVe _ _ _ _ _ _
theorem s_Text_lines_41 (C : xCx) (r : List Value) (hp : xHp) (x : Int32) (a0 a1 : Value) : (xV k_Text_lines C 41 [a0, a1, .int x] r hp) = (xNl [a0, a1, .int x] 2 ∧ xV k_Text_lines C 44 [a0, a1, .int (x + (1))] r hp) := xVe _ _ _ _ _ _
theorem s_Text_lines_44 (C : xCx) (L r : List Value) (hp : xHp) : (xV k_Text_lines C 44 L r hp) = (xV k_Text_lines C 15 L r hp) := xVe _ _ _ _ _ _
theorem s_Text_lines_47 (C : xCx) (r : List Value) (hp : xHp) (x : Int32) (a0 a2 : Value) : (xV k_Text_lines C 47 [a0, .int x, a2] r hp) = (xV k_Text_lines C 48 [a0, .int x, a2] (.int x :: r) hp) := xVe _ _ _ _ _ _
theorem s_Text_lines_48 (v : Int32) (l : Launch) (d b lo gz n0 s0 : Nat) (Po : Option Value → xHp → Prop) (L : List Value) (hp : xHp) : (xV k_Text_lines (l, d, b, lo, gz, n0, s0, m_Text_lines, Po) 48 L [.int v] hp) = (Po (some (.int v)) hp) := xVe _ _ _ _ _ _
def k_Land_add : List xEC := [
  (0, .aload_n 0, 1, 0, 0, 0, m_x),
  (1, .getfield 26, 4, 4, 2, 0, m_x),
  (4, .bipush 6, 6, 0, 0, 0, m_x),
  (6, .if_icmp .ge 25, 9, 0, 31, 0, m_x),
  (9, .aload_n 0, 10, 0, 0, 0, m_x),
  (10, .getfield 9, 13, 4, 0, 0, m_x),
  (13, .aload_n 0, 14, 0, 0, 0, m_x),
  (14, .getfield 26, 17, 4, 2, 0, m_x),
  (17, .iload_n 1, 18, 0, 0, 0, m_x),
  (18, .invokestatic 18, 21, 0, 0, 0, m_So_put),
  (21, .aload_n 0, 22, 0, 0, 0, m_x),
  (22, .dup, 23, 0, 0, 0, m_x),
  (23, .getfield 26, 26, 4, 2, 0, m_x),
  (26, .iconst 1, 27, 0, 0, 0, m_x),
  (27, .iadd, 28, 0, 0, 0, m_x),
  (28, .putfield 26, 31, 4, 2, 0, m_x),
  (31, .return_, 32, 0, 0, 0, m_x)]
theorem dc_Land_add : ∀ E ∈ k_Land_add, xDc m_Land_add E := by decide +kernel
set_option maxRecDepth 20000 in
theorem ok_Land_add : ∀ E ∈ k_Land_add, xOk m_Land_add E := xok_of dc_Land_add (xfc trivial (xfc fl_Land_26 (xfc trivial (xfc (show ((6 : Nat) : Int) + (25) = ((31 : Nat) : Int) from by decide) (xfc trivial (xfc fl_Land_9 (xfc trivial (xfc fl_Land_26 (xfc trivial (xfc ⟨ml_Land_18, kd_So_put⟩ (xfc trivial (xfc trivial (xfc fl_Land_26 (xfc trivial (xfc trivial (xfc ⟨fl_Land_26, fun q h f => by cases h; exact absurd f (by decide)⟩ (xfc trivial (xfn))))))))))))))))))
theorem s_Land_add_0 (C : xCx) (r : List Value) (hp : xHp) (x : Nat) (a1 : Value) : (xV k_Land_add C 0 [.ref x, a1] r hp) = (True ∧ xV k_Land_add C 1 [.ref x, a1] (.ref x :: r) hp) := xVe _ _ _ _ _ _
theorem s_Land_add_1 (a : Nat) (C : xCx) (L r : List Value) (hp : xHp) : (xV k_Land_add C 1 L (.ref a :: r) hp) = (xF hp a 4 2 (fun v => xV k_Land_add C 4 L (v :: r) hp)) := xVe _ _ _ _ _ _
theorem s_Land_add_4  (C : xCx) (L r : List Value) (hp : xHp) : (xV k_Land_add C 4 L (r) hp) = (xV k_Land_add C 6 L (.int (6) :: r) hp) := xVe _ _ _ _ _ _
theorem s_Land_add_6 (x y : Int32) (C : xCx) (L r : List Value) (hp : xHp) : (xV k_Land_add C 6 L (.int y :: .int x :: r) hp) = (((y ≤ x → xV k_Land_add C 31 L r hp) ∧ (¬ y ≤ x → xV k_Land_add C 9 L r hp))) := xVe _ _ _ _ _ _
theorem s_Land_add_9 (C : xCx) (r : List Value) (hp : xHp) (x : Nat) (a1 : Value) : (xV k_Land_add C 9 [.ref x, a1] r hp) = (True ∧ xV k_Land_add C 10 [.ref x, a1] (.ref x :: r) hp) := xVe _ _ _ _ _ _
theorem s_Land_add_10 (a : Nat) (C : xCx) (L r : List Value) (hp : xHp) : (xV k_Land_add C 10 L (.ref a :: r) hp) = (xF hp a 4 0 (fun v => xV k_Land_add C 13 L (v :: r) hp)) := xVe _ _ _ _ _ _
theorem s_Land_add_13 (C : xCx) (r : List Value) (hp : xHp) (x : Nat) (a1 : Value) : (xV k_Land_add C 13 [.ref x, a1] r hp) = (True ∧ xV k_Land_add C 14 [.ref x, a1] (.ref x :: r) hp) := xVe _ _ _ _ _ _
theorem s_Land_add_14 (a : Nat) (C : xCx) (L r : List Value) (hp : xHp) : (xV k_Land_add C 14 L (.ref a :: r) hp) = (xF hp a 4 2 (fun v => xV k_Land_add C 17 L (v :: r) hp)) := xVe _ _ _ _ _ _
theorem s_Land_add_17 (C : xCx) (r : List Value) (hp : xHp) (x : Int32) (a0 : Value) : (xV k_Land_add C 17 [a0, .int x] r hp) = (xV k_Land_add C 18 [a0, .int x] (.int x :: r) hp) := xVe _ _ _ _ _ _
theorem s_Land_add_18 (x0 : Nat) (x1 : Int32) (x2 : Int32) (l : Launch) (d b lo gz n0 s0 : Nat) (Po : Option Value → xHp → Prop) (L r : List Value) (hp : xHp) : (xV k_Land_add (l, d + 1, b, lo, gz, n0, s0, m_Land_add, Po) 18 L (.int x2 :: .int x1 :: .ref x0 :: r) hp) = (3 ≤ List.length (.int x2 :: .int x1 :: .ref x0 :: r) ∧ xcs r 8 ∧ xMv l d b lo gz m_So_put [.ref x0, .int x1, .int x2] hp (fun hp' => xV k_Land_add (l, d + 1, b, lo, gz, n0, s0, m_Land_add, Po) 21 L r hp')) := xVe _ _ _ _ _ _
theorem s_Land_add_21 (C : xCx) (r : List Value) (hp : xHp) (x : Nat) (a1 : Value) : (xV k_Land_add C 21 [.ref x, a1] r hp) = (True ∧ xV k_Land_add C 22 [.ref x, a1] (.ref x :: r) hp) := xVe _ _ _ _ _ _
theorem s_Land_add_22 (v : Value) (C : xCx) (L r : List Value) (hp : xHp) : (xV k_Land_add C 22 L (v :: r) hp) = (v.category = 1 ∧ xV k_Land_add C 23 L (v :: v :: r) hp) := xVe _ _ _ _ _ _
theorem s_Land_add_23 (a : Nat) (C : xCx) (L r : List Value) (hp : xHp) : (xV k_Land_add C 23 L (.ref a :: r) hp) = (xF hp a 4 2 (fun v => xV k_Land_add C 26 L (v :: r) hp)) := xVe _ _ _ _ _ _
theorem s_Land_add_26  (C : xCx) (L r : List Value) (hp : xHp) : (xV k_Land_add C 26 L (r) hp) = (xV k_Land_add C 27 L (.int (1) :: r) hp) := xVe _ _ _ _ _ _
theorem s_Land_add_27 (x y : Int32) (C : xCx) (L r : List Value) (hp : xHp) : (xV k_Land_add C 27 L (.int y :: .int x :: r) hp) = (xV k_Land_add C 28 L (.int (x + y) :: r) hp) := xVe _ _ _ _ _ _
theorem s_Land_add_28 (x : Int32) (a : Nat) (C : xCx) (L r : List Value) (hp : xHp) : (xV k_Land_add C 28 L (.int x :: .ref a :: r) hp) = (True ∧ xPf hp a 4 2 (.int x) (fun hp' => xV k_Land_add C 31 L r hp')) := xVe _ _ _ _ _ _
theorem s_Land_add_31 (l : Launch) (d b lo gz n0 s0 : Nat) (Po : Option Value → xHp → Prop) (L : List Value) (hp : xHp) : (xV k_Land_add (l, d, b, lo, gz, n0, s0, m_Land_add, Po) 31 L [] hp) = (Po (none) hp) := xVe _ _ _ _ _ _
def k_Text_clear : List xEC := [
  (0, .aload_n 0, 1, 0, 0, 0, m_x),
  (1, .iconst 0, 2, 0, 0, 0, m_x),
  (2, .putfield 15, 5, 10, 1, 0, m_x),
  (5, .return_, 6, 0, 0, 0, m_x)]
theorem dc_Text_clear : ∀ E ∈ k_Text_clear, xDc m_Text_clear E := by decide +kernel
set_option maxRecDepth 20000 in
theorem ok_Text_clear : ∀ E ∈ k_Text_clear, xOk m_Text_clear E := xok_of dc_Text_clear (xfc trivial (xfc trivial (xfc ⟨fl_Text_15, fun q h f => by cases h; exact absurd f (by decide)⟩ (xfc trivial (xfn)))))
theorem s_Text_clear_0 (C : xCx) (r : List Value) (hp : xHp) (x : Nat) : (xV k_Text_clear C 0 [.ref x] r hp) = (True ∧ xV k_Text_clear C 1 [.ref x] (.ref x :: r) hp) := xVe _ _ _ _ _ _
theorem s_Text_clear_1  (C : xCx) (L r : List Value) (hp : xHp) : (xV k_Text_clear C 1 L (r) hp) = (xV k_Text_clear C 2 L (.int (0) :: r) hp) := xVe _ _ _ _ _ _
theorem s_Text_clear_2 (x : Int32) (a : Nat) (C : xCx) (L r : List Value) (hp : xHp) : (xV k_Text_clear C 2 L (.int x :: .ref a :: r) hp) = (True ∧ xPf hp a 10 1 (.int x) (fun hp' => xV k_Text_clear C 5 L r hp')) := xVe _ _ _ _ _ _
theorem s_Text_clear_5 (l : Launch) (d b lo gz n0 s0 : Nat) (Po : Option Value → xHp → Prop) (L : List Value) (hp : xHp) : (xV k_Text_clear (l, d, b, lo, gz, n0, s0, m_Text_clear, Po) 5 L [] hp) = (Po (none) hp) := xVe _ _ _ _ _ _
theorem fl_Past_23 : xFl "SunnyOnes$Past" 23 5 4 := ⟨("SunnyOnes$Past", F_Past, 5), rfl, by decide, wg1 159 (by decide +kernel) rfl⟩
def k_Past_forgetActs : List xEC := [
  (0, .aload_n 0, 1, 0, 0, 0, m_x),
  (1, .iconst 0, 2, 0, 0, 0, m_x),
  (2, .putfield 23, 5, 5, 4, 0, m_x),
  (5, .return_, 6, 0, 0, 0, m_x)]
theorem dc_Past_forgetActs : ∀ E ∈ k_Past_forgetActs, xDc m_Past_forgetActs E := by decide +kernel
set_option maxRecDepth 20000 in
theorem ok_Past_forgetActs : ∀ E ∈ k_Past_forgetActs, xOk m_Past_forgetActs E := xok_of dc_Past_forgetActs (xfc trivial (xfc trivial (xfc ⟨fl_Past_23, fun q h f => by cases h; exact absurd f (by decide)⟩ (xfc trivial (xfn)))))
theorem s_Past_forgetActs_0 (C : xCx) (r : List Value) (hp : xHp) (x : Nat) : (xV k_Past_forgetActs C 0 [.ref x] r hp) = (True ∧ xV k_Past_forgetActs C 1 [.ref x] (.ref x :: r) hp) := xVe _ _ _ _ _ _
theorem s_Past_forgetActs_1  (C : xCx) (L r : List Value) (hp : xHp) : (xV k_Past_forgetActs C 1 L (r) hp) = (xV k_Past_forgetActs C 2 L (.int (0) :: r) hp) := xVe _ _ _ _ _ _
theorem s_Past_forgetActs_2 (x : Int32) (a : Nat) (C : xCx) (L r : List Value) (hp : xHp) : (xV k_Past_forgetActs C 2 L (.int x :: .ref a :: r) hp) = (True ∧ xPf hp a 5 4 (.int x) (fun hp' => xV k_Past_forgetActs C 5 L r hp')) := xVe _ _ _ _ _ _
theorem s_Past_forgetActs_5 (l : Launch) (d b lo gz n0 s0 : Nat) (Po : Option Value → xHp → Prop) (L : List Value) (hp : xHp) : (xV k_Past_forgetActs (l, d, b, lo, gz, n0, s0, m_Past_forgetActs, Po) 5 L [] hp) = (Po (none) hp) := xVe _ _ _ _ _ _
def k_Past_forgetShelves : List xEC := [
  (0, .iconst 0, 1, 0, 0, 0, m_x),
  (1, .istore_n 1, 2, 0, 0, 0, m_x),
  (2, .iload_n 1, 3, 0, 0, 0, m_x),
  (3, .aload_n 0, 4, 0, 0, 0, m_x),
  (4, .getfield 18, 7, 5, 2, 0, m_x),
  (7, .arraylength, 8, 0, 0, 0, m_x),
  (8, .if_icmp .ge 16, 11, 0, 24, 0, m_x),
  (11, .aload_n 0, 12, 0, 0, 0, m_x),
  (12, .getfield 18, 15, 5, 2, 0, m_x),
  (15, .iload_n 1, 16, 0, 0, 0, m_x),
  (16, .iconst 0, 17, 0, 0, 0, m_x),
  (17, .bastore, 18, 0, 0, 0, m_x),
  (18, .iinc 1 1, 21, 0, 0, 0, m_x),
  (21, .goto (-19), 24, 0, 2, 0, m_x),
  (24, .return_, 25, 0, 0, 0, m_x)]
theorem dc_Past_forgetShelves : ∀ E ∈ k_Past_forgetShelves, xDc m_Past_forgetShelves E := by decide +kernel
set_option maxRecDepth 20000 in
theorem ok_Past_forgetShelves : ∀ E ∈ k_Past_forgetShelves, xOk m_Past_forgetShelves E := xok_of dc_Past_forgetShelves (xfc trivial (xfc trivial (xfc trivial (xfc trivial (xfc fl_Past_18 (xfc trivial (xfc (show ((8 : Nat) : Int) + (16) = ((24 : Nat) : Int) from by decide) (xfc trivial (xfc fl_Past_18 (xfc trivial (xfc trivial (xfc trivial (xfc trivial (xfc (show ((21 : Nat) : Int) + (-19) = ((2 : Nat) : Int) from by decide) (xfc trivial (xfn))))))))))))))))
theorem s_Past_forgetShelves_0  (C : xCx) (L r : List Value) (hp : xHp) : (xV k_Past_forgetShelves C 0 L (r) hp) = (xV k_Past_forgetShelves C 1 L (.int (0) :: r) hp) := xVe _ _ _ _ _ _
theorem s_Past_forgetShelves_1 (C : xCx) (r : List Value) (hp : xHp) (x : Int32) (a0 a1 : Value) : (xV k_Past_forgetShelves C 1 [a0, a1] (.int x :: r) hp) = (1 < 2 ∧ xNl [a0, a1] 1 ∧ xV k_Past_forgetShelves C 2 [a0, .int x] r hp) := xVe _ _ _ _ _ _
theorem s_Past_forgetShelves_2 (C : xCx) (r : List Value) (hp : xHp) (x : Int32) (a0 : Value) : (xV k_Past_forgetShelves C 2 [a0, .int x] r hp) = (xV k_Past_forgetShelves C 3 [a0, .int x] (.int x :: r) hp) := xVe _ _ _ _ _ _
theorem s_Past_forgetShelves_3 (C : xCx) (r : List Value) (hp : xHp) (x : Nat) (a1 : Value) : (xV k_Past_forgetShelves C 3 [.ref x, a1] r hp) = (True ∧ xV k_Past_forgetShelves C 4 [.ref x, a1] (.ref x :: r) hp) := xVe _ _ _ _ _ _
theorem s_Past_forgetShelves_4 (a : Nat) (C : xCx) (L r : List Value) (hp : xHp) : (xV k_Past_forgetShelves C 4 L (.ref a :: r) hp) = (xF hp a 5 2 (fun v => xV k_Past_forgetShelves C 7 L (v :: r) hp)) := xVe _ _ _ _ _ _
theorem s_Past_forgetShelves_7 (a : Nat) (C : xCx) (L r : List Value) (hp : xHp) : (xV k_Past_forgetShelves C 7 L (.ref a :: r) hp) = (xLn hp a (fun n => xV k_Past_forgetShelves C 8 L (.int (Int32.ofNat n) :: r) hp)) := xVe _ _ _ _ _ _
theorem s_Past_forgetShelves_8 (x y : Int32) (C : xCx) (L r : List Value) (hp : xHp) : (xV k_Past_forgetShelves C 8 L (.int y :: .int x :: r) hp) = (((y ≤ x → xV k_Past_forgetShelves C 24 L r hp) ∧ (¬ y ≤ x → xV k_Past_forgetShelves C 11 L r hp))) := xVe _ _ _ _ _ _
theorem s_Past_forgetShelves_11 (C : xCx) (r : List Value) (hp : xHp) (x : Nat) (a1 : Value) : (xV k_Past_forgetShelves C 11 [.ref x, a1] r hp) = (True ∧ xV k_Past_forgetShelves C 12 [.ref x, a1] (.ref x :: r) hp) := xVe _ _ _ _ _ _
theorem s_Past_forgetShelves_12 (a : Nat) (C : xCx) (L r : List Value) (hp : xHp) : (xV k_Past_forgetShelves C 12 L (.ref a :: r) hp) = (xF hp a 5 2 (fun v => xV k_Past_forgetShelves C 15 L (v :: r) hp)) := xVe _ _ _ _ _ _
theorem s_Past_forgetShelves_15 (C : xCx) (r : List Value) (hp : xHp) (x : Int32) (a0 : Value) : (xV k_Past_forgetShelves C 15 [a0, .int x] r hp) = (xV k_Past_forgetShelves C 16 [a0, .int x] (.int x :: r) hp) := xVe _ _ _ _ _ _
theorem s_Past_forgetShelves_16  (C : xCx) (L r : List Value) (hp : xHp) : (xV k_Past_forgetShelves C 16 L (r) hp) = (xV k_Past_forgetShelves C 17 L (.int (0) :: r) hp) := xVe _ _ _ _ _ _
theorem s_Past_forgetShelves_17 (x i : Int32) (a : Nat) (C : xCx) (L r : List Value) (hp : xHp) : (xV k_Past_forgetShelves C 17 L (.int x :: .int i :: .ref a :: r) hp) = (xAi hp a (fun ty n g => (ty = .byte ∨ ty = .boolean) ∧ vp_in i n ∧ xV k_Past_forgetShelves C 18 L r (xup hp a (.inl (ty, n, .inl (upd g i.toNatClampNeg (vp_nar ty x))))))) := xVe _ _ _ _ _ _
theorem s_Past_forgetShelves_18 (C : xCx) (r : List Value) (hp : xHp) (x : Int32) (a0 : Value) : (xV k_Past_forgetShelves C 18 [a0, .int x] r hp) = (xNl [a0, .int x] 1 ∧ xV k_Past_forgetShelves C 21 [a0, .int (x + (1))] r hp) := xVe _ _ _ _ _ _
theorem s_Past_forgetShelves_21 (C : xCx) (L r : List Value) (hp : xHp) : (xV k_Past_forgetShelves C 21 L r hp) = (xV k_Past_forgetShelves C 2 L r hp) := xVe _ _ _ _ _ _
theorem s_Past_forgetShelves_24 (l : Launch) (d b lo gz n0 s0 : Nat) (Po : Option Value → xHp → Prop) (L : List Value) (hp : xHp) : (xV k_Past_forgetShelves (l, d, b, lo, gz, n0, s0, m_Past_forgetShelves, Po) 24 L [] hp) = (Po (none) hp) := xVe _ _ _ _ _ _
theorem fl_Folk_21 : xFl "SunnyOnes$Folk" 21 3 3 := ⟨("SunnyOnes$Folk", F_Folk, 5), rfl, by decide, wg1 133 (by decide +kernel) rfl⟩
def k_Folk_size : List xEC := [
  (0, .aload_n 0, 1, 0, 0, 0, m_x),
  (1, .getfield 21, 4, 3, 3, 0, m_x),
  (4, .ireturn, 5, 0, 0, 0, m_x)]
theorem dc_Folk_size : ∀ E ∈ k_Folk_size, xDc m_Folk_size E := by decide +kernel
set_option maxRecDepth 20000 in
theorem ok_Folk_size : ∀ E ∈ k_Folk_size, xOk m_Folk_size E := xok_of dc_Folk_size (xfc trivial (xfc fl_Folk_21 (xfc trivial (xfn))))
theorem s_Folk_size_0 (C : xCx) (r : List Value) (hp : xHp) (x : Nat) : (xV k_Folk_size C 0 [.ref x] r hp) = (True ∧ xV k_Folk_size C 1 [.ref x] (.ref x :: r) hp) := xVe _ _ _ _ _ _
theorem s_Folk_size_1 (a : Nat) (C : xCx) (L r : List Value) (hp : xHp) : (xV k_Folk_size C 1 L (.ref a :: r) hp) = (xF hp a 3 3 (fun v => xV k_Folk_size C 4 L (v :: r) hp)) := xVe _ _ _ _ _ _
theorem s_Folk_size_4 (v : Int32) (l : Launch) (d b lo gz n0 s0 : Nat) (Po : Option Value → xHp → Prop) (L : List Value) (hp : xHp) : (xV k_Folk_size (l, d, b, lo, gz, n0, s0, m_Folk_size, Po) 4 L [.int v] hp) = (Po (some (.int v)) hp) := xVe _ _ _ _ _ _
def k_Text_number : List xEC := [
  (0, .iconst 0, 1, 0, 0, 0, m_x),
  (1, .istore_n 3, 2, 0, 0, 0, m_x),
  (2, .iconst 0, 3, 0, 0, 0, m_x),
  (3, .istore 4, 5, 0, 0, 0, m_x),
  (5, .iload 4, 7, 0, 0, 0, m_x),
  (7, .iload_n 2, 8, 0, 0, 0, m_x),
  (8, .if_icmp .ge 23, 11, 0, 31, 0, m_x),
  (11, .bipush 10, 13, 0, 0, 0, m_x),
  (13, .iload_n 3, 14, 0, 0, 0, m_x),
  (14, .imul, 15, 0, 0, 0, m_x),
  (15, .aload_n 0, 16, 0, 0, 0, m_x),
  (16, .iload_n 1, 17, 0, 0, 0, m_x),
  (17, .iload 4, 19, 0, 0, 0, m_x),
  (19, .iadd, 20, 0, 0, 0, m_x),
  (20, .invokevirtual 27, 23, 10, 0, 0, m_Text_digit),
  (23, .iadd, 24, 0, 0, 0, m_x),
  (24, .istore_n 3, 25, 0, 0, 0, m_x),
  (25, .iinc 4 1, 28, 0, 0, 0, m_x),
  (28, .goto (-23), 31, 0, 5, 0, m_x),
  (31, .iload_n 3, 32, 0, 0, 0, m_x),
  (32, .ireturn, 33, 0, 0, 0, m_x)]
theorem dc_Text_number : ∀ E ∈ k_Text_number, xDc m_Text_number E := by decide +kernel
set_option maxRecDepth 20000 in
theorem ok_Text_number : ∀ E ∈ k_Text_number, xOk m_Text_number E := xok_of dc_Text_number (xfc trivial (xfc trivial (xfc trivial (xfc trivial (xfc trivial (xfc trivial (xfc (show ((8 : Nat) : Int) + (23) = ((31 : Nat) : Int) from by decide) (xfc trivial (xfc trivial (xfc trivial (xfc trivial (xfc trivial (xfc trivial (xfc trivial (xfc ⟨ml_Text_27, kd_Text_digit⟩ (xfc trivial (xfc trivial (xfc trivial (xfc (show ((28 : Nat) : Int) + (-23) = ((5 : Nat) : Int) from by decide) (xfc trivial (xfc trivial (xfn))))))))))))))))))))))
theorem s_Text_number_0  (C : xCx) (L r : List Value) (hp : xHp) : (xV k_Text_number C 0 L (r) hp) = (xV k_Text_number C 1 L (.int (0) :: r) hp) := xVe _ _ _ _ _ _
theorem s_Text_number_1 (C : xCx) (r : List Value) (hp : xHp) (x : Int32) (a0 a1 a2 a3 a4 : Value) : (xV k_Text_number C 1 [a0, a1, a2, a3, a4] (.int x :: r) hp) = (3 < 5 ∧ xNl [a0, a1, a2, a3, a4] 3 ∧ xV k_Text_number C 2 [a0, a1, a2, .int x, a4] r hp) := xVe _ _ _ _ _ _
theorem s_Text_number_2  (C : xCx) (L r : List Value) (hp : xHp) : (xV k_Text_number C 2 L (r) hp) = (xV k_Text_number C 3 L (.int (0) :: r) hp) := xVe _ _ _ _ _ _
theorem s_Text_number_3 (C : xCx) (r : List Value) (hp : xHp) (x : Int32) (a0 a1 a2 a3 a4 : Value) : (xV k_Text_number C 3 [a0, a1, a2, a3, a4] (.int x :: r) hp) = (4 < 5 ∧ xNl [a0, a1, a2, a3, a4] 4 ∧ xV k_Text_number C 5 [a0, a1, a2, a3, .int x] r hp) := xVe _ _ _ _ _ _
theorem s_Text_number_5 (C : xCx) (r : List Value) (hp : xHp) (x : Int32) (a0 a1 a2 a3 : Value) : (xV k_Text_number C 5 [a0, a1, a2, a3, .int x] r hp) = (xV k_Text_number C 7 [a0, a1, a2, a3, .int x] (.int x :: r) hp) := xVe _ _ _ _ _ _
theorem s_Text_number_7 (C : xCx) (r : List Value) (hp : xHp) (x : Int32) (a0 a1 a3 a4 : Value) : (xV k_Text_number C 7 [a0, a1, .int x, a3, a4] r hp) = (xV k_Text_number C 8 [a0, a1, .int x, a3, a4] (.int x :: r) hp) := xVe _ _ _ _ _ _
theorem s_Text_number_8 (x y : Int32) (C : xCx) (L r : List Value) (hp : xHp) : (xV k_Text_number C 8 L (.int y :: .int x :: r) hp) = (((y ≤ x → xV k_Text_number C 31 L r hp) ∧ (¬ y ≤ x → xV k_Text_number C 11 L r hp))) := xVe _ _ _ _ _ _
theorem s_Text_number_11  (C : xCx) (L r : List Value) (hp : xHp) : (xV k_Text_number C 11 L (r) hp) = (xV k_Text_number C 13 L (.int (10) :: r) hp) := xVe _ _ _ _ _ _
theorem s_Text_number_13 (C : xCx) (r : List Value) (hp : xHp) (x : Int32) (a0 a1 a2 a4 : Value) : (xV k_Text_number C 13 [a0, a1, a2, .int x, a4] r hp) = (xV k_Text_number C 14 [a0, a1, a2, .int x, a4] (.int x :: r) hp) := xVe _ _ _ _ _ _
theorem s_Text_number_14 (x y : Int32) (C : xCx) (L r : List Value) (hp : xHp) : (xV k_Text_number C 14 L (.int y :: .int x :: r) hp) = (xV k_Text_number C 15 L (.int (x * y) :: r) hp) := xVe _ _ _ _ _ _
theorem s_Text_number_15 (C : xCx) (r : List Value) (hp : xHp) (x : Nat) (a1 a2 a3 a4 : Value) : (xV k_Text_number C 15 [.ref x, a1, a2, a3, a4] r hp) = (True ∧ xV k_Text_number C 16 [.ref x, a1, a2, a3, a4] (.ref x :: r) hp) := xVe _ _ _ _ _ _
theorem s_Text_number_16 (C : xCx) (r : List Value) (hp : xHp) (x : Int32) (a0 a2 a3 a4 : Value) : (xV k_Text_number C 16 [a0, .int x, a2, a3, a4] r hp) = (xV k_Text_number C 17 [a0, .int x, a2, a3, a4] (.int x :: r) hp) := xVe _ _ _ _ _ _
theorem s_Text_number_17 (C : xCx) (r : List Value) (hp : xHp) (x : Int32) (a0 a1 a2 a3 : Value) : (xV k_Text_number C 17 [a0, a1, a2, a3, .int x] r hp) = (xV k_Text_number C 19 [a0, a1, a2, a3, .int x] (.int x :: r) hp) := xVe _ _ _ _ _ _
theorem s_Text_number_19 (x y : Int32) (C : xCx) (L r : List Value) (hp : xHp) : (xV k_Text_number C 19 L (.int y :: .int x :: r) hp) = (xV k_Text_number C 20 L (.int (x + y) :: r) hp) := xVe _ _ _ _ _ _
theorem s_Text_number_20 (x0 : Int32) (a : Nat) (l : Launch) (d b lo gz n0 s0 : Nat) (Po : Option Value → xHp → Prop) (L r : List Value) (hp : xHp) : (xV k_Text_number (l, d + 1, b, lo, gz, n0, s0, m_Text_number, Po) 20 L (.int x0 :: .ref a :: r) hp) = (xO hp a 10 ∧ xcs r 8 ∧ xMi l d b lo gz m_Text_digit [.ref a, .int x0] hp (fun x hp' => xV k_Text_number (l, d + 1, b, lo, gz, n0, s0, m_Text_number, Po) 23 L (.int x :: r) hp')) := xVe _ _ _ _ _ _
theorem s_Text_number_23 (x y : Int32) (C : xCx) (L r : List Value) (hp : xHp) : (xV k_Text_number C 23 L (.int y :: .int x :: r) hp) = (xV k_Text_number C 24 L (.int (x + y) :: r) hp) := xVe _ _ _ _ _ _
theorem s_Text_number_24 (C : xCx) (r : List Value) (hp : xHp) (x : Int32) (a0 a1 a2 a3 a4 : Value) : (xV k_Text_number C 24 [a0, a1, a2, a3, a4] (.int x :: r) hp) = (3 < 5 ∧ xNl [a0, a1, a2, a3, a4] 3 ∧ xV k_Text_number C 25 [a0, a1, a2, .int x, a4] r hp) := xVe _ _ _ _ _ _
theorem s_Text_number_25 (C : xCx) (r : List Value) (hp : xHp) (x : Int32) (a0 a1 a2 a3 : Value) : (xV k_Text_number C 25 [a0, a1, a2, a3, .int x] r hp) = (xNl [a0, a1, a2, a3, .int x] 4 ∧ xV k_Text_number C 28 [a0, a1, a2, a3, .int (x + (1))] r hp) := xVe _ _ _ _ _ _
theorem s_Text_number_28 (C : xCx) (L r : List Value) (hp : xHp) : (xV k_Text_number C 28 L r hp) = (xV k_Text_number C 5 L r hp) := xVe _ _ _ _ _ _
theorem s_Text_number_31 (C : xCx) (r : List Value) (hp : xHp) (x : Int32) (a0 a1 a2 a4 : Value) : (xV k_Text_number C 31 [a0, a1, a2, .int x, a4] r hp) = (xV k_Text_number C 32 [a0, a1, a2, .int x, a4] (.int x :: r) hp) := xVe _ _ _ _ _ _
theorem s_Text_number_32 (v : Int32) (l : Launch) (d b lo gz n0 s0 : Nat) (Po : Option Value → xHp → Prop) (L : List Value) (hp : xHp) : (xV k_Text_number (l, d, b, lo, gz, n0, s0, m_Text_number, Po) 32 L [.int v] hp) = (Po (some (.int v)) hp) := xVe _ _ _ _ _ _
theorem ml_Folk_32 : xLk "SunnyOnes$Folk" 32 m_So_put := Or.inr ⟨"SunnyOnes", List.mem_of_getElem? (i := 6) (by decide +kernel)⟩
def k_Folk_add : List xEC := [
  (0, .aload_n 0, 1, 0, 0, 0, m_x),
  (1, .getfield 21, 4, 3, 3, 0, m_x),
  (4, .bipush 7, 6, 0, 0, 0, m_x),
  (6, .if_icmp .ge 49, 9, 0, 55, 0, m_x),
  (9, .aload_n 0, 10, 0, 0, 0, m_x),
  (10, .getfield 9, 13, 3, 0, 0, m_x),
  (13, .aload_n 0, 14, 0, 0, 0, m_x),
  (14, .getfield 21, 17, 3, 3, 0, m_x),
  (17, .iload_n 1, 18, 0, 0, 0, m_x),
  (18, .invokestatic 32, 21, 0, 0, 0, m_So_put),
  (21, .aload_n 0, 22, 0, 0, 0, m_x),
  (22, .getfield 15, 25, 3, 1, 0, m_x),
  (25, .aload_n 0, 26, 0, 0, 0, m_x),
  (26, .getfield 21, 29, 3, 3, 0, m_x),
  (29, .iload_n 2, 30, 0, 0, 0, m_x),
  (30, .invokestatic 32, 33, 0, 0, 0, m_So_put),
  (33, .aload_n 0, 34, 0, 0, 0, m_x),
  (34, .getfield 18, 37, 3, 2, 0, m_x),
  (37, .aload_n 0, 38, 0, 0, 0, m_x),
  (38, .getfield 21, 41, 3, 3, 0, m_x),
  (41, .iconst 0, 42, 0, 0, 0, m_x),
  (42, .invokestatic 32, 45, 0, 0, 0, m_So_put),
  (45, .aload_n 0, 46, 0, 0, 0, m_x),
  (46, .dup, 47, 0, 0, 0, m_x),
  (47, .getfield 21, 50, 3, 3, 0, m_x),
  (50, .iconst 1, 51, 0, 0, 0, m_x),
  (51, .iadd, 52, 0, 0, 0, m_x),
  (52, .putfield 21, 55, 3, 3, 0, m_x),
  (55, .return_, 56, 0, 0, 0, m_x)]
theorem dc_Folk_add : ∀ E ∈ k_Folk_add, xDc m_Folk_add E := by decide +kernel
set_option maxRecDepth 20000 in
theorem ok_Folk_add : ∀ E ∈ k_Folk_add, xOk m_Folk_add E := xok_of dc_Folk_add (xfc trivial (xfc fl_Folk_21 (xfc trivial (xfc (show ((6 : Nat) : Int) + (49) = ((55 : Nat) : Int) from by decide) (xfc trivial (xfc fl_Folk_9 (xfc trivial (xfc fl_Folk_21 (xfc trivial (xfc ⟨ml_Folk_32, kd_So_put⟩ (xfc trivial (xfc fl_Folk_15 (xfc trivial (xfc fl_Folk_21 (xfc trivial (xfc ⟨ml_Folk_32, kd_So_put⟩ (xfc trivial (xfc fl_Folk_18 (xfc trivial (xfc fl_Folk_21 (xfc trivial (xfc ⟨ml_Folk_32, kd_So_put⟩ (xfc trivial (xfc trivial (xfc fl_Folk_21 (xfc trivial (xfc trivial (xfc ⟨fl_Folk_21, fun q h f => by cases h; exact absurd f (by decide)⟩ (xfc trivial (xfn))))))))))))))))))))))))))))))
theorem s_Folk_add_0 (C : xCx) (r : List Value) (hp : xHp) (x : Nat) (a1 a2 : Value) : (xV k_Folk_add C 0 [.ref x, a1, a2] r hp) = (True ∧ xV k_Folk_add C 1 [.ref x, a1, a2] (.ref x :: r) hp) := xVe _ _ _ _ _ _
theorem s_Folk_add_1 (a : Nat) (C : xCx) (L r : List Value) (hp : xHp) : (xV k_Folk_add C 1 L (.ref a :: r) hp) = (xF hp a 3 3 (fun v => xV k_Folk_add C 4 L (v :: r) hp)) := xVe _ _ _ _ _ _
theorem s_Folk_add_4  (C : xCx) (L r : List Value) (hp : xHp) : (xV k_Folk_add C 4 L (r) hp) = (xV k_Folk_add C 6 L (.int (7) :: r) hp) := xVe _ _ _ _ _ _
theorem s_Folk_add_6 (x y : Int32) (C : xCx) (L r : List Value) (hp : xHp) : (xV k_Folk_add C 6 L (.int y :: .int x :: r) hp) = (((y ≤ x → xV k_Folk_add C 55 L r hp) ∧ (¬ y ≤ x → xV k_Folk_add C 9 L r hp))) := xVe _ _ _ _ _ _
theorem s_Folk_add_9 (C : xCx) (r : List Value) (hp : xHp) (x : Nat) (a1 a2 : Value) : (xV k_Folk_add C 9 [.ref x, a1, a2] r hp) = (True ∧ xV k_Folk_add C 10 [.ref x, a1, a2] (.ref x :: r) hp) := xVe _ _ _ _ _ _
theorem s_Folk_add_10 (a : Nat) (C : xCx) (L r : List Value) (hp : xHp) : (xV k_Folk_add C 10 L (.ref a :: r) hp) = (xF hp a 3 0 (fun v => xV k_Folk_add C 13 L (v :: r) hp)) := xVe _ _ _ _ _ _
theorem s_Folk_add_13 (C : xCx) (r : List Value) (hp : xHp) (x : Nat) (a1 a2 : Value) : (xV k_Folk_add C 13 [.ref x, a1, a2] r hp) = (True ∧ xV k_Folk_add C 14 [.ref x, a1, a2] (.ref x :: r) hp) := xVe _ _ _ _ _ _
theorem s_Folk_add_14 (a : Nat) (C : xCx) (L r : List Value) (hp : xHp) : (xV k_Folk_add C 14 L (.ref a :: r) hp) = (xF hp a 3 3 (fun v => xV k_Folk_add C 17 L (v :: r) hp)) := xVe _ _ _ _ _ _
theorem s_Folk_add_17 (C : xCx) (r : List Value) (hp : xHp) (x : Int32) (a0 a2 : Value) : (xV k_Folk_add C 17 [a0, .int x, a2] r hp) = (xV k_Folk_add C 18 [a0, .int x, a2] (.int x :: r) hp) := xVe _ _ _ _ _ _
theorem s_Folk_add_18 (x0 : Nat) (x1 : Int32) (x2 : Int32) (l : Launch) (d b lo gz n0 s0 : Nat) (Po : Option Value → xHp → Prop) (L r : List Value) (hp : xHp) : (xV k_Folk_add (l, d + 1, b, lo, gz, n0, s0, m_Folk_add, Po) 18 L (.int x2 :: .int x1 :: .ref x0 :: r) hp) = (3 ≤ List.length (.int x2 :: .int x1 :: .ref x0 :: r) ∧ xcs r 8 ∧ xMv l d b lo gz m_So_put [.ref x0, .int x1, .int x2] hp (fun hp' => xV k_Folk_add (l, d + 1, b, lo, gz, n0, s0, m_Folk_add, Po) 21 L r hp')) := xVe _ _ _ _ _ _
theorem s_Folk_add_21 (C : xCx) (r : List Value) (hp : xHp) (x : Nat) (a1 a2 : Value) : (xV k_Folk_add C 21 [.ref x, a1, a2] r hp) = (True ∧ xV k_Folk_add C 22 [.ref x, a1, a2] (.ref x :: r) hp) := xVe _ _ _ _ _ _
theorem s_Folk_add_22 (a : Nat) (C : xCx) (L r : List Value) (hp : xHp) : (xV k_Folk_add C 22 L (.ref a :: r) hp) = (xF hp a 3 1 (fun v => xV k_Folk_add C 25 L (v :: r) hp)) := xVe _ _ _ _ _ _
theorem s_Folk_add_25 (C : xCx) (r : List Value) (hp : xHp) (x : Nat) (a1 a2 : Value) : (xV k_Folk_add C 25 [.ref x, a1, a2] r hp) = (True ∧ xV k_Folk_add C 26 [.ref x, a1, a2] (.ref x :: r) hp) := xVe _ _ _ _ _ _
theorem s_Folk_add_26 (a : Nat) (C : xCx) (L r : List Value) (hp : xHp) : (xV k_Folk_add C 26 L (.ref a :: r) hp) = (xF hp a 3 3 (fun v => xV k_Folk_add C 29 L (v :: r) hp)) := xVe _ _ _ _ _ _
theorem s_Folk_add_29 (C : xCx) (r : List Value) (hp : xHp) (x : Int32) (a0 a1 : Value) : (xV k_Folk_add C 29 [a0, a1, .int x] r hp) = (xV k_Folk_add C 30 [a0, a1, .int x] (.int x :: r) hp) := xVe _ _ _ _ _ _
theorem s_Folk_add_30 (x0 : Nat) (x1 : Int32) (x2 : Int32) (l : Launch) (d b lo gz n0 s0 : Nat) (Po : Option Value → xHp → Prop) (L r : List Value) (hp : xHp) : (xV k_Folk_add (l, d + 1, b, lo, gz, n0, s0, m_Folk_add, Po) 30 L (.int x2 :: .int x1 :: .ref x0 :: r) hp) = (3 ≤ List.length (.int x2 :: .int x1 :: .ref x0 :: r) ∧ xcs r 8 ∧ xMv l d b lo gz m_So_put [.ref x0, .int x1, .int x2] hp (fun hp' => xV k_Folk_add (l, d + 1, b, lo, gz, n0, s0, m_Folk_add, Po) 33 L r hp')) := xVe _ _ _ _ _ _
theorem s_Folk_add_33 (C : xCx) (r : List Value) (hp : xHp) (x : Nat) (a1 a2 : Value) : (xV k_Folk_add C 33 [.ref x, a1, a2] r hp) = (True ∧ xV k_Folk_add C 34 [.ref x, a1, a2] (.ref x :: r) hp) := xVe _ _ _ _ _ _
theorem s_Folk_add_34 (a : Nat) (C : xCx) (L r : List Value) (hp : xHp) : (xV k_Folk_add C 34 L (.ref a :: r) hp) = (xF hp a 3 2 (fun v => xV k_Folk_add C 37 L (v :: r) hp)) := xVe _ _ _ _ _ _
theorem s_Folk_add_37 (C : xCx) (r : List Value) (hp : xHp) (x : Nat) (a1 a2 : Value) : (xV k_Folk_add C 37 [.ref x, a1, a2] r hp) = (True ∧ xV k_Folk_add C 38 [.ref x, a1, a2] (.ref x :: r) hp) := xVe _ _ _ _ _ _
theorem s_Folk_add_38 (a : Nat) (C : xCx) (L r : List Value) (hp : xHp) : (xV k_Folk_add C 38 L (.ref a :: r) hp) = (xF hp a 3 3 (fun v => xV k_Folk_add C 41 L (v :: r) hp)) := xVe _ _ _ _ _ _
theorem s_Folk_add_41  (C : xCx) (L r : List Value) (hp : xHp) : (xV k_Folk_add C 41 L (r) hp) = (xV k_Folk_add C 42 L (.int (0) :: r) hp) := xVe _ _ _ _ _ _
theorem s_Folk_add_42 (x0 : Nat) (x1 : Int32) (x2 : Int32) (l : Launch) (d b lo gz n0 s0 : Nat) (Po : Option Value → xHp → Prop) (L r : List Value) (hp : xHp) : (xV k_Folk_add (l, d + 1, b, lo, gz, n0, s0, m_Folk_add, Po) 42 L (.int x2 :: .int x1 :: .ref x0 :: r) hp) = (3 ≤ List.length (.int x2 :: .int x1 :: .ref x0 :: r) ∧ xcs r 8 ∧ xMv l d b lo gz m_So_put [.ref x0, .int x1, .int x2] hp (fun hp' => xV k_Folk_add (l, d + 1, b, lo, gz, n0, s0, m_Folk_add, Po) 45 L r hp')) := xVe _ _ _ _ _ _
theorem s_Folk_add_45 (C : xCx) (r : List Value) (hp : xHp) (x : Nat) (a1 a2 : Value) : (xV k_Folk_add C 45 [.ref x, a1, a2] r hp) = (True ∧ xV k_Folk_add C 46 [.ref x, a1, a2] (.ref x :: r) hp) := xVe _ _ _ _ _ _
theorem s_Folk_add_46 (v : Value) (C : xCx) (L r : List Value) (hp : xHp) : (xV k_Folk_add C 46 L (v :: r) hp) = (v.category = 1 ∧ xV k_Folk_add C 47 L (v :: v :: r) hp) := xVe _ _ _ _ _ _
theorem s_Folk_add_47 (a : Nat) (C : xCx) (L r : List Value) (hp : xHp) : (xV k_Folk_add C 47 L (.ref a :: r) hp) = (xF hp a 3 3 (fun v => xV k_Folk_add C 50 L (v :: r) hp)) := xVe _ _ _ _ _ _
theorem s_Folk_add_50  (C : xCx) (L r : List Value) (hp : xHp) : (xV k_Folk_add C 50 L (r) hp) = (xV k_Folk_add C 51 L (.int (1) :: r) hp) := xVe _ _ _ _ _ _
theorem s_Folk_add_51 (x y : Int32) (C : xCx) (L r : List Value) (hp : xHp) : (xV k_Folk_add C 51 L (.int y :: .int x :: r) hp) = (xV k_Folk_add C 52 L (.int (x + y) :: r) hp) := xVe _ _ _ _ _ _
theorem s_Folk_add_52 (x : Int32) (a : Nat) (C : xCx) (L r : List Value) (hp : xHp) : (xV k_Folk_add C 52 L (.int x :: .ref a :: r) hp) = (True ∧ xPf hp a 3 3 (.int x) (fun hp' => xV k_Folk_add C 55 L r hp')) := xVe _ _ _ _ _ _
theorem s_Folk_add_55 (l : Launch) (d b lo gz n0 s0 : Nat) (Po : Option Value → xHp → Prop) (L : List Value) (hp : xHp) : (xV k_Folk_add (l, d, b, lo, gz, n0, s0, m_Folk_add, Po) 55 L [] hp) = (Po (none) hp) := xVe _ _ _ _ _ _
def k_Text_badDigit : List xEC := [
  (0, .iconst 0, 1, 0, 0, 0, m_x),
  (1, .istore_n 2, 2, 0, 0, 0, m_x),
  (2, .iload_n 2, 3, 0, 0, 0, m_x),
  (3, .aload_n 0, 4, 0, 0, 0, m_x),
  (4, .getfield 15, 7, 10, 1, 0, m_x),
  (7, .if_icmp .ge 27, 10, 0, 34, 0, m_x),
  (10, .iload_n 2, 11, 0, 0, 0, m_x),
  (11, .iload_n 1, 12, 0, 0, 0, m_x),
  (12, .if_icmp .ge 14, 15, 0, 26, 0, m_x),
  (15, .aload_n 0, 16, 0, 0, 0, m_x),
  (16, .iload_n 2, 17, 0, 0, 0, m_x),
  (17, .invokevirtual 19, 20, 10, 0, 0, m_Text_at),
  (20, .invokestatic 23, 23, 0, 0, 0, m_Text_isDigit),
  (23, .ifCond .ne 5, 26, 0, 28, 0, m_x),
  (26, .iload_n 2, 27, 0, 0, 0, m_x),
  (27, .ireturn, 28, 0, 0, 0, m_x),
  (28, .iinc 2 1, 31, 0, 0, 0, m_x),
  (31, .goto (-29), 34, 0, 2, 0, m_x),
  (34, .aload_n 0, 35, 0, 0, 0, m_x),
  (35, .getfield 15, 38, 10, 1, 0, m_x),
  (38, .ifCond .ne 7, 41, 0, 45, 0, m_x),
  (41, .iconst 0, 42, 0, 0, 0, m_x),
  (42, .goto 4, 45, 0, 46, 0, m_x),
  (45, .iconst (-1), 46, 0, 0, 0, m_x),
  (46, .ireturn, 47, 0, 0, 0, m_x)]
theorem dc_Text_badDigit : ∀ E ∈ k_Text_badDigit, xDc m_Text_badDigit E := by decide +kernel
set_option maxRecDepth 20000 in
theorem ok_Text_badDigit : ∀ E ∈ k_Text_badDigit, xOk m_Text_badDigit E := xok_of dc_Text_badDigit (xfc trivial (xfc trivial (xfc trivial (xfc trivial (xfc fl_Text_15 (xfc (show ((7 : Nat) : Int) + (27) = ((34 : Nat) : Int) from by decide) (xfc trivial (xfc trivial (xfc (show ((12 : Nat) : Int) + (14) = ((26 : Nat) : Int) from by decide) (xfc trivial (xfc trivial (xfc ⟨ml_Text_19, kd_Text_at⟩ (xfc ⟨ml_Text_23, kd_Text_isDigit⟩ (xfc (show ((23 : Nat) : Int) + (5) = ((28 : Nat) : Int) from by decide) (xfc trivial (xfc trivial (xfc trivial (xfc (show ((31 : Nat) : Int) + (-29) = ((2 : Nat) : Int) from by decide) (xfc trivial (xfc fl_Text_15 (xfc (show ((38 : Nat) : Int) + (7) = ((45 : Nat) : Int) from by decide) (xfc trivial (xfc (show ((42 : Nat) : Int) + (4) = ((46 : Nat) : Int) from by decide) (xfc trivial (xfc trivial (xfn))))))))))))))))))))))))))
theorem s_Text_badDigit_0  (C : xCx) (L r : List Value) (hp : xHp) : (xV k_Text_badDigit C 0 L (r) hp) = (xV k_Text_badDigit C 1 L (.int (0) :: r) hp) := xVe _ _ _ _ _ _
theorem s_Text_badDigit_1 (C : xCx) (r : List Value) (hp : xHp) (x : Int32) (a0 a1 a2 : Value) : (xV k_Text_badDigit C 1 [a0, a1, a2] (.int x :: r) hp) = (2 < 3 ∧ xNl [a0, a1, a2] 2 ∧ xV k_Text_badDigit C 2 [a0, a1, .int x] r hp) := xVe _ _ _ _ _ _
theorem s_Text_badDigit_2 (C : xCx) (r : List Value) (hp : xHp) (x : Int32) (a0 a1 : Value) : (xV k_Text_badDigit C 2 [a0, a1, .int x] r hp) = (xV k_Text_badDigit C 3 [a0, a1, .int x] (.int x :: r) hp) := xVe _ _ _ _ _ _
theorem s_Text_badDigit_3 (C : xCx) (r : List Value) (hp : xHp) (x : Nat) (a1 a2 : Value) : (xV k_Text_badDigit C 3 [.ref x, a1, a2] r hp) = (True ∧ xV k_Text_badDigit C 4 [.ref x, a1, a2] (.ref x :: r) hp) := xVe _ _ _ _ _ _
theorem s_Text_badDigit_4 (a : Nat) (C : xCx) (L r : List Value) (hp : xHp) : (xV k_Text_badDigit C 4 L (.ref a :: r) hp) = (xF hp a 10 1 (fun v => xV k_Text_badDigit C 7 L (v :: r) hp)) := xVe _ _ _ _ _ _
theorem s_Text_badDigit_7 (x y : Int32) (C : xCx) (L r : List Value) (hp : xHp) : (xV k_Text_badDigit C 7 L (.int y :: .int x :: r) hp) = (((y ≤ x → xV k_Text_badDigit C 34 L r hp) ∧ (¬ y ≤ x → xV k_Text_badDigit C 10 L r hp))) := xVe _ _ _ _ _ _
theorem s_Text_badDigit_10 (C : xCx) (r : List Value) (hp : xHp) (x : Int32) (a0 a1 : Value) : (xV k_Text_badDigit C 10 [a0, a1, .int x] r hp) = (xV k_Text_badDigit C 11 [a0, a1, .int x] (.int x :: r) hp) := xVe _ _ _ _ _ _
theorem s_Text_badDigit_11 (C : xCx) (r : List Value) (hp : xHp) (x : Int32) (a0 a2 : Value) : (xV k_Text_badDigit C 11 [a0, .int x, a2] r hp) = (xV k_Text_badDigit C 12 [a0, .int x, a2] (.int x :: r) hp) := xVe _ _ _ _ _ _
theorem s_Text_badDigit_12 (x y : Int32) (C : xCx) (L r : List Value) (hp : xHp) : (xV k_Text_badDigit C 12 L (.int y :: .int x :: r) hp) = (((y ≤ x → xV k_Text_badDigit C 26 L r hp) ∧ (¬ y ≤ x → xV k_Text_badDigit C 15 L r hp))) := xVe _ _ _ _ _ _
theorem s_Text_badDigit_15 (C : xCx) (r : List Value) (hp : xHp) (x : Nat) (a1 a2 : Value) : (xV k_Text_badDigit C 15 [.ref x, a1, a2] r hp) = (True ∧ xV k_Text_badDigit C 16 [.ref x, a1, a2] (.ref x :: r) hp) := xVe _ _ _ _ _ _
theorem s_Text_badDigit_16 (C : xCx) (r : List Value) (hp : xHp) (x : Int32) (a0 a1 : Value) : (xV k_Text_badDigit C 16 [a0, a1, .int x] r hp) = (xV k_Text_badDigit C 17 [a0, a1, .int x] (.int x :: r) hp) := xVe _ _ _ _ _ _
theorem s_Text_badDigit_17 (x0 : Int32) (a : Nat) (l : Launch) (d b lo gz n0 s0 : Nat) (Po : Option Value → xHp → Prop) (L r : List Value) (hp : xHp) : (xV k_Text_badDigit (l, d + 1, b, lo, gz, n0, s0, m_Text_badDigit, Po) 17 L (.int x0 :: .ref a :: r) hp) = (xO hp a 10 ∧ xcs r 8 ∧ xMi l d b lo gz m_Text_at [.ref a, .int x0] hp (fun x hp' => xV k_Text_badDigit (l, d + 1, b, lo, gz, n0, s0, m_Text_badDigit, Po) 20 L (.int x :: r) hp')) := xVe _ _ _ _ _ _
theorem s_Text_badDigit_20 (x0 : Int32) (l : Launch) (d b lo gz n0 s0 : Nat) (Po : Option Value → xHp → Prop) (L r : List Value) (hp : xHp) : (xV k_Text_badDigit (l, d + 1, b, lo, gz, n0, s0, m_Text_badDigit, Po) 20 L (.int x0 :: r) hp) = (1 ≤ List.length (.int x0 :: r) ∧ xcs r 8 ∧ xMi l d b lo gz m_Text_isDigit [.int x0] hp (fun x hp' => xV k_Text_badDigit (l, d + 1, b, lo, gz, n0, s0, m_Text_badDigit, Po) 23 L (.int x :: r) hp')) := xVe _ _ _ _ _ _
theorem s_Text_badDigit_23 (x : Int32) (C : xCx) (L r : List Value) (hp : xHp) : (xV k_Text_badDigit C 23 L (.int x :: r) hp) = (((¬ x = 0 → xV k_Text_badDigit C 28 L r hp) ∧ (x = 0 → xV k_Text_badDigit C 26 L r hp))) := xVe _ _ _ _ _ _
theorem s_Text_badDigit_26 (C : xCx) (r : List Value) (hp : xHp) (x : Int32) (a0 a1 : Value) : (xV k_Text_badDigit C 26 [a0, a1, .int x] r hp) = (xV k_Text_badDigit C 27 [a0, a1, .int x] (.int x :: r) hp) := xVe _ _ _ _ _ _
theorem s_Text_badDigit_27 (v : Int32) (l : Launch) (d b lo gz n0 s0 : Nat) (Po : Option Value → xHp → Prop) (L : List Value) (hp : xHp) : (xV k_Text_badDigit (l, d, b, lo, gz, n0, s0, m_Text_badDigit, Po) 27 L [.int v] hp) = (Po (some (.int v)) hp) := xVe _ _ _ _ _ _
theorem s_Text_badDigit_28 (C : xCx) (r : List Value) (hp : xHp) (x : Int32) (a0 a1 : Value) : (xV k_Text_badDigit C 28 [a0, a1, .int x] r hp) = (xNl [a0, a1, .int x] 2 ∧ xV k_Text_badDigit C 31 [a0, a1, .int (x + (1))] r hp) := xVe _ _ _ _ _ _
theorem s_Text_badDigit_31 (C : xCx) (L r : List Value) (hp : xHp) : (xV k_Text_badDigit C 31 L r hp) = (xV k_Text_badDigit C 2 L r hp) := xVe _ _ _ _ _ _
theorem s_Text_badDigit_34 (C : xCx) (r : List Value) (hp : xHp) (x : Nat) (a1 a2 : Value) : (xV k_Text_badDigit C 34 [.ref x, a1, a2] r hp) = (True ∧ xV k_Text_badDigit C 35 [.ref x, a1, a2] (.ref x :: r) hp) := xVe _ _ _ _ _ _
theorem s_Text_badDigit_35 (a : Nat) (C : xCx) (L r : List Value) (hp : xHp) : (xV k_Text_badDigit C 35 L (.ref a :: r) hp) = (xF hp a 10 1 (fun v => xV k_Text_badDigit C 38 L (v :: r) hp)) := xVe _ _ _ _ _ _
theorem s_Text_badDigit_38 (x : Int32) (C : xCx) (L r : List Value) (hp : xHp) : (xV k_Text_badDigit C 38 L (.int x :: r) hp) = (((¬ x = 0 → xV k_Text_badDigit C 45 L r hp) ∧ (x = 0 → xV k_Text_badDigit C 41 L r hp))) := xVe _ _ _ _ _ _
theorem s_Text_badDigit_41  (C : xCx) (L r : List Value) (hp : xHp) : (xV k_Text_badDigit C 41 L (r) hp) = (xV k_Text_badDigit C 42 L (.int (0) :: r) hp) := xVe _ _ _ _ _ _
theorem s_Text_badDigit_42 (C : xCx) (L r : List Value) (hp : xHp) : (xV k_Text_badDigit C 42 L r hp) = (xV k_Text_badDigit C 46 L r hp) := xVe _ _ _ _ _ _
theorem s_Text_badDigit_45  (C : xCx) (L r : List Value) (hp : xHp) : (xV k_Text_badDigit C 45 L (r) hp) = (xV k_Text_badDigit C 46 L (.int (-1) :: r) hp) := xVe _ _ _ _ _ _
theorem s_Text_badDigit_46 (v : Int32) (l : Launch) (d b lo gz n0 s0 : Nat) (Po : Option Value → xHp → Prop) (L : List Value) (hp : xHp) : (xV k_Text_badDigit (l, d, b, lo, gz, n0, s0, m_Text_badDigit, Po) 46 L [.int v] hp) = (Po (some (.int v)) hp) := xVe _ _ _ _ _ _
theorem ml_Land_41 : xLk "SunnyOnes$Land" 41 m_Text_length := Or.inl (wg2 194 (by decide +kernel) rfl)
theorem ml_Land_47 : xLk "SunnyOnes$Land" 47 m_Text_digit := Or.inl (wg2 195 (by decide +kernel) rfl)
def k_Land_takeSkies : List xEC := [
  (0, .aload_n 0, 1, 0, 0, 0, m_x),
  (1, .aload_n 1, 2, 0, 0, 0, m_x),
  (2, .invokevirtual 41, 5, 10, 0, 0, m_Text_length),
  (5, .putfield 22, 8, 4, 3, 0, m_x),
  (8, .iconst 0, 9, 0, 0, 0, m_x),
  (9, .istore_n 2, 10, 0, 0, 0, m_x),
  (10, .iload_n 2, 11, 0, 0, 0, m_x),
  (11, .aload_n 0, 12, 0, 0, 0, m_x),
  (12, .getfield 22, 15, 4, 3, 0, m_x),
  (15, .if_icmp .ge 22, 18, 0, 37, 0, m_x),
  (18, .aload_n 0, 19, 0, 0, 0, m_x),
  (19, .getfield 15, 22, 4, 1, 0, m_x),
  (22, .iload_n 2, 23, 0, 0, 0, m_x),
  (23, .aload_n 1, 24, 0, 0, 0, m_x),
  (24, .iload_n 2, 25, 0, 0, 0, m_x),
  (25, .invokevirtual 47, 28, 10, 0, 0, m_Text_digit),
  (28, .invokestatic 18, 31, 0, 0, 0, m_So_put),
  (31, .iinc 2 1, 34, 0, 0, 0, m_x),
  (34, .goto (-24), 37, 0, 10, 0, m_x),
  (37, .return_, 38, 0, 0, 0, m_x)]
theorem dc_Land_takeSkies : ∀ E ∈ k_Land_takeSkies, xDc m_Land_takeSkies E := by decide +kernel
set_option maxRecDepth 20000 in
theorem ok_Land_takeSkies : ∀ E ∈ k_Land_takeSkies, xOk m_Land_takeSkies E := xok_of dc_Land_takeSkies (xfc trivial (xfc trivial (xfc ⟨ml_Land_41, kd_Text_length⟩ (xfc ⟨fl_Land_22, fun q h f => by cases h; exact absurd f (by decide)⟩ (xfc trivial (xfc trivial (xfc trivial (xfc trivial (xfc fl_Land_22 (xfc (show ((15 : Nat) : Int) + (22) = ((37 : Nat) : Int) from by decide) (xfc trivial (xfc fl_Land_15 (xfc trivial (xfc trivial (xfc trivial (xfc ⟨ml_Land_47, kd_Text_digit⟩ (xfc ⟨ml_Land_18, kd_So_put⟩ (xfc trivial (xfc (show ((34 : Nat) : Int) + (-24) = ((10 : Nat) : Int) from by decide) (xfc trivial (xfn)))))))))))))))))))))
theorem s_Land_takeSkies_0 (C : xCx) (r : List Value) (hp : xHp) (x : Nat) (a1 a2 : Value) : (xV k_Land_takeSkies C 0 [.ref x, a1, a2] r hp) = (True ∧ xV k_Land_takeSkies C 1 [.ref x, a1, a2] (.ref x :: r) hp) := xVe _ _ _ _ _ _
theorem s_Land_takeSkies_1 (C : xCx) (r : List Value) (hp : xHp) (x : Nat) (a0 a2 : Value) : (xV k_Land_takeSkies C 1 [a0, .ref x, a2] r hp) = (True ∧ xV k_Land_takeSkies C 2 [a0, .ref x, a2] (.ref x :: r) hp) := xVe _ _ _ _ _ _
theorem s_Land_takeSkies_2 (a : Nat) (l : Launch) (d b lo gz n0 s0 : Nat) (Po : Option Value → xHp → Prop) (L r : List Value) (hp : xHp) : (xV k_Land_takeSkies (l, d + 1, b, lo, gz, n0, s0, m_Land_takeSkies, Po) 2 L (.ref a :: r) hp) = (xO hp a 10 ∧ xcs r 8 ∧ xMi l d b lo gz m_Text_length [.ref a] hp (fun x hp' => xV k_Land_takeSkies (l, d + 1, b, lo, gz, n0, s0, m_Land_takeSkies, Po) 5 L (.int x :: r) hp')) := xVe _ _ _ _ _ _
theorem s_Land_takeSkies_5 (x : Int32) (a : Nat) (C : xCx) (L r : List Value) (hp : xHp) : (xV k_Land_takeSkies C 5 L (.int x :: .ref a :: r) hp) = (True ∧ xPf hp a 4 3 (.int x) (fun hp' => xV k_Land_takeSkies C 8 L r hp')) := xVe _ _ _ _ _ _
theorem s_Land_takeSkies_8  (C : xCx) (L r : List Value) (hp : xHp) : (xV k_Land_takeSkies C 8 L (r) hp) = (xV k_Land_takeSkies C 9 L (.int (0) :: r) hp) := xVe _ _ _ _ _ _
theorem s_Land_takeSkies_9 (C : xCx) (r : List Value) (hp : xHp) (x : Int32) (a0 a1 a2 : Value) : (xV k_Land_takeSkies C 9 [a0, a1, a2] (.int x :: r) hp) = (2 < 3 ∧ xNl [a0, a1, a2] 2 ∧ xV k_Land_takeSkies C 10 [a0, a1, .int x] r hp) := xVe _ _ _ _ _ _
theorem s_Land_takeSkies_10 (C : xCx) (r : List Value) (hp : xHp) (x : Int32) (a0 a1 : Value) : (xV k_Land_takeSkies C 10 [a0, a1, .int x] r hp) = (xV k_Land_takeSkies C 11 [a0, a1, .int x] (.int x :: r) hp) := xVe _ _ _ _ _ _
theorem s_Land_takeSkies_11 (C : xCx) (r : List Value) (hp : xHp) (x : Nat) (a1 a2 : Value) : (xV k_Land_takeSkies C 11 [.ref x, a1, a2] r hp) = (True ∧ xV k_Land_takeSkies C 12 [.ref x, a1, a2] (.ref x :: r) hp) := xVe _ _ _ _ _ _
theorem s_Land_takeSkies_12 (a : Nat) (C : xCx) (L r : List Value) (hp : xHp) : (xV k_Land_takeSkies C 12 L (.ref a :: r) hp) = (xF hp a 4 3 (fun v => xV k_Land_takeSkies C 15 L (v :: r) hp)) := xVe _ _ _ _ _ _
theorem s_Land_takeSkies_15 (x y : Int32) (C : xCx) (L r : List Value) (hp : xHp) : (xV k_Land_takeSkies C 15 L (.int y :: .int x :: r) hp) = (((y ≤ x → xV k_Land_takeSkies C 37 L r hp) ∧ (¬ y ≤ x → xV k_Land_takeSkies C 18 L r hp))) := xVe _ _ _ _ _ _
theorem s_Land_takeSkies_18 (C : xCx) (r : List Value) (hp : xHp) (x : Nat) (a1 a2 : Value) : (xV k_Land_takeSkies C 18 [.ref x, a1, a2] r hp) = (True ∧ xV k_Land_takeSkies C 19 [.ref x, a1, a2] (.ref x :: r) hp) := xVe _ _ _ _ _ _
theorem s_Land_takeSkies_19 (a : Nat) (C : xCx) (L r : List Value) (hp : xHp) : (xV k_Land_takeSkies C 19 L (.ref a :: r) hp) = (xF hp a 4 1 (fun v => xV k_Land_takeSkies C 22 L (v :: r) hp)) := xVe _ _ _ _ _ _
theorem s_Land_takeSkies_22 (C : xCx) (r : List Value) (hp : xHp) (x : Int32) (a0 a1 : Value) : (xV k_Land_takeSkies C 22 [a0, a1, .int x] r hp) = (xV k_Land_takeSkies C 23 [a0, a1, .int x] (.int x :: r) hp) := xVe _ _ _ _ _ _
theorem s_Land_takeSkies_23 (C : xCx) (r : List Value) (hp : xHp) (x : Nat) (a0 a2 : Value) : (xV k_Land_takeSkies C 23 [a0, .ref x, a2] r hp) = (True ∧ xV k_Land_takeSkies C 24 [a0, .ref x, a2] (.ref x :: r) hp) := xVe _ _ _ _ _ _
theorem s_Land_takeSkies_24 (C : xCx) (r : List Value) (hp : xHp) (x : Int32) (a0 a1 : Value) : (xV k_Land_takeSkies C 24 [a0, a1, .int x] r hp) = (xV k_Land_takeSkies C 25 [a0, a1, .int x] (.int x :: r) hp) := xVe _ _ _ _ _ _
theorem s_Land_takeSkies_25 (x0 : Int32) (a : Nat) (l : Launch) (d b lo gz n0 s0 : Nat) (Po : Option Value → xHp → Prop) (L r : List Value) (hp : xHp) : (xV k_Land_takeSkies (l, d + 1, b, lo, gz, n0, s0, m_Land_takeSkies, Po) 25 L (.int x0 :: .ref a :: r) hp) = (xO hp a 10 ∧ xcs r 8 ∧ xMi l d b lo gz m_Text_digit [.ref a, .int x0] hp (fun x hp' => xV k_Land_takeSkies (l, d + 1, b, lo, gz, n0, s0, m_Land_takeSkies, Po) 28 L (.int x :: r) hp')) := xVe _ _ _ _ _ _
theorem s_Land_takeSkies_28 (x0 : Nat) (x1 : Int32) (x2 : Int32) (l : Launch) (d b lo gz n0 s0 : Nat) (Po : Option Value → xHp → Prop) (L r : List Value) (hp : xHp) : (xV k_Land_takeSkies (l, d + 1, b, lo, gz, n0, s0, m_Land_takeSkies, Po) 28 L (.int x2 :: .int x1 :: .ref x0 :: r) hp) = (3 ≤ List.length (.int x2 :: .int x1 :: .ref x0 :: r) ∧ xcs r 8 ∧ xMv l d b lo gz m_So_put [.ref x0, .int x1, .int x2] hp (fun hp' => xV k_Land_takeSkies (l, d + 1, b, lo, gz, n0, s0, m_Land_takeSkies, Po) 31 L r hp')) := xVe _ _ _ _ _ _
theorem s_Land_takeSkies_31 (C : xCx) (r : List Value) (hp : xHp) (x : Int32) (a0 a1 : Value) : (xV k_Land_takeSkies C 31 [a0, a1, .int x] r hp) = (xNl [a0, a1, .int x] 2 ∧ xV k_Land_takeSkies C 34 [a0, a1, .int (x + (1))] r hp) := xVe _ _ _ _ _ _
theorem s_Land_takeSkies_34 (C : xCx) (L r : List Value) (hp : xHp) : (xV k_Land_takeSkies C 34 L r hp) = (xV k_Land_takeSkies C 10 L r hp) := xVe _ _ _ _ _ _
theorem s_Land_takeSkies_37 (l : Launch) (d b lo gz n0 s0 : Nat) (Po : Option Value → xHp → Prop) (L : List Value) (hp : xHp) : (xV k_Land_takeSkies (l, d, b, lo, gz, n0, s0, m_Land_takeSkies, Po) 37 L [] hp) = (Po (none) hp) := xVe _ _ _ _ _ _
theorem ml_Land_37 : xLk "SunnyOnes$Land" 37 m_So_within := Or.inr ⟨"SunnyOnes", List.mem_of_getElem? (i := 9) (by decide +kernel)⟩
def k_Land_lightAll : List xEC := [
  (0, .iload_n 3, 1, 0, 0, 0, m_x),
  (1, .istore 5, 3, 0, 0, 0, m_x),
  (3, .iconst 0, 4, 0, 0, 0, m_x),
  (4, .istore 6, 6, 0, 0, 0, m_x),
  (6, .iload 6, 8, 0, 0, 0, m_x),
  (8, .aload_n 0, 9, 0, 0, 0, m_x),
  (9, .getfield 26, 12, 4, 2, 0, m_x),
  (12, .if_icmp .ge 68, 15, 0, 80, 0, m_x),
  (15, .iload_n 1, 16, 0, 0, 0, m_x),
  (16, .ifCond .ne 9, 19, 0, 25, 0, m_x),
  (19, .iload 5, 21, 0, 0, 0, m_x),
  (21, .i2b, 22, 0, 0, 0, m_x),
  (22, .goto 16, 25, 0, 38, 0, m_x),
  (25, .iload_n 1, 26, 0, 0, 0, m_x),
  (26, .iconst 1, 27, 0, 0, 0, m_x),
  (27, .if_icmp .ne 9, 30, 0, 36, 0, m_x),
  (30, .iload 5, 32, 0, 0, 0, m_x),
  (32, .i2s, 33, 0, 0, 0, m_x),
  (33, .goto 5, 36, 0, 38, 0, m_x),
  (36, .iload 5, 38, 0, 0, 0, m_x),
  (38, .istore 7, 40, 0, 0, 0, m_x),
  (40, .aload_n 0, 41, 0, 0, 0, m_x),
  (41, .getfield 9, 44, 4, 0, 0, m_x),
  (44, .iload 6, 46, 0, 0, 0, m_x),
  (46, .iload 6, 48, 0, 0, 0, m_x),
  (48, .iload_n 2, 49, 0, 0, 0, m_x),
  (49, .if_icmp .ge 14, 52, 0, 63, 0, m_x),
  (52, .iload 7, 54, 0, 0, 0, m_x),
  (54, .iconst 0, 55, 0, 0, 0, m_x),
  (55, .bipush 9, 57, 0, 0, 0, m_x),
  (57, .invokestatic 37, 60, 0, 0, 0, m_So_within),
  (60, .goto 4, 63, 0, 64, 0, m_x),
  (63, .iconst 0, 64, 0, 0, 0, m_x),
  (64, .invokestatic 18, 67, 0, 0, 0, m_So_put),
  (67, .iload 5, 69, 0, 0, 0, m_x),
  (69, .iload 4, 71, 0, 0, 0, m_x),
  (71, .iadd, 72, 0, 0, 0, m_x),
  (72, .istore 5, 74, 0, 0, 0, m_x),
  (74, .iinc 6 1, 77, 0, 0, 0, m_x),
  (77, .goto (-71), 80, 0, 6, 0, m_x),
  (80, .return_, 81, 0, 0, 0, m_x)]
theorem dc_Land_lightAll : ∀ E ∈ k_Land_lightAll, xDc m_Land_lightAll E := by decide +kernel
set_option maxRecDepth 20000 in
theorem ok_Land_lightAll : ∀ E ∈ k_Land_lightAll, xOk m_Land_lightAll E := xok_of dc_Land_lightAll (xfc trivial (xfc trivial (xfc trivial (xfc trivial (xfc trivial (xfc trivial (xfc fl_Land_26 (xfc (show ((12 : Nat) : Int) + (68) = ((80 : Nat) : Int) from by decide) (xfc trivial (xfc (show ((16 : Nat) : Int) + (9) = ((25 : Nat) : Int) from by decide) (xfc trivial (xfc trivial (xfc (show ((22 : Nat) : Int) + (16) = ((38 : Nat) : Int) from by decide) (xfc trivial (xfc trivial (xfc (show ((27 : Nat) : Int) + (9) = ((36 : Nat) : Int) from by decide) (xfc trivial (xfc trivial (xfc (show ((33 : Nat) : Int) + (5) = ((38 : Nat) : Int) from by decide) (xfc trivial (xfc trivial (xfc trivial (xfc fl_Land_9 (xfc trivial (xfc trivial (xfc trivial (xfc (show ((49 : Nat) : Int) + (14) = ((63 : Nat) : Int) from by decide) (xfc trivial (xfc trivial (xfc trivial (xfc ⟨ml_Land_37, kd_So_within⟩ (xfc (show ((60 : Nat) : Int) + (4) = ((64 : Nat) : Int) from by decide) (xfc trivial (xfc ⟨ml_Land_18, kd_So_put⟩ (xfc trivial (xfc trivial (xfc trivial (xfc trivial (xfc trivial (xfc (show ((77 : Nat) : Int) + (-71) = ((6 : Nat) : Int) from by decide) (xfc trivial (xfn))))))))))))))))))))))))))))))))))))))))))
theorem s_Land_lightAll_0 (C : xCx) (r : List Value) (hp : xHp) (x : Int32) (a0 a1 a2 a4 a5 a6 a7 : Value) : (xV k_Land_lightAll C 0 [a0, a1, a2, .int x, a4, a5, a6, a7] r hp) = (xV k_Land_lightAll C 1 [a0, a1, a2, .int x, a4, a5, a6, a7] (.int x :: r) hp) := xVe _ _ _ _ _ _
theorem s_Land_lightAll_1 (C : xCx) (r : List Value) (hp : xHp) (x : Int32) (a0 a1 a2 a3 a4 a5 a6 a7 : Value) : (xV k_Land_lightAll C 1 [a0, a1, a2, a3, a4, a5, a6, a7] (.int x :: r) hp) = (5 < 8 ∧ xNl [a0, a1, a2, a3, a4, a5, a6, a7] 5 ∧ xV k_Land_lightAll C 3 [a0, a1, a2, a3, a4, .int x, a6, a7] r hp) := xVe _ _ _ _ _ _
theorem s_Land_lightAll_3  (C : xCx) (L r : List Value) (hp : xHp) : (xV k_Land_lightAll C 3 L (r) hp) = (xV k_Land_lightAll C 4 L (.int (0) :: r) hp) := xVe _ _ _ _ _ _
theorem s_Land_lightAll_4 (C : xCx) (r : List Value) (hp : xHp) (x : Int32) (a0 a1 a2 a3 a4 a5 a6 a7 : Value) : (xV k_Land_lightAll C 4 [a0, a1, a2, a3, a4, a5, a6, a7] (.int x :: r) hp) = (6 < 8 ∧ xNl [a0, a1, a2, a3, a4, a5, a6, a7] 6 ∧ xV k_Land_lightAll C 6 [a0, a1, a2, a3, a4, a5, .int x, a7] r hp) := xVe _ _ _ _ _ _
theorem s_Land_lightAll_6 (C : xCx) (r : List Value) (hp : xHp) (x : Int32) (a0 a1 a2 a3 a4 a5 a7 : Value) : (xV k_Land_lightAll C 6 [a0, a1, a2, a3, a4, a5, .int x, a7] r hp) = (xV k_Land_lightAll C 8 [a0, a1, a2, a3, a4, a5, .int x, a7] (.int x :: r) hp) := xVe _ _ _ _ _ _
theorem s_Land_lightAll_8 (C : xCx) (r : List Value) (hp : xHp) (x : Nat) (a1 a2 a3 a4 a5 a6 a7 : Value) : (xV k_Land_lightAll C 8 [.ref x, a1, a2, a3, a4, a5, a6, a7] r hp) = (True ∧ xV k_Land_lightAll C 9 [.ref x, a1, a2, a3, a4, a5, a6, a7] (.ref x :: r) hp) := xVe _ _ _ _ _ _
theorem s_Land_lightAll_9 (a : Nat) (C : xCx) (L r : List Value) (hp : xHp) : (xV k_Land_lightAll C 9 L (.ref a :: r) hp) = (xF hp a 4 2 (fun v => xV k_Land_lightAll C 12 L (v :: r) hp)) := xVe _ _ _ _ _ _
theorem s_Land_lightAll_12 (x y : Int32) (C : xCx) (L r : List Value) (hp : xHp) : (xV k_Land_lightAll C 12 L (.int y :: .int x :: r) hp) = (((y ≤ x → xV k_Land_lightAll C 80 L r hp) ∧ (¬ y ≤ x → xV k_Land_lightAll C 15 L r hp))) := xVe _ _ _ _ _ _
theorem s_Land_lightAll_15 (C : xCx) (r : List Value) (hp : xHp) (x : Int32) (a0 a2 a3 a4 a5 a6 a7 : Value) : (xV k_Land_lightAll C 15 [a0, .int x, a2, a3, a4, a5, a6, a7] r hp) = (xV k_Land_lightAll C 16 [a0, .int x, a2, a3, a4, a5, a6, a7] (.int x :: r) hp) := xVe _ _ _ _ _ _
theorem s_Land_lightAll_16 (x : Int32) (C : xCx) (L r : List Value) (hp : xHp) : (xV k_Land_lightAll C 16 L (.int x :: r) hp) = (((¬ x = 0 → xV k_Land_lightAll C 25 L r hp) ∧ (x = 0 → xV k_Land_lightAll C 19 L r hp))) := xVe _ _ _ _ _ _
theorem s_Land_lightAll_19 (C : xCx) (r : List Value) (hp : xHp) (x : Int32) (a0 a1 a2 a3 a4 a6 a7 : Value) : (xV k_Land_lightAll C 19 [a0, a1, a2, a3, a4, .int x, a6, a7] r hp) = (xV k_Land_lightAll C 21 [a0, a1, a2, a3, a4, .int x, a6, a7] (.int x :: r) hp) := xVe _ _ _ _ _ _
theorem s_Land_lightAll_21 (x : Int32) (C : xCx) (L r : List Value) (hp : xHp) : (xV k_Land_lightAll C 21 L (.int x :: r) hp) = (xV k_Land_lightAll C 22 L (.int x.toInt8.toInt32 :: r) hp) := xVe _ _ _ _ _ _
theorem s_Land_lightAll_22 (C : xCx) (L r : List Value) (hp : xHp) : (xV k_Land_lightAll C 22 L r hp) = (xV k_Land_lightAll C 38 L r hp) := xVe _ _ _ _ _ _
theorem s_Land_lightAll_25 (C : xCx) (r : List Value) (hp : xHp) (x : Int32) (a0 a2 a3 a4 a5 a6 a7 : Value) : (xV k_Land_lightAll C 25 [a0, .int x, a2, a3, a4, a5, a6, a7] r hp) = (xV k_Land_lightAll C 26 [a0, .int x, a2, a3, a4, a5, a6, a7] (.int x :: r) hp) := xVe _ _ _ _ _ _
theorem s_Land_lightAll_26  (C : xCx) (L r : List Value) (hp : xHp) : (xV k_Land_lightAll C 26 L (r) hp) = (xV k_Land_lightAll C 27 L (.int (1) :: r) hp) := xVe _ _ _ _ _ _
theorem s_Land_lightAll_27 (x y : Int32) (C : xCx) (L r : List Value) (hp : xHp) : (xV k_Land_lightAll C 27 L (.int y :: .int x :: r) hp) = (((¬ x = y → xV k_Land_lightAll C 36 L r hp) ∧ (x = y → xV k_Land_lightAll C 30 L r hp))) := xVe _ _ _ _ _ _
theorem s_Land_lightAll_30 (C : xCx) (r : List Value) (hp : xHp) (x : Int32) (a0 a1 a2 a3 a4 a6 a7 : Value) : (xV k_Land_lightAll C 30 [a0, a1, a2, a3, a4, .int x, a6, a7] r hp) = (xV k_Land_lightAll C 32 [a0, a1, a2, a3, a4, .int x, a6, a7] (.int x :: r) hp) := xVe _ _ _ _ _ _
theorem s_Land_lightAll_32 (x : Int32) (C : xCx) (L r : List Value) (hp : xHp) : (xV k_Land_lightAll C 32 L (.int x :: r) hp) = (xV k_Land_lightAll C 33 L (.int x.toInt16.toInt32 :: r) hp) := xVe _ _ _ _ _ _
theorem s_Land_lightAll_33 (C : xCx) (L r : List Value) (hp : xHp) : (xV k_Land_lightAll C 33 L r hp) = (xV k_Land_lightAll C 38 L r hp) := xVe _ _ _ _ _ _
theorem s_Land_lightAll_36 (C : xCx) (r : List Value) (hp : xHp) (x : Int32) (a0 a1 a2 a3 a4 a6 a7 : Value) : (xV k_Land_lightAll C 36 [a0, a1, a2, a3, a4, .int x, a6, a7] r hp) = (xV k_Land_lightAll C 38 [a0, a1, a2, a3, a4, .int x, a6, a7] (.int x :: r) hp) := xVe _ _ _ _ _ _
theorem s_Land_lightAll_38 (C : xCx) (r : List Value) (hp : xHp) (x : Int32) (a0 a1 a2 a3 a4 a5 a6 a7 : Value) : (xV k_Land_lightAll C 38 [a0, a1, a2, a3, a4, a5, a6, a7] (.int x :: r) hp) = (7 < 8 ∧ xNl [a0, a1, a2, a3, a4, a5, a6, a7] 7 ∧ xV k_Land_lightAll C 40 [a0, a1, a2, a3, a4, a5, a6, .int x] r hp) := xVe _ _ _ _ _ _
theorem s_Land_lightAll_40 (C : xCx) (r : List Value) (hp : xHp) (x : Nat) (a1 a2 a3 a4 a5 a6 a7 : Value) : (xV k_Land_lightAll C 40 [.ref x, a1, a2, a3, a4, a5, a6, a7] r hp) = (True ∧ xV k_Land_lightAll C 41 [.ref x, a1, a2, a3, a4, a5, a6, a7] (.ref x :: r) hp) := xVe _ _ _ _ _ _
theorem s_Land_lightAll_41 (a : Nat) (C : xCx) (L r : List Value) (hp : xHp) : (xV k_Land_lightAll C 41 L (.ref a :: r) hp) = (xF hp a 4 0 (fun v => xV k_Land_lightAll C 44 L (v :: r) hp)) := xVe _ _ _ _ _ _
theorem s_Land_lightAll_44 (C : xCx) (r : List Value) (hp : xHp) (x : Int32) (a0 a1 a2 a3 a4 a5 a7 : Value) : (xV k_Land_lightAll C 44 [a0, a1, a2, a3, a4, a5, .int x, a7] r hp) = (xV k_Land_lightAll C 46 [a0, a1, a2, a3, a4, a5, .int x, a7] (.int x :: r) hp) := xVe _ _ _ _ _ _
theorem s_Land_lightAll_46 (C : xCx) (r : List Value) (hp : xHp) (x : Int32) (a0 a1 a2 a3 a4 a5 a7 : Value) : (xV k_Land_lightAll C 46 [a0, a1, a2, a3, a4, a5, .int x, a7] r hp) = (xV k_Land_lightAll C 48 [a0, a1, a2, a3, a4, a5, .int x, a7] (.int x :: r) hp) := xVe _ _ _ _ _ _
theorem s_Land_lightAll_48 (C : xCx) (r : List Value) (hp : xHp) (x : Int32) (a0 a1 a3 a4 a5 a6 a7 : Value) : (xV k_Land_lightAll C 48 [a0, a1, .int x, a3, a4, a5, a6, a7] r hp) = (xV k_Land_lightAll C 49 [a0, a1, .int x, a3, a4, a5, a6, a7] (.int x :: r) hp) := xVe _ _ _ _ _ _
theorem s_Land_lightAll_49 (x y : Int32) (C : xCx) (L r : List Value) (hp : xHp) : (xV k_Land_lightAll C 49 L (.int y :: .int x :: r) hp) = (((y ≤ x → xV k_Land_lightAll C 63 L r hp) ∧ (¬ y ≤ x → xV k_Land_lightAll C 52 L r hp))) := xVe _ _ _ _ _ _
theorem s_Land_lightAll_52 (C : xCx) (r : List Value) (hp : xHp) (x : Int32) (a0 a1 a2 a3 a4 a5 a6 : Value) : (xV k_Land_lightAll C 52 [a0, a1, a2, a3, a4, a5, a6, .int x] r hp) = (xV k_Land_lightAll C 54 [a0, a1, a2, a3, a4, a5, a6, .int x] (.int x :: r) hp) := xVe _ _ _ _ _ _
theorem s_Land_lightAll_54  (C : xCx) (L r : List Value) (hp : xHp) : (xV k_Land_lightAll C 54 L (r) hp) = (xV k_Land_lightAll C 55 L (.int (0) :: r) hp) := xVe _ _ _ _ _ _
theorem s_Land_lightAll_55  (C : xCx) (L r : List Value) (hp : xHp) : (xV k_Land_lightAll C 55 L (r) hp) = (xV k_Land_lightAll C 57 L (.int (9) :: r) hp) := xVe _ _ _ _ _ _
theorem s_Land_lightAll_57 (x0 : Int32) (x1 : Int32) (x2 : Int32) (l : Launch) (d b lo gz n0 s0 : Nat) (Po : Option Value → xHp → Prop) (L r : List Value) (hp : xHp) : (xV k_Land_lightAll (l, d + 1, b, lo, gz, n0, s0, m_Land_lightAll, Po) 57 L (.int x2 :: .int x1 :: .int x0 :: r) hp) = (3 ≤ List.length (.int x2 :: .int x1 :: .int x0 :: r) ∧ xcs r 8 ∧ xMi l d b lo gz m_So_within [.int x0, .int x1, .int x2] hp (fun x hp' => xV k_Land_lightAll (l, d + 1, b, lo, gz, n0, s0, m_Land_lightAll, Po) 60 L (.int x :: r) hp')) := xVe _ _ _ _ _ _
theorem s_Land_lightAll_60 (C : xCx) (L r : List Value) (hp : xHp) : (xV k_Land_lightAll C 60 L r hp) = (xV k_Land_lightAll C 64 L r hp) := xVe _ _ _ _ _ _
theorem s_Land_lightAll_63  (C : xCx) (L r : List Value) (hp : xHp) : (xV k_Land_lightAll C 63 L (r) hp) = (xV k_Land_lightAll C 64 L (.int (0) :: r) hp) := xVe _ _ _ _ _ _
theorem s_Land_lightAll_64 (x0 : Nat) (x1 : Int32) (x2 : Int32) (l : Launch) (d b lo gz n0 s0 : Nat) (Po : Option Value → xHp → Prop) (L r : List Value) (hp : xHp) : (xV k_Land_lightAll (l, d + 1, b, lo, gz, n0, s0, m_Land_lightAll, Po) 64 L (.int x2 :: .int x1 :: .ref x0 :: r) hp) = (3 ≤ List.length (.int x2 :: .int x1 :: .ref x0 :: r) ∧ xcs r 8 ∧ xMv l d b lo gz m_So_put [.ref x0, .int x1, .int x2] hp (fun hp' => xV k_Land_lightAll (l, d + 1, b, lo, gz, n0, s0, m_Land_lightAll, Po) 67 L r hp')) := xVe _ _ _ _ _ _
theorem s_Land_lightAll_67 (C : xCx) (r : List Value) (hp : xHp) (x : Int32) (a0 a1 a2 a3 a4 a6 a7 : Value) : (xV k_Land_lightAll C 67 [a0, a1, a2, a3, a4, .int x, a6, a7] r hp) = (xV k_Land_lightAll C 69 [a0, a1, a2, a3, a4, .int x, a6, a7] (.int x :: r) hp) := xVe _ _ _ _ _ _
theorem s_Land_lightAll_69 (C : xCx) (r : List Value) (hp : xHp) (x : Int32) (a0 a1 a2 a3 a5 a6 a7 : Value) : (xV k_Land_lightAll C 69 [a0, a1, a2, a3, .int x, a5, a6, a7] r hp) = (xV k_Land_lightAll C 71 [a0, a1, a2, a3, .int x, a5, a6, a7] (.int x :: r) hp) := xVe _ _ _ _ _ _
theorem s_Land_lightAll_71 (x y : Int32) (C : xCx) (L r : List Value) (hp : xHp) : (xV k_Land_lightAll C 71 L (.int y :: .int x :: r) hp) = (xV k_Land_lightAll C 72 L (.int (x + y) :: r) hp) := xVe _ _ _ _ _ _
theorem s_Land_lightAll_72 (C : xCx) (r : List Value) (hp : xHp) (x : Int32) (a0 a1 a2 a3 a4 a5 a6 a7 : Value) : (xV k_Land_lightAll C 72 [a0, a1, a2, a3, a4, a5, a6, a7] (.int x :: r) hp) = (5 < 8 ∧ xNl [a0, a1, a2, a3, a4, a5, a6, a7] 5 ∧ xV k_Land_lightAll C 74 [a0, a1, a2, a3, a4, .int x, a6, a7] r hp) := xVe _ _ _ _ _ _
theorem s_Land_lightAll_74 (C : xCx) (r : List Value) (hp : xHp) (x : Int32) (a0 a1 a2 a3 a4 a5 a7 : Value) : (xV k_Land_lightAll C 74 [a0, a1, a2, a3, a4, a5, .int x, a7] r hp) = (xNl [a0, a1, a2, a3, a4, a5, .int x, a7] 6 ∧ xV k_Land_lightAll C 77 [a0, a1, a2, a3, a4, a5, .int (x + (1)), a7] r hp) := xVe _ _ _ _ _ _
theorem s_Land_lightAll_77 (C : xCx) (L r : List Value) (hp : xHp) : (xV k_Land_lightAll C 77 L r hp) = (xV k_Land_lightAll C 6 L r hp) := xVe _ _ _ _ _ _
theorem s_Land_lightAll_80 (l : Launch) (d b lo gz n0 s0 : Nat) (Po : Option Value → xHp → Prop) (L : List Value) (hp : xHp) : (xV k_Land_lightAll (l, d, b, lo, gz, n0, s0, m_Land_lightAll, Po) 80 L [] hp) = (Po (none) hp) := xVe _ _ _ _ _ _
theorem ml_Land_33 : xLk "SunnyOnes$Land" 33 m_Land_light := Or.inl (wg3 25 (by decide +kernel) rfl)
def k_Land_lights : List xEC := [
  (0, .iconst 0, 1, 0, 0, 0, m_x),
  (1, .istore_n 1, 2, 0, 0, 0, m_x),
  (2, .iconst 0, 3, 0, 0, 0, m_x),
  (3, .istore_n 2, 4, 0, 0, 0, m_x),
  (4, .iload_n 2, 5, 0, 0, 0, m_x),
  (5, .aload_n 0, 6, 0, 0, 0, m_x),
  (6, .getfield 26, 9, 4, 2, 0, m_x),
  (9, .if_icmp .ge 17, 12, 0, 26, 0, m_x),
  (12, .iload_n 1, 13, 0, 0, 0, m_x),
  (13, .aload_n 0, 14, 0, 0, 0, m_x),
  (14, .iload_n 2, 15, 0, 0, 0, m_x),
  (15, .invokevirtual 33, 18, 4, 0, 0, m_Land_light),
  (18, .iadd, 19, 0, 0, 0, m_x),
  (19, .istore_n 1, 20, 0, 0, 0, m_x),
  (20, .iinc 2 1, 23, 0, 0, 0, m_x),
  (23, .goto (-19), 26, 0, 4, 0, m_x),
  (26, .iload_n 1, 27, 0, 0, 0, m_x),
  (27, .ireturn, 28, 0, 0, 0, m_x)]
theorem dc_Land_lights : ∀ E ∈ k_Land_lights, xDc m_Land_lights E := by decide +kernel
set_option maxRecDepth 20000 in
theorem ok_Land_lights : ∀ E ∈ k_Land_lights, xOk m_Land_lights E := xok_of dc_Land_lights (xfc trivial (xfc trivial (xfc trivial (xfc trivial (xfc trivial (xfc trivial (xfc fl_Land_26 (xfc (show ((9 : Nat) : Int) + (17) = ((26 : Nat) : Int) from by decide) (xfc trivial (xfc trivial (xfc trivial (xfc ⟨ml_Land_33, kd_Land_light⟩ (xfc trivial (xfc trivial (xfc trivial (xfc (show ((23 : Nat) : Int) + (-19) = ((4 : Nat) : Int) from by decide) (xfc trivial (xfc trivial (xfn)))))))))))))))))))
theorem s_Land_lights_0  (C : xCx) (L r : List Value) (hp : xHp) : (xV k_Land_lights C 0 L (r) hp) = (xV k_Land_lights C 1 L (.int (0) :: r) hp) := xVe _ _ _ _ _ _
theorem s_Land_lights_1 (C : xCx) (r : List Value) (hp : xHp) (x : Int32) (a0 a1 a2 : Value) : (xV k_Land_lights C 1 [a0, a1, a2] (.int x :: r) hp) = (1 < 3 ∧ xNl [a0, a1, a2] 1 ∧ xV k_Land_lights C 2 [a0, .int x, a2] r hp) := xVe _ _ _ _ _ _
theorem s_Land_lights_2  (C : xCx) (L r : List Value) (hp : xHp) : (xV k_Land_lights C 2 L (r) hp) = (xV k_Land_lights C 3 L (.int (0) :: r) hp) := xVe _ _ _ _ _ _
theorem s_Land_lights_3 (C : xCx) (r : List Value) (hp : xHp) (x : Int32) (a0 a1 a2 : Value) : (xV k_Land_lights C 3 [a0, a1, a2] (.int x :: r) hp) = (2 < 3 ∧ xNl [a0, a1, a2] 2 ∧ xV k_Land_lights C 4 [a0, a1, .int x] r hp) := xVe _ _ _ _ _ _
theorem s_Land_lights_4 (C : xCx) (r : List Value) (hp : xHp) (x : Int32) (a0 a1 : Value) : (xV k_Land_lights C 4 [a0, a1, .int x] r hp) = (xV k_Land_lights C 5 [a0, a1, .int x] (.int x :: r) hp) := xVe _ _ _ _ _ _
theorem s_Land_lights_5 (C : xCx) (r : List Value) (hp : xHp) (x : Nat) (a1 a2 : Value) : (xV k_Land_lights C 5 [.ref x, a1, a2] r hp) = (True ∧ xV k_Land_lights C 6 [.ref x, a1, a2] (.ref x :: r) hp) := xVe _ _ _ _ _ _
theorem s_Land_lights_6 (a : Nat) (C : xCx) (L r : List Value) (hp : xHp) : (xV k_Land_lights C 6 L (.ref a :: r) hp) = (xF hp a 4 2 (fun v => xV k_Land_lights C 9 L (v :: r) hp)) := xVe _ _ _ _ _ _
theorem s_Land_lights_9 (x y : Int32) (C : xCx) (L r : List Value) (hp : xHp) : (xV k_Land_lights C 9 L (.int y :: .int x :: r) hp) = (((y ≤ x → xV k_Land_lights C 26 L r hp) ∧ (¬ y ≤ x → xV k_Land_lights C 12 L r hp))) := xVe _ _ _ _ _ _
theorem s_Land_lights_12 (C : xCx) (r : List Value) (hp : xHp) (x : Int32) (a0 a2 : Value) : (xV k_Land_lights C 12 [a0, .int x, a2] r hp) = (xV k_Land_lights C 13 [a0, .int x, a2] (.int x :: r) hp) := xVe _ _ _ _ _ _
theorem s_Land_lights_13 (C : xCx) (r : List Value) (hp : xHp) (x : Nat) (a1 a2 : Value) : (xV k_Land_lights C 13 [.ref x, a1, a2] r hp) = (True ∧ xV k_Land_lights C 14 [.ref x, a1, a2] (.ref x :: r) hp) := xVe _ _ _ _ _ _
theorem s_Land_lights_14 (C : xCx) (r : List Value) (hp : xHp) (x : Int32) (a0 a1 : Value) : (xV k_Land_lights C 14 [a0, a1, .int x] r hp) = (xV k_Land_lights C 15 [a0, a1, .int x] (.int x :: r) hp) := xVe _ _ _ _ _ _
theorem s_Land_lights_15 (x0 : Int32) (a : Nat) (l : Launch) (d b lo gz n0 s0 : Nat) (Po : Option Value → xHp → Prop) (L r : List Value) (hp : xHp) : (xV k_Land_lights (l, d + 1, b, lo, gz, n0, s0, m_Land_lights, Po) 15 L (.int x0 :: .ref a :: r) hp) = (xO hp a 4 ∧ xcs r 8 ∧ xMi l d b lo gz m_Land_light [.ref a, .int x0] hp (fun x hp' => xV k_Land_lights (l, d + 1, b, lo, gz, n0, s0, m_Land_lights, Po) 18 L (.int x :: r) hp')) := xVe _ _ _ _ _ _
theorem s_Land_lights_18 (x y : Int32) (C : xCx) (L r : List Value) (hp : xHp) : (xV k_Land_lights C 18 L (.int y :: .int x :: r) hp) = (xV k_Land_lights C 19 L (.int (x + y) :: r) hp) := xVe _ _ _ _ _ _
theorem s_Land_lights_19 (C : xCx) (r : List Value) (hp : xHp) (x : Int32) (a0 a1 a2 : Value) : (xV k_Land_lights C 19 [a0, a1, a2] (.int x :: r) hp) = (1 < 3 ∧ xNl [a0, a1, a2] 1 ∧ xV k_Land_lights C 20 [a0, .int x, a2] r hp) := xVe _ _ _ _ _ _
theorem s_Land_lights_20 (C : xCx) (r : List Value) (hp : xHp) (x : Int32) (a0 a1 : Value) : (xV k_Land_lights C 20 [a0, a1, .int x] r hp) = (xNl [a0, a1, .int x] 2 ∧ xV k_Land_lights C 23 [a0, a1, .int (x + (1))] r hp) := xVe _ _ _ _ _ _
theorem s_Land_lights_23 (C : xCx) (L r : List Value) (hp : xHp) : (xV k_Land_lights C 23 L r hp) = (xV k_Land_lights C 4 L r hp) := xVe _ _ _ _ _ _
theorem s_Land_lights_26 (C : xCx) (r : List Value) (hp : xHp) (x : Int32) (a0 a2 : Value) : (xV k_Land_lights C 26 [a0, .int x, a2] r hp) = (xV k_Land_lights C 27 [a0, .int x, a2] (.int x :: r) hp) := xVe _ _ _ _ _ _
theorem s_Land_lights_27 (v : Int32) (l : Launch) (d b lo gz n0 s0 : Nat) (Po : Option Value → xHp → Prop) (L : List Value) (hp : xHp) : (xV k_Land_lights (l, d, b, lo, gz, n0, s0, m_Land_lights, Po) 27 L [.int v] hp) = (Po (some (.int v)) hp) := xVe _ _ _ _ _ _
theorem ml_Land_29 : xLk "SunnyOnes$Land" 29 m_So_at := Or.inr ⟨"SunnyOnes", List.mem_of_getElem? (i := 10) (by decide +kernel)⟩
def k_Land_light : List xEC := [
  (0, .aload_n 0, 1, 0, 0, 0, m_x),
  (1, .getfield 9, 4, 4, 0, 0, m_x),
  (4, .iload_n 1, 5, 0, 0, 0, m_x),
  (5, .invokestatic 29, 8, 0, 0, 0, m_So_at),
  (8, .ireturn, 9, 0, 0, 0, m_x)]
theorem dc_Land_light : ∀ E ∈ k_Land_light, xDc m_Land_light E := by decide +kernel
set_option maxRecDepth 20000 in
theorem ok_Land_light : ∀ E ∈ k_Land_light, xOk m_Land_light E := xok_of dc_Land_light (xfc trivial (xfc fl_Land_9 (xfc trivial (xfc ⟨ml_Land_29, kd_So_at⟩ (xfc trivial (xfn))))))
theorem s_Land_light_0 (C : xCx) (r : List Value) (hp : xHp) (x : Nat) (a1 : Value) : (xV k_Land_light C 0 [.ref x, a1] r hp) = (True ∧ xV k_Land_light C 1 [.ref x, a1] (.ref x :: r) hp) := xVe _ _ _ _ _ _
theorem s_Land_light_1 (a : Nat) (C : xCx) (L r : List Value) (hp : xHp) : (xV k_Land_light C 1 L (.ref a :: r) hp) = (xF hp a 4 0 (fun v => xV k_Land_light C 4 L (v :: r) hp)) := xVe _ _ _ _ _ _
theorem s_Land_light_4 (C : xCx) (r : List Value) (hp : xHp) (x : Int32) (a0 : Value) : (xV k_Land_light C 4 [a0, .int x] r hp) = (xV k_Land_light C 5 [a0, .int x] (.int x :: r) hp) := xVe _ _ _ _ _ _
theorem s_Land_light_5 (x0 : Nat) (x1 : Int32) (l : Launch) (d b lo gz n0 s0 : Nat) (Po : Option Value → xHp → Prop) (L r : List Value) (hp : xHp) : (xV k_Land_light (l, d + 1, b, lo, gz, n0, s0, m_Land_light, Po) 5 L (.int x1 :: .ref x0 :: r) hp) = (2 ≤ List.length (.int x1 :: .ref x0 :: r) ∧ xcs r 8 ∧ xMi l d b lo gz m_So_at [.ref x0, .int x1] hp (fun x hp' => xV k_Land_light (l, d + 1, b, lo, gz, n0, s0, m_Land_light, Po) 8 L (.int x :: r) hp')) := xVe _ _ _ _ _ _
theorem s_Land_light_8 (v : Int32) (l : Launch) (d b lo gz n0 s0 : Nat) (Po : Option Value → xHp → Prop) (L : List Value) (hp : xHp) : (xV k_Land_light (l, d, b, lo, gz, n0, s0, m_Land_light, Po) 8 L [.int v] hp) = (Po (some (.int v)) hp) := xVe _ _ _ _ _ _
theorem fl_Folk_25 : xFl "SunnyOnes$Folk" 25 3 4 := ⟨("SunnyOnes$Folk", F_Folk, 5), rfl, by decide, wg1 134 (by decide +kernel) rfl⟩
theorem ml_Folk_28 : xLk "SunnyOnes$Folk" 28 m_So_at := Or.inr ⟨"SunnyOnes", List.mem_of_getElem? (i := 11) (by decide +kernel)⟩
def k_Folk_copyFrom : List xEC := [
  (0, .aload_n 0, 1, 0, 0, 0, m_x),
  (1, .aload_n 1, 2, 0, 0, 0, m_x),
  (2, .getfield 21, 5, 3, 3, 0, m_x),
  (5, .putfield 21, 8, 3, 3, 0, m_x),
  (8, .aload_n 0, 9, 0, 0, 0, m_x),
  (9, .aload_n 1, 10, 0, 0, 0, m_x),
  (10, .getfield 25, 13, 3, 4, 0, m_x),
  (13, .putfield 25, 16, 3, 4, 0, m_x),
  (16, .iconst 0, 17, 0, 0, 0, m_x),
  (17, .istore_n 2, 18, 0, 0, 0, m_x),
  (18, .iload_n 2, 19, 0, 0, 0, m_x),
  (19, .aload_n 0, 20, 0, 0, 0, m_x),
  (20, .getfield 21, 23, 3, 3, 0, m_x),
  (23, .if_icmp .ge 57, 26, 0, 80, 0, m_x),
  (26, .aload_n 0, 27, 0, 0, 0, m_x),
  (27, .getfield 9, 30, 3, 0, 0, m_x),
  (30, .iload_n 2, 31, 0, 0, 0, m_x),
  (31, .aload_n 1, 32, 0, 0, 0, m_x),
  (32, .getfield 9, 35, 3, 0, 0, m_x),
  (35, .iload_n 2, 36, 0, 0, 0, m_x),
  (36, .invokestatic 28, 39, 0, 0, 0, m_So_at),
  (39, .invokestatic 32, 42, 0, 0, 0, m_So_put),
  (42, .aload_n 0, 43, 0, 0, 0, m_x),
  (43, .getfield 15, 46, 3, 1, 0, m_x),
  (46, .iload_n 2, 47, 0, 0, 0, m_x),
  (47, .aload_n 1, 48, 0, 0, 0, m_x),
  (48, .getfield 15, 51, 3, 1, 0, m_x),
  (51, .iload_n 2, 52, 0, 0, 0, m_x),
  (52, .invokestatic 28, 55, 0, 0, 0, m_So_at),
  (55, .invokestatic 32, 58, 0, 0, 0, m_So_put),
  (58, .aload_n 0, 59, 0, 0, 0, m_x),
  (59, .getfield 18, 62, 3, 2, 0, m_x),
  (62, .iload_n 2, 63, 0, 0, 0, m_x),
  (63, .aload_n 1, 64, 0, 0, 0, m_x),
  (64, .getfield 18, 67, 3, 2, 0, m_x),
  (67, .iload_n 2, 68, 0, 0, 0, m_x),
  (68, .invokestatic 28, 71, 0, 0, 0, m_So_at),
  (71, .invokestatic 32, 74, 0, 0, 0, m_So_put),
  (74, .iinc 2 1, 77, 0, 0, 0, m_x),
  (77, .goto (-59), 80, 0, 18, 0, m_x),
  (80, .return_, 81, 0, 0, 0, m_x)]
theorem dc_Folk_copyFrom : ∀ E ∈ k_Folk_copyFrom, xDc m_Folk_copyFrom E := by decide +kernel
set_option maxRecDepth 20000 in
theorem ok_Folk_copyFrom : ∀ E ∈ k_Folk_copyFrom, xOk m_Folk_copyFrom E := xok_of dc_Folk_copyFrom (xfc trivial (xfc trivial (xfc fl_Folk_21 (xfc ⟨fl_Folk_21, fun q h f => by cases h; exact absurd f (by decide)⟩ (xfc trivial (xfc trivial (xfc fl_Folk_25 (xfc ⟨fl_Folk_25, fun q h f => by cases h; exact absurd f (by decide)⟩ (xfc trivial (xfc trivial (xfc trivial (xfc trivial (xfc fl_Folk_21 (xfc (show ((23 : Nat) : Int) + (57) = ((80 : Nat) : Int) from by decide) (xfc trivial (xfc fl_Folk_9 (xfc trivial (xfc trivial (xfc fl_Folk_9 (xfc trivial (xfc ⟨ml_Folk_28, kd_So_at⟩ (xfc ⟨ml_Folk_32, kd_So_put⟩ (xfc trivial (xfc fl_Folk_15 (xfc trivial (xfc trivial (xfc fl_Folk_15 (xfc trivial (xfc ⟨ml_Folk_28, kd_So_at⟩ (xfc ⟨ml_Folk_32, kd_So_put⟩ (xfc trivial (xfc fl_Folk_18 (xfc trivial (xfc trivial (xfc fl_Folk_18 (xfc trivial (xfc ⟨ml_Folk_28, kd_So_at⟩ (xfc ⟨ml_Folk_32, kd_So_put⟩ (xfc trivial (xfc (show ((77 : Nat) : Int) + (-59) = ((18 : Nat) : Int) from by decide) (xfc trivial (xfn))))))))))))))))))))))))))))))))))))))))))
theorem s_Folk_copyFrom_0 (C : xCx) (r : List Value) (hp : xHp) (x : Nat) (a1 a2 : Value) : (xV k_Folk_copyFrom C 0 [.ref x, a1, a2] r hp) = (True ∧ xV k_Folk_copyFrom C 1 [.ref x, a1, a2] (.ref x :: r) hp) := xVe _ _ _ _ _ _
theorem s_Folk_copyFrom_1 (C : xCx) (r : List Value) (hp : xHp) (x : Nat) (a0 a2 : Value) : (xV k_Folk_copyFrom C 1 [a0, .ref x, a2] r hp) = (True ∧ xV k_Folk_copyFrom C 2 [a0, .ref x, a2] (.ref x :: r) hp) := xVe _ _ _ _ _ _
theorem s_Folk_copyFrom_2 (a : Nat) (C : xCx) (L r : List Value) (hp : xHp) : (xV k_Folk_copyFrom C 2 L (.ref a :: r) hp) = (xF hp a 3 3 (fun v => xV k_Folk_copyFrom C 5 L (v :: r) hp)) := xVe _ _ _ _ _ _
theorem s_Folk_copyFrom_5 (x : Int32) (a : Nat) (C : xCx) (L r : List Value) (hp : xHp) : (xV k_Folk_copyFrom C 5 L (.int x :: .ref a :: r) hp) = (True ∧ xPf hp a 3 3 (.int x) (fun hp' => xV k_Folk_copyFrom C 8 L r hp')) := xVe _ _ _ _ _ _
theorem s_Folk_copyFrom_8 (C : xCx) (r : List Value) (hp : xHp) (x : Nat) (a1 a2 : Value) : (xV k_Folk_copyFrom C 8 [.ref x, a1, a2] r hp) = (True ∧ xV k_Folk_copyFrom C 9 [.ref x, a1, a2] (.ref x :: r) hp) := xVe _ _ _ _ _ _
theorem s_Folk_copyFrom_9 (C : xCx) (r : List Value) (hp : xHp) (x : Nat) (a0 a2 : Value) : (xV k_Folk_copyFrom C 9 [a0, .ref x, a2] r hp) = (True ∧ xV k_Folk_copyFrom C 10 [a0, .ref x, a2] (.ref x :: r) hp) := xVe _ _ _ _ _ _
theorem s_Folk_copyFrom_10 (a : Nat) (C : xCx) (L r : List Value) (hp : xHp) : (xV k_Folk_copyFrom C 10 L (.ref a :: r) hp) = (xF hp a 3 4 (fun v => xV k_Folk_copyFrom C 13 L (v :: r) hp)) := xVe _ _ _ _ _ _
theorem s_Folk_copyFrom_13 (x : Int32) (a : Nat) (C : xCx) (L r : List Value) (hp : xHp) : (xV k_Folk_copyFrom C 13 L (.int x :: .ref a :: r) hp) = (True ∧ xPf hp a 3 4 (.int x) (fun hp' => xV k_Folk_copyFrom C 16 L r hp')) := xVe _ _ _ _ _ _
theorem s_Folk_copyFrom_16  (C : xCx) (L r : List Value) (hp : xHp) : (xV k_Folk_copyFrom C 16 L (r) hp) = (xV k_Folk_copyFrom C 17 L (.int (0) :: r) hp) := xVe _ _ _ _ _ _
theorem s_Folk_copyFrom_17 (C : xCx) (r : List Value) (hp : xHp) (x : Int32) (a0 a1 a2 : Value) : (xV k_Folk_copyFrom C 17 [a0, a1, a2] (.int x :: r) hp) = (2 < 3 ∧ xNl [a0, a1, a2] 2 ∧ xV k_Folk_copyFrom C 18 [a0, a1, .int x] r hp) := xVe _ _ _ _ _ _
theorem s_Folk_copyFrom_18 (C : xCx) (r : List Value) (hp : xHp) (x : Int32) (a0 a1 : Value) : (xV k_Folk_copyFrom C 18 [a0, a1, .int x] r hp) = (xV k_Folk_copyFrom C 19 [a0, a1, .int x] (.int x :: r) hp) := xVe _ _ _ _ _ _
theorem s_Folk_copyFrom_19 (C : xCx) (r : List Value) (hp : xHp) (x : Nat) (a1 a2 : Value) : (xV k_Folk_copyFrom C 19 [.ref x, a1, a2] r hp) = (True ∧ xV k_Folk_copyFrom C 20 [.ref x, a1, a2] (.ref x :: r) hp) := xVe _ _ _ _ _ _
theorem s_Folk_copyFrom_20 (a : Nat) (C : xCx) (L r : List Value) (hp : xHp) : (xV k_Folk_copyFrom C 20 L (.ref a :: r) hp) = (xF hp a 3 3 (fun v => xV k_Folk_copyFrom C 23 L (v :: r) hp)) := xVe _ _ _ _ _ _
theorem s_Folk_copyFrom_23 (x y : Int32) (C : xCx) (L r : List Value) (hp : xHp) : (xV k_Folk_copyFrom C 23 L (.int y :: .int x :: r) hp) = (((y ≤ x → xV k_Folk_copyFrom C 80 L r hp) ∧ (¬ y ≤ x → xV k_Folk_copyFrom C 26 L r hp))) := xVe _ _ _ _ _ _
theorem s_Folk_copyFrom_26 (C : xCx) (r : List Value) (hp : xHp) (x : Nat) (a1 a2 : Value) : (xV k_Folk_copyFrom C 26 [.ref x, a1, a2] r hp) = (True ∧ xV k_Folk_copyFrom C 27 [.ref x, a1, a2] (.ref x :: r) hp) := xVe _ _ _ _ _ _
theorem s_Folk_copyFrom_27 (a : Nat) (C : xCx) (L r : List Value) (hp : xHp) : (xV k_Folk_copyFrom C 27 L (.ref a :: r) hp) = (xF hp a 3 0 (fun v => xV k_Folk_copyFrom C 30 L (v :: r) hp)) := xVe _ _ _ _ _ _
theorem s_Folk_copyFrom_30 (C : xCx) (r : List Value) (hp : xHp) (x : Int32) (a0 a1 : Value) : (xV k_Folk_copyFrom C 30 [a0, a1, .int x] r hp) = (xV k_Folk_copyFrom C 31 [a0, a1, .int x] (.int x :: r) hp) := xVe _ _ _ _ _ _
theorem s_Folk_copyFrom_31 (C : xCx) (r : List Value) (hp : xHp) (x : Nat) (a0 a2 : Value) : (xV k_Folk_copyFrom C 31 [a0, .ref x, a2] r hp) = (True ∧ xV k_Folk_copyFrom C 32 [a0, .ref x, a2] (.ref x :: r) hp) := xVe _ _ _ _ _ _
theorem s_Folk_copyFrom_32 (a : Nat) (C : xCx) (L r : List Value) (hp : xHp) : (xV k_Folk_copyFrom C 32 L (.ref a :: r) hp) = (xF hp a 3 0 (fun v => xV k_Folk_copyFrom C 35 L (v :: r) hp)) := xVe _ _ _ _ _ _
theorem s_Folk_copyFrom_35 (C : xCx) (r : List Value) (hp : xHp) (x : Int32) (a0 a1 : Value) : (xV k_Folk_copyFrom C 35 [a0, a1, .int x] r hp) = (xV k_Folk_copyFrom C 36 [a0, a1, .int x] (.int x :: r) hp) := xVe _ _ _ _ _ _
theorem s_Folk_copyFrom_36 (x0 : Nat) (x1 : Int32) (l : Launch) (d b lo gz n0 s0 : Nat) (Po : Option Value → xHp → Prop) (L r : List Value) (hp : xHp) : (xV k_Folk_copyFrom (l, d + 1, b, lo, gz, n0, s0, m_Folk_copyFrom, Po) 36 L (.int x1 :: .ref x0 :: r) hp) = (2 ≤ List.length (.int x1 :: .ref x0 :: r) ∧ xcs r 8 ∧ xMi l d b lo gz m_So_at [.ref x0, .int x1] hp (fun x hp' => xV k_Folk_copyFrom (l, d + 1, b, lo, gz, n0, s0, m_Folk_copyFrom, Po) 39 L (.int x :: r) hp')) := xVe _ _ _ _ _ _
theorem s_Folk_copyFrom_39 (x0 : Nat) (x1 : Int32) (x2 : Int32) (l : Launch) (d b lo gz n0 s0 : Nat) (Po : Option Value → xHp → Prop) (L r : List Value) (hp : xHp) : (xV k_Folk_copyFrom (l, d + 1, b, lo, gz, n0, s0, m_Folk_copyFrom, Po) 39 L (.int x2 :: .int x1 :: .ref x0 :: r) hp) = (3 ≤ List.length (.int x2 :: .int x1 :: .ref x0 :: r) ∧ xcs r 8 ∧ xMv l d b lo gz m_So_put [.ref x0, .int x1, .int x2] hp (fun hp' => xV k_Folk_copyFrom (l, d + 1, b, lo, gz, n0, s0, m_Folk_copyFrom, Po) 42 L r hp')) := xVe _ _ _ _ _ _
theorem s_Folk_copyFrom_42 (C : xCx) (r : List Value) (hp : xHp) (x : Nat) (a1 a2 : Value) : (xV k_Folk_copyFrom C 42 [.ref x, a1, a2] r hp) = (True ∧ xV k_Folk_copyFrom C 43 [.ref x, a1, a2] (.ref x :: r) hp) := xVe _ _ _ _ _ _
theorem s_Folk_copyFrom_43 (a : Nat) (C : xCx) (L r : List Value) (hp : xHp) : (xV k_Folk_copyFrom C 43 L (.ref a :: r) hp) = (xF hp a 3 1 (fun v => xV k_Folk_copyFrom C 46 L (v :: r) hp)) := xVe _ _ _ _ _ _
theorem s_Folk_copyFrom_46 (C : xCx) (r : List Value) (hp : xHp) (x : Int32) (a0 a1 : Value) : (xV k_Folk_copyFrom C 46 [a0, a1, .int x] r hp) = (xV k_Folk_copyFrom C 47 [a0, a1, .int x] (.int x :: r) hp) := xVe _ _ _ _ _ _
theorem s_Folk_copyFrom_47 (C : xCx) (r : List Value) (hp : xHp) (x : Nat) (a0 a2 : Value) : (xV k_Folk_copyFrom C 47 [a0, .ref x, a2] r hp) = (True ∧ xV k_Folk_copyFrom C 48 [a0, .ref x, a2] (.ref x :: r) hp) := xVe _ _ _ _ _ _
theorem s_Folk_copyFrom_48 (a : Nat) (C : xCx) (L r : List Value) (hp : xHp) : (xV k_Folk_copyFrom C 48 L (.ref a :: r) hp) = (xF hp a 3 1 (fun v => xV k_Folk_copyFrom C 51 L (v :: r) hp)) := xVe _ _ _ _ _ _
theorem s_Folk_copyFrom_51 (C : xCx) (r : List Value) (hp : xHp) (x : Int32) (a0 a1 : Value) : (xV k_Folk_copyFrom C 51 [a0, a1, .int x] r hp) = (xV k_Folk_copyFrom C 52 [a0, a1, .int x] (.int x :: r) hp) := xVe _ _ _ _ _ _
theorem s_Folk_copyFrom_52 (x0 : Nat) (x1 : Int32) (l : Launch) (d b lo gz n0 s0 : Nat) (Po : Option Value → xHp → Prop) (L r : List Value) (hp : xHp) : (xV k_Folk_copyFrom (l, d + 1, b, lo, gz, n0, s0, m_Folk_copyFrom, Po) 52 L (.int x1 :: .ref x0 :: r) hp) = (2 ≤ List.length (.int x1 :: .ref x0 :: r) ∧ xcs r 8 ∧ xMi l d b lo gz m_So_at [.ref x0, .int x1] hp (fun x hp' => xV k_Folk_copyFrom (l, d + 1, b, lo, gz, n0, s0, m_Folk_copyFrom, Po) 55 L (.int x :: r) hp')) := xVe _ _ _ _ _ _
theorem s_Folk_copyFrom_55 (x0 : Nat) (x1 : Int32) (x2 : Int32) (l : Launch) (d b lo gz n0 s0 : Nat) (Po : Option Value → xHp → Prop) (L r : List Value) (hp : xHp) : (xV k_Folk_copyFrom (l, d + 1, b, lo, gz, n0, s0, m_Folk_copyFrom, Po) 55 L (.int x2 :: .int x1 :: .ref x0 :: r) hp) = (3 ≤ List.length (.int x2 :: .int x1 :: .ref x0 :: r) ∧ xcs r 8 ∧ xMv l d b lo gz m_So_put [.ref x0, .int x1, .int x2] hp (fun hp' => xV k_Folk_copyFrom (l, d + 1, b, lo, gz, n0, s0, m_Folk_copyFrom, Po) 58 L r hp')) := xVe _ _ _ _ _ _
theorem s_Folk_copyFrom_58 (C : xCx) (r : List Value) (hp : xHp) (x : Nat) (a1 a2 : Value) : (xV k_Folk_copyFrom C 58 [.ref x, a1, a2] r hp) = (True ∧ xV k_Folk_copyFrom C 59 [.ref x, a1, a2] (.ref x :: r) hp) := xVe _ _ _ _ _ _
theorem s_Folk_copyFrom_59 (a : Nat) (C : xCx) (L r : List Value) (hp : xHp) : (xV k_Folk_copyFrom C 59 L (.ref a :: r) hp) = (xF hp a 3 2 (fun v => xV k_Folk_copyFrom C 62 L (v :: r) hp)) := xVe _ _ _ _ _ _
theorem s_Folk_copyFrom_62 (C : xCx) (r : List Value) (hp : xHp) (x : Int32) (a0 a1 : Value) : (xV k_Folk_copyFrom C 62 [a0, a1, .int x] r hp) = (xV k_Folk_copyFrom C 63 [a0, a1, .int x] (.int x :: r) hp) := xVe _ _ _ _ _ _
theorem s_Folk_copyFrom_63 (C : xCx) (r : List Value) (hp : xHp) (x : Nat) (a0 a2 : Value) : (xV k_Folk_copyFrom C 63 [a0, .ref x, a2] r hp) = (True ∧ xV k_Folk_copyFrom C 64 [a0, .ref x, a2] (.ref x :: r) hp) := xVe _ _ _ _ _ _
theorem s_Folk_copyFrom_64 (a : Nat) (C : xCx) (L r : List Value) (hp : xHp) : (xV k_Folk_copyFrom C 64 L (.ref a :: r) hp) = (xF hp a 3 2 (fun v => xV k_Folk_copyFrom C 67 L (v :: r) hp)) := xVe _ _ _ _ _ _
theorem s_Folk_copyFrom_67 (C : xCx) (r : List Value) (hp : xHp) (x : Int32) (a0 a1 : Value) : (xV k_Folk_copyFrom C 67 [a0, a1, .int x] r hp) = (xV k_Folk_copyFrom C 68 [a0, a1, .int x] (.int x :: r) hp) := xVe _ _ _ _ _ _
theorem s_Folk_copyFrom_68 (x0 : Nat) (x1 : Int32) (l : Launch) (d b lo gz n0 s0 : Nat) (Po : Option Value → xHp → Prop) (L r : List Value) (hp : xHp) : (xV k_Folk_copyFrom (l, d + 1, b, lo, gz, n0, s0, m_Folk_copyFrom, Po) 68 L (.int x1 :: .ref x0 :: r) hp) = (2 ≤ List.length (.int x1 :: .ref x0 :: r) ∧ xcs r 8 ∧ xMi l d b lo gz m_So_at [.ref x0, .int x1] hp (fun x hp' => xV k_Folk_copyFrom (l, d + 1, b, lo, gz, n0, s0, m_Folk_copyFrom, Po) 71 L (.int x :: r) hp')) := xVe _ _ _ _ _ _
theorem s_Folk_copyFrom_71 (x0 : Nat) (x1 : Int32) (x2 : Int32) (l : Launch) (d b lo gz n0 s0 : Nat) (Po : Option Value → xHp → Prop) (L r : List Value) (hp : xHp) : (xV k_Folk_copyFrom (l, d + 1, b, lo, gz, n0, s0, m_Folk_copyFrom, Po) 71 L (.int x2 :: .int x1 :: .ref x0 :: r) hp) = (3 ≤ List.length (.int x2 :: .int x1 :: .ref x0 :: r) ∧ xcs r 8 ∧ xMv l d b lo gz m_So_put [.ref x0, .int x1, .int x2] hp (fun hp' => xV k_Folk_copyFrom (l, d + 1, b, lo, gz, n0, s0, m_Folk_copyFrom, Po) 74 L r hp')) := xVe _ _ _ _ _ _
theorem s_Folk_copyFrom_74 (C : xCx) (r : List Value) (hp : xHp) (x : Int32) (a0 a1 : Value) : (xV k_Folk_copyFrom C 74 [a0, a1, .int x] r hp) = (xNl [a0, a1, .int x] 2 ∧ xV k_Folk_copyFrom C 77 [a0, a1, .int (x + (1))] r hp) := xVe _ _ _ _ _ _
theorem s_Folk_copyFrom_77 (C : xCx) (L r : List Value) (hp : xHp) : (xV k_Folk_copyFrom C 77 L r hp) = (xV k_Folk_copyFrom C 18 L r hp) := xVe _ _ _ _ _ _
theorem s_Folk_copyFrom_80 (l : Launch) (d b lo gz n0 s0 : Nat) (Po : Option Value → xHp → Prop) (L : List Value) (hp : xHp) : (xV k_Folk_copyFrom (l, d, b, lo, gz, n0, s0, m_Folk_copyFrom, Po) 80 L [] hp) = (Po (none) hp) := xVe _ _ _ _ _ _
def k_Folk_day : List xEC := [
  (0, .aload_n 0, 1, 0, 0, 0, m_x),
  (1, .getfield 25, 4, 3, 4, 0, m_x),
  (4, .ireturn, 5, 0, 0, 0, m_x)]
theorem dc_Folk_day : ∀ E ∈ k_Folk_day, xDc m_Folk_day E := by decide +kernel
set_option maxRecDepth 20000 in
theorem ok_Folk_day : ∀ E ∈ k_Folk_day, xOk m_Folk_day E := xok_of dc_Folk_day (xfc trivial (xfc fl_Folk_25 (xfc trivial (xfn))))
theorem s_Folk_day_0 (C : xCx) (r : List Value) (hp : xHp) (x : Nat) : (xV k_Folk_day C 0 [.ref x] r hp) = (True ∧ xV k_Folk_day C 1 [.ref x] (.ref x :: r) hp) := xVe _ _ _ _ _ _
theorem s_Folk_day_1 (a : Nat) (C : xCx) (L r : List Value) (hp : xHp) : (xV k_Folk_day C 1 L (.ref a :: r) hp) = (xF hp a 3 4 (fun v => xV k_Folk_day C 4 L (v :: r) hp)) := xVe _ _ _ _ _ _
theorem s_Folk_day_4 (v : Int32) (l : Launch) (d b lo gz n0 s0 : Nat) (Po : Option Value → xHp → Prop) (L : List Value) (hp : xHp) : (xV k_Folk_day (l, d, b, lo, gz, n0, s0, m_Folk_day, Po) 4 L [.int v] hp) = (Po (some (.int v)) hp) := xVe _ _ _ _ _ _
def k_Land_skyOn : List xEC := [
  (0, .aload_n 0, 1, 0, 0, 0, m_x),
  (1, .getfield 22, 4, 4, 3, 0, m_x),
  (4, .ifCond .le 19, 7, 0, 23, 0, m_x),
  (7, .aload_n 0, 8, 0, 0, 0, m_x),
  (8, .getfield 15, 11, 4, 1, 0, m_x),
  (11, .iload_n 1, 12, 0, 0, 0, m_x),
  (12, .aload_n 0, 13, 0, 0, 0, m_x),
  (13, .getfield 22, 16, 4, 3, 0, m_x),
  (16, .irem, 17, 0, 0, 0, m_x),
  (17, .invokestatic 29, 20, 0, 0, 0, m_So_at),
  (20, .goto 4, 23, 0, 24, 0, m_x),
  (23, .iconst 0, 24, 0, 0, 0, m_x),
  (24, .ireturn, 25, 0, 0, 0, m_x)]
theorem dc_Land_skyOn : ∀ E ∈ k_Land_skyOn, xDc m_Land_skyOn E := by decide +kernel
set_option maxRecDepth 20000 in
theorem ok_Land_skyOn : ∀ E ∈ k_Land_skyOn, xOk m_Land_skyOn E := xok_of dc_Land_skyOn (xfc trivial (xfc fl_Land_22 (xfc (show ((4 : Nat) : Int) + (19) = ((23 : Nat) : Int) from by decide) (xfc trivial (xfc fl_Land_15 (xfc trivial (xfc trivial (xfc fl_Land_22 (xfc trivial (xfc ⟨ml_Land_29, kd_So_at⟩ (xfc (show ((20 : Nat) : Int) + (4) = ((24 : Nat) : Int) from by decide) (xfc trivial (xfc trivial (xfn))))))))))))))
theorem s_Land_skyOn_0 (C : xCx) (r : List Value) (hp : xHp) (x : Nat) (a1 : Value) : (xV k_Land_skyOn C 0 [.ref x, a1] r hp) = (True ∧ xV k_Land_skyOn C 1 [.ref x, a1] (.ref x :: r) hp) := xVe _ _ _ _ _ _
theorem s_Land_skyOn_1 (a : Nat) (C : xCx) (L r : List Value) (hp : xHp) : (xV k_Land_skyOn C 1 L (.ref a :: r) hp) = (xF hp a 4 3 (fun v => xV k_Land_skyOn C 4 L (v :: r) hp)) := xVe _ _ _ _ _ _
theorem s_Land_skyOn_4 (x : Int32) (C : xCx) (L r : List Value) (hp : xHp) : (xV k_Land_skyOn C 4 L (.int x :: r) hp) = (((x ≤ 0 → xV k_Land_skyOn C 23 L r hp) ∧ (¬ x ≤ 0 → xV k_Land_skyOn C 7 L r hp))) := xVe _ _ _ _ _ _
theorem s_Land_skyOn_7 (C : xCx) (r : List Value) (hp : xHp) (x : Nat) (a1 : Value) : (xV k_Land_skyOn C 7 [.ref x, a1] r hp) = (True ∧ xV k_Land_skyOn C 8 [.ref x, a1] (.ref x :: r) hp) := xVe _ _ _ _ _ _
theorem s_Land_skyOn_8 (a : Nat) (C : xCx) (L r : List Value) (hp : xHp) : (xV k_Land_skyOn C 8 L (.ref a :: r) hp) = (xF hp a 4 1 (fun v => xV k_Land_skyOn C 11 L (v :: r) hp)) := xVe _ _ _ _ _ _
theorem s_Land_skyOn_11 (C : xCx) (r : List Value) (hp : xHp) (x : Int32) (a0 : Value) : (xV k_Land_skyOn C 11 [a0, .int x] r hp) = (xV k_Land_skyOn C 12 [a0, .int x] (.int x :: r) hp) := xVe _ _ _ _ _ _
theorem s_Land_skyOn_12 (C : xCx) (r : List Value) (hp : xHp) (x : Nat) (a1 : Value) : (xV k_Land_skyOn C 12 [.ref x, a1] r hp) = (True ∧ xV k_Land_skyOn C 13 [.ref x, a1] (.ref x :: r) hp) := xVe _ _ _ _ _ _
theorem s_Land_skyOn_13 (a : Nat) (C : xCx) (L r : List Value) (hp : xHp) : (xV k_Land_skyOn C 13 L (.ref a :: r) hp) = (xF hp a 4 3 (fun v => xV k_Land_skyOn C 16 L (v :: r) hp)) := xVe _ _ _ _ _ _
theorem s_Land_skyOn_16 (x y : Int32) (C : xCx) (L r : List Value) (hp : xHp) : (xV k_Land_skyOn C 16 L (.int y :: .int x :: r) hp) = (¬ y = 0 ∧ xV k_Land_skyOn C 17 L (.int (x - x / y * y) :: r) hp) := xVe _ _ _ _ _ _
theorem s_Land_skyOn_17 (x0 : Nat) (x1 : Int32) (l : Launch) (d b lo gz n0 s0 : Nat) (Po : Option Value → xHp → Prop) (L r : List Value) (hp : xHp) : (xV k_Land_skyOn (l, d + 1, b, lo, gz, n0, s0, m_Land_skyOn, Po) 17 L (.int x1 :: .ref x0 :: r) hp) = (2 ≤ List.length (.int x1 :: .ref x0 :: r) ∧ xcs r 8 ∧ xMi l d b lo gz m_So_at [.ref x0, .int x1] hp (fun x hp' => xV k_Land_skyOn (l, d + 1, b, lo, gz, n0, s0, m_Land_skyOn, Po) 20 L (.int x :: r) hp')) := xVe _ _ _ _ _ _
theorem s_Land_skyOn_20 (C : xCx) (L r : List Value) (hp : xHp) : (xV k_Land_skyOn C 20 L r hp) = (xV k_Land_skyOn C 24 L r hp) := xVe _ _ _ _ _ _
theorem s_Land_skyOn_23  (C : xCx) (L r : List Value) (hp : xHp) : (xV k_Land_skyOn C 23 L (r) hp) = (xV k_Land_skyOn C 24 L (.int (0) :: r) hp) := xVe _ _ _ _ _ _
theorem s_Land_skyOn_24 (v : Int32) (l : Launch) (d b lo gz n0 s0 : Nat) (Po : Option Value → xHp → Prop) (L : List Value) (hp : xHp) : (xV k_Land_skyOn (l, d, b, lo, gz, n0, s0, m_Land_skyOn, Po) 24 L [.int v] hp) = (Po (some (.int v)) hp) := xVe _ _ _ _ _ _
def k_Folk_spot : List xEC := [
  (0, .aload_n 0, 1, 0, 0, 0, m_x),
  (1, .getfield 15, 4, 3, 1, 0, m_x),
  (4, .iload_n 1, 5, 0, 0, 0, m_x),
  (5, .invokestatic 28, 8, 0, 0, 0, m_So_at),
  (8, .ireturn, 9, 0, 0, 0, m_x)]
theorem dc_Folk_spot : ∀ E ∈ k_Folk_spot, xDc m_Folk_spot E := by decide +kernel
set_option maxRecDepth 20000 in
theorem ok_Folk_spot : ∀ E ∈ k_Folk_spot, xOk m_Folk_spot E := xok_of dc_Folk_spot (xfc trivial (xfc fl_Folk_15 (xfc trivial (xfc ⟨ml_Folk_28, kd_So_at⟩ (xfc trivial (xfn))))))
theorem s_Folk_spot_0 (C : xCx) (r : List Value) (hp : xHp) (x : Nat) (a1 : Value) : (xV k_Folk_spot C 0 [.ref x, a1] r hp) = (True ∧ xV k_Folk_spot C 1 [.ref x, a1] (.ref x :: r) hp) := xVe _ _ _ _ _ _
theorem s_Folk_spot_1 (a : Nat) (C : xCx) (L r : List Value) (hp : xHp) : (xV k_Folk_spot C 1 L (.ref a :: r) hp) = (xF hp a 3 1 (fun v => xV k_Folk_spot C 4 L (v :: r) hp)) := xVe _ _ _ _ _ _
theorem s_Folk_spot_4 (C : xCx) (r : List Value) (hp : xHp) (x : Int32) (a0 : Value) : (xV k_Folk_spot C 4 [a0, .int x] r hp) = (xV k_Folk_spot C 5 [a0, .int x] (.int x :: r) hp) := xVe _ _ _ _ _ _
theorem s_Folk_spot_5 (x0 : Nat) (x1 : Int32) (l : Launch) (d b lo gz n0 s0 : Nat) (Po : Option Value → xHp → Prop) (L r : List Value) (hp : xHp) : (xV k_Folk_spot (l, d + 1, b, lo, gz, n0, s0, m_Folk_spot, Po) 5 L (.int x1 :: .ref x0 :: r) hp) = (2 ≤ List.length (.int x1 :: .ref x0 :: r) ∧ xcs r 8 ∧ xMi l d b lo gz m_So_at [.ref x0, .int x1] hp (fun x hp' => xV k_Folk_spot (l, d + 1, b, lo, gz, n0, s0, m_Folk_spot, Po) 8 L (.int x :: r) hp')) := xVe _ _ _ _ _ _
theorem s_Folk_spot_8 (v : Int32) (l : Launch) (d b lo gz n0 s0 : Nat) (Po : Option Value → xHp → Prop) (L : List Value) (hp : xHp) : (xV k_Folk_spot (l, d, b, lo, gz, n0, s0, m_Folk_spot, Po) 8 L [.int v] hp) = (Po (some (.int v)) hp) := xVe _ _ _ _ _ _
def k_Folk_othersAt : List xEC := [
  (0, .iconst 0, 1, 0, 0, 0, m_x),
  (1, .istore_n 3, 2, 0, 0, 0, m_x),
  (2, .iconst 0, 3, 0, 0, 0, m_x),
  (3, .istore 4, 5, 0, 0, 0, m_x),
  (5, .iload 4, 7, 0, 0, 0, m_x),
  (7, .aload_n 0, 8, 0, 0, 0, m_x),
  (8, .getfield 21, 11, 3, 3, 0, m_x),
  (11, .if_icmp .ge 36, 14, 0, 47, 0, m_x),
  (14, .iload_n 3, 15, 0, 0, 0, m_x),
  (15, .iload 4, 17, 0, 0, 0, m_x),
  (17, .iload_n 2, 18, 0, 0, 0, m_x),
  (18, .if_icmp .eq 20, 21, 0, 38, 0, m_x),
  (21, .aload_n 0, 22, 0, 0, 0, m_x),
  (22, .getfield 15, 25, 3, 1, 0, m_x),
  (25, .iload 4, 27, 0, 0, 0, m_x),
  (27, .invokestatic 28, 30, 0, 0, 0, m_So_at),
  (30, .iload_n 1, 31, 0, 0, 0, m_x),
  (31, .if_icmp .ne 7, 34, 0, 38, 0, m_x),
  (34, .iconst 1, 35, 0, 0, 0, m_x),
  (35, .goto 4, 38, 0, 39, 0, m_x),
  (38, .iconst 0, 39, 0, 0, 0, m_x),
  (39, .iadd, 40, 0, 0, 0, m_x),
  (40, .istore_n 3, 41, 0, 0, 0, m_x),
  (41, .iinc 4 1, 44, 0, 0, 0, m_x),
  (44, .goto (-39), 47, 0, 5, 0, m_x),
  (47, .iload_n 3, 48, 0, 0, 0, m_x),
  (48, .ireturn, 49, 0, 0, 0, m_x)]
theorem dc_Folk_othersAt : ∀ E ∈ k_Folk_othersAt, xDc m_Folk_othersAt E := by decide +kernel
set_option maxRecDepth 20000 in
theorem ok_Folk_othersAt : ∀ E ∈ k_Folk_othersAt, xOk m_Folk_othersAt E := xok_of dc_Folk_othersAt (xfc trivial (xfc trivial (xfc trivial (xfc trivial (xfc trivial (xfc trivial (xfc fl_Folk_21 (xfc (show ((11 : Nat) : Int) + (36) = ((47 : Nat) : Int) from by decide) (xfc trivial (xfc trivial (xfc trivial (xfc (show ((18 : Nat) : Int) + (20) = ((38 : Nat) : Int) from by decide) (xfc trivial (xfc fl_Folk_15 (xfc trivial (xfc ⟨ml_Folk_28, kd_So_at⟩ (xfc trivial (xfc (show ((31 : Nat) : Int) + (7) = ((38 : Nat) : Int) from by decide) (xfc trivial (xfc (show ((35 : Nat) : Int) + (4) = ((39 : Nat) : Int) from by decide) (xfc trivial (xfc trivial (xfc trivial (xfc trivial (xfc (show ((44 : Nat) : Int) + (-39) = ((5 : Nat) : Int) from by decide) (xfc trivial (xfc trivial (xfn))))))))))))))))))))))))))))
theorem s_Folk_othersAt_0  (C : xCx) (L r : List Value) (hp : xHp) : (xV k_Folk_othersAt C 0 L (r) hp) = (xV k_Folk_othersAt C 1 L (.int (0) :: r) hp) := xVe _ _ _ _ _ _
theorem s_Folk_othersAt_1 (C : xCx) (r : List Value) (hp : xHp) (x : Int32) (a0 a1 a2 a3 a4 : Value) : (xV k_Folk_othersAt C 1 [a0, a1, a2, a3, a4] (.int x :: r) hp) = (3 < 5 ∧ xNl [a0, a1, a2, a3, a4] 3 ∧ xV k_Folk_othersAt C 2 [a0, a1, a2, .int x, a4] r hp) := xVe _ _ _ _ _ _
theorem s_Folk_othersAt_2  (C : xCx) (L r : List Value) (hp : xHp) : (xV k_Folk_othersAt C 2 L (r) hp) = (xV k_Folk_othersAt C 3 L (.int (0) :: r) hp) := xVe _ _ _ _ _ _
theorem s_Folk_othersAt_3 (C : xCx) (r : List Value) (hp : xHp) (x : Int32) (a0 a1 a2 a3 a4 : Value) : (xV k_Folk_othersAt C 3 [a0, a1, a2, a3, a4] (.int x :: r) hp) = (4 < 5 ∧ xNl [a0, a1, a2, a3, a4] 4 ∧ xV k_Folk_othersAt C 5 [a0, a1, a2, a3, .int x] r hp) := xVe _ _ _ _ _ _
theorem s_Folk_othersAt_5 (C : xCx) (r : List Value) (hp : xHp) (x : Int32) (a0 a1 a2 a3 : Value) : (xV k_Folk_othersAt C 5 [a0, a1, a2, a3, .int x] r hp) = (xV k_Folk_othersAt C 7 [a0, a1, a2, a3, .int x] (.int x :: r) hp) := xVe _ _ _ _ _ _
theorem s_Folk_othersAt_7 (C : xCx) (r : List Value) (hp : xHp) (x : Nat) (a1 a2 a3 a4 : Value) : (xV k_Folk_othersAt C 7 [.ref x, a1, a2, a3, a4] r hp) = (True ∧ xV k_Folk_othersAt C 8 [.ref x, a1, a2, a3, a4] (.ref x :: r) hp) := xVe _ _ _ _ _ _
theorem s_Folk_othersAt_8 (a : Nat) (C : xCx) (L r : List Value) (hp : xHp) : (xV k_Folk_othersAt C 8 L (.ref a :: r) hp) = (xF hp a 3 3 (fun v => xV k_Folk_othersAt C 11 L (v :: r) hp)) := xVe _ _ _ _ _ _
theorem s_Folk_othersAt_11 (x y : Int32) (C : xCx) (L r : List Value) (hp : xHp) : (xV k_Folk_othersAt C 11 L (.int y :: .int x :: r) hp) = (((y ≤ x → xV k_Folk_othersAt C 47 L r hp) ∧ (¬ y ≤ x → xV k_Folk_othersAt C 14 L r hp))) := xVe _ _ _ _ _ _
theorem s_Folk_othersAt_14 (C : xCx) (r : List Value) (hp : xHp) (x : Int32) (a0 a1 a2 a4 : Value) : (xV k_Folk_othersAt C 14 [a0, a1, a2, .int x, a4] r hp) = (xV k_Folk_othersAt C 15 [a0, a1, a2, .int x, a4] (.int x :: r) hp) := xVe _ _ _ _ _ _
theorem s_Folk_othersAt_15 (C : xCx) (r : List Value) (hp : xHp) (x : Int32) (a0 a1 a2 a3 : Value) : (xV k_Folk_othersAt C 15 [a0, a1, a2, a3, .int x] r hp) = (xV k_Folk_othersAt C 17 [a0, a1, a2, a3, .int x] (.int x :: r) hp) := xVe _ _ _ _ _ _
theorem s_Folk_othersAt_17 (C : xCx) (r : List Value) (hp : xHp) (x : Int32) (a0 a1 a3 a4 : Value) : (xV k_Folk_othersAt C 17 [a0, a1, .int x, a3, a4] r hp) = (xV k_Folk_othersAt C 18 [a0, a1, .int x, a3, a4] (.int x :: r) hp) := xVe _ _ _ _ _ _
theorem s_Folk_othersAt_18 (x y : Int32) (C : xCx) (L r : List Value) (hp : xHp) : (xV k_Folk_othersAt C 18 L (.int y :: .int x :: r) hp) = (((x = y → xV k_Folk_othersAt C 38 L r hp) ∧ (¬ x = y → xV k_Folk_othersAt C 21 L r hp))) := xVe _ _ _ _ _ _
theorem s_Folk_othersAt_21 (C : xCx) (r : List Value) (hp : xHp) (x : Nat) (a1 a2 a3 a4 : Value) : (xV k_Folk_othersAt C 21 [.ref x, a1, a2, a3, a4] r hp) = (True ∧ xV k_Folk_othersAt C 22 [.ref x, a1, a2, a3, a4] (.ref x :: r) hp) := xVe _ _ _ _ _ _
theorem s_Folk_othersAt_22 (a : Nat) (C : xCx) (L r : List Value) (hp : xHp) : (xV k_Folk_othersAt C 22 L (.ref a :: r) hp) = (xF hp a 3 1 (fun v => xV k_Folk_othersAt C 25 L (v :: r) hp)) := xVe _ _ _ _ _ _
theorem s_Folk_othersAt_25 (C : xCx) (r : List Value) (hp : xHp) (x : Int32) (a0 a1 a2 a3 : Value) : (xV k_Folk_othersAt C 25 [a0, a1, a2, a3, .int x] r hp) = (xV k_Folk_othersAt C 27 [a0, a1, a2, a3, .int x] (.int x :: r) hp) := xVe _ _ _ _ _ _
theorem s_Folk_othersAt_27 (x0 : Nat) (x1 : Int32) (l : Launch) (d b lo gz n0 s0 : Nat) (Po : Option Value → xHp → Prop) (L r : List Value) (hp : xHp) : (xV k_Folk_othersAt (l, d + 1, b, lo, gz, n0, s0, m_Folk_othersAt, Po) 27 L (.int x1 :: .ref x0 :: r) hp) = (2 ≤ List.length (.int x1 :: .ref x0 :: r) ∧ xcs r 8 ∧ xMi l d b lo gz m_So_at [.ref x0, .int x1] hp (fun x hp' => xV k_Folk_othersAt (l, d + 1, b, lo, gz, n0, s0, m_Folk_othersAt, Po) 30 L (.int x :: r) hp')) := xVe _ _ _ _ _ _
theorem s_Folk_othersAt_30 (C : xCx) (r : List Value) (hp : xHp) (x : Int32) (a0 a2 a3 a4 : Value) : (xV k_Folk_othersAt C 30 [a0, .int x, a2, a3, a4] r hp) = (xV k_Folk_othersAt C 31 [a0, .int x, a2, a3, a4] (.int x :: r) hp) := xVe _ _ _ _ _ _
theorem s_Folk_othersAt_31 (x y : Int32) (C : xCx) (L r : List Value) (hp : xHp) : (xV k_Folk_othersAt C 31 L (.int y :: .int x :: r) hp) = (((¬ x = y → xV k_Folk_othersAt C 38 L r hp) ∧ (x = y → xV k_Folk_othersAt C 34 L r hp))) := xVe _ _ _ _ _ _
theorem s_Folk_othersAt_34  (C : xCx) (L r : List Value) (hp : xHp) : (xV k_Folk_othersAt C 34 L (r) hp) = (xV k_Folk_othersAt C 35 L (.int (1) :: r) hp) := xVe _ _ _ _ _ _
theorem s_Folk_othersAt_35 (C : xCx) (L r : List Value) (hp : xHp) : (xV k_Folk_othersAt C 35 L r hp) = (xV k_Folk_othersAt C 39 L r hp) := xVe _ _ _ _ _ _
theorem s_Folk_othersAt_38  (C : xCx) (L r : List Value) (hp : xHp) : (xV k_Folk_othersAt C 38 L (r) hp) = (xV k_Folk_othersAt C 39 L (.int (0) :: r) hp) := xVe _ _ _ _ _ _
theorem s_Folk_othersAt_39 (x y : Int32) (C : xCx) (L r : List Value) (hp : xHp) : (xV k_Folk_othersAt C 39 L (.int y :: .int x :: r) hp) = (xV k_Folk_othersAt C 40 L (.int (x + y) :: r) hp) := xVe _ _ _ _ _ _
theorem s_Folk_othersAt_40 (C : xCx) (r : List Value) (hp : xHp) (x : Int32) (a0 a1 a2 a3 a4 : Value) : (xV k_Folk_othersAt C 40 [a0, a1, a2, a3, a4] (.int x :: r) hp) = (3 < 5 ∧ xNl [a0, a1, a2, a3, a4] 3 ∧ xV k_Folk_othersAt C 41 [a0, a1, a2, .int x, a4] r hp) := xVe _ _ _ _ _ _
theorem s_Folk_othersAt_41 (C : xCx) (r : List Value) (hp : xHp) (x : Int32) (a0 a1 a2 a3 : Value) : (xV k_Folk_othersAt C 41 [a0, a1, a2, a3, .int x] r hp) = (xNl [a0, a1, a2, a3, .int x] 4 ∧ xV k_Folk_othersAt C 44 [a0, a1, a2, a3, .int (x + (1))] r hp) := xVe _ _ _ _ _ _
theorem s_Folk_othersAt_44 (C : xCx) (L r : List Value) (hp : xHp) : (xV k_Folk_othersAt C 44 L r hp) = (xV k_Folk_othersAt C 5 L r hp) := xVe _ _ _ _ _ _
theorem s_Folk_othersAt_47 (C : xCx) (r : List Value) (hp : xHp) (x : Int32) (a0 a1 a2 a4 : Value) : (xV k_Folk_othersAt C 47 [a0, a1, a2, .int x, a4] r hp) = (xV k_Folk_othersAt C 48 [a0, a1, a2, .int x, a4] (.int x :: r) hp) := xVe _ _ _ _ _ _
theorem s_Folk_othersAt_48 (v : Int32) (l : Launch) (d b lo gz n0 s0 : Nat) (Po : Option Value → xHp → Prop) (L : List Value) (hp : xHp) : (xV k_Folk_othersAt (l, d, b, lo, gz, n0, s0, m_Folk_othersAt, Po) 48 L [.int v] hp) = (Po (some (.int v)) hp) := xVe _ _ _ _ _ _
def k_Folk_age : List xEC := [
  (0, .aload_n 0, 1, 0, 0, 0, m_x),
  (1, .getfield 9, 4, 3, 0, 0, m_x),
  (4, .iload_n 1, 5, 0, 0, 0, m_x),
  (5, .invokestatic 28, 8, 0, 0, 0, m_So_at),
  (8, .ireturn, 9, 0, 0, 0, m_x)]
theorem dc_Folk_age : ∀ E ∈ k_Folk_age, xDc m_Folk_age E := by decide +kernel
set_option maxRecDepth 20000 in
theorem ok_Folk_age : ∀ E ∈ k_Folk_age, xOk m_Folk_age E := xok_of dc_Folk_age (xfc trivial (xfc fl_Folk_9 (xfc trivial (xfc ⟨ml_Folk_28, kd_So_at⟩ (xfc trivial (xfn))))))
theorem s_Folk_age_0 (C : xCx) (r : List Value) (hp : xHp) (x : Nat) (a1 : Value) : (xV k_Folk_age C 0 [.ref x, a1] r hp) = (True ∧ xV k_Folk_age C 1 [.ref x, a1] (.ref x :: r) hp) := xVe _ _ _ _ _ _
theorem s_Folk_age_1 (a : Nat) (C : xCx) (L r : List Value) (hp : xHp) : (xV k_Folk_age C 1 L (.ref a :: r) hp) = (xF hp a 3 0 (fun v => xV k_Folk_age C 4 L (v :: r) hp)) := xVe _ _ _ _ _ _
theorem s_Folk_age_4 (C : xCx) (r : List Value) (hp : xHp) (x : Int32) (a0 : Value) : (xV k_Folk_age C 4 [a0, .int x] r hp) = (xV k_Folk_age C 5 [a0, .int x] (.int x :: r) hp) := xVe _ _ _ _ _ _
theorem s_Folk_age_5 (x0 : Nat) (x1 : Int32) (l : Launch) (d b lo gz n0 s0 : Nat) (Po : Option Value → xHp → Prop) (L r : List Value) (hp : xHp) : (xV k_Folk_age (l, d + 1, b, lo, gz, n0, s0, m_Folk_age, Po) 5 L (.int x1 :: .ref x0 :: r) hp) = (2 ≤ List.length (.int x1 :: .ref x0 :: r) ∧ xcs r 8 ∧ xMi l d b lo gz m_So_at [.ref x0, .int x1] hp (fun x hp' => xV k_Folk_age (l, d + 1, b, lo, gz, n0, s0, m_Folk_age, Po) 8 L (.int x :: r) hp')) := xVe _ _ _ _ _ _
theorem s_Folk_age_8 (v : Int32) (l : Launch) (d b lo gz n0 s0 : Nat) (Po : Option Value → xHp → Prop) (L : List Value) (hp : xHp) : (xV k_Folk_age (l, d, b, lo, gz, n0, s0, m_Folk_age, Po) 8 L [.int v] hp) = (Po (some (.int v)) hp) := xVe _ _ _ _ _ _
theorem ml_Folk_36 : xLk "SunnyOnes$Folk" 36 m_Math_min := Or.inl (wg3 82 (by decide +kernel) rfl)
def k_Folk_grow : List xEC := [
  (0, .aload_n 0, 1, 0, 0, 0, m_x),
  (1, .getfield 9, 4, 3, 0, 0, m_x),
  (4, .iload_n 1, 5, 0, 0, 0, m_x),
  (5, .sipush 9999, 8, 0, 0, 0, m_x),
  (8, .aload_n 0, 9, 0, 0, 0, m_x),
  (9, .getfield 9, 12, 3, 0, 0, m_x),
  (12, .iload_n 1, 13, 0, 0, 0, m_x),
  (13, .invokestatic 28, 16, 0, 0, 0, m_So_at),
  (16, .iload_n 2, 17, 0, 0, 0, m_x),
  (17, .iadd, 18, 0, 0, 0, m_x),
  (18, .invokestatic 36, 21, 0, 0, 0, m_Math_min),
  (21, .invokestatic 32, 24, 0, 0, 0, m_So_put),
  (24, .return_, 25, 0, 0, 0, m_x)]
theorem dc_Folk_grow : ∀ E ∈ k_Folk_grow, xDc m_Folk_grow E := by decide +kernel
set_option maxRecDepth 20000 in
theorem ok_Folk_grow : ∀ E ∈ k_Folk_grow, xOk m_Folk_grow E := xok_of dc_Folk_grow (xfc trivial (xfc fl_Folk_9 (xfc trivial (xfc trivial (xfc trivial (xfc fl_Folk_9 (xfc trivial (xfc ⟨ml_Folk_28, kd_So_at⟩ (xfc trivial (xfc trivial (xfc ⟨ml_Folk_36, kd_Math_min⟩ (xfc ⟨ml_Folk_32, kd_So_put⟩ (xfc trivial (xfn))))))))))))))
theorem s_Folk_grow_0 (C : xCx) (r : List Value) (hp : xHp) (x : Nat) (a1 a2 : Value) : (xV k_Folk_grow C 0 [.ref x, a1, a2] r hp) = (True ∧ xV k_Folk_grow C 1 [.ref x, a1, a2] (.ref x :: r) hp) := xVe _ _ _ _ _ _
theorem s_Folk_grow_1 (a : Nat) (C : xCx) (L r : List Value) (hp : xHp) : (xV k_Folk_grow C 1 L (.ref a :: r) hp) = (xF hp a 3 0 (fun v => xV k_Folk_grow C 4 L (v :: r) hp)) := xVe _ _ _ _ _ _
theorem s_Folk_grow_4 (C : xCx) (r : List Value) (hp : xHp) (x : Int32) (a0 a2 : Value) : (xV k_Folk_grow C 4 [a0, .int x, a2] r hp) = (xV k_Folk_grow C 5 [a0, .int x, a2] (.int x :: r) hp) := xVe _ _ _ _ _ _
theorem s_Folk_grow_5  (C : xCx) (L r : List Value) (hp : xHp) : (xV k_Folk_grow C 5 L (r) hp) = (xV k_Folk_grow C 8 L (.int (9999) :: r) hp) := xVe _ _ _ _ _ _
theorem s_Folk_grow_8 (C : xCx) (r : List Value) (hp : xHp) (x : Nat) (a1 a2 : Value) : (xV k_Folk_grow C 8 [.ref x, a1, a2] r hp) = (True ∧ xV k_Folk_grow C 9 [.ref x, a1, a2] (.ref x :: r) hp) := xVe _ _ _ _ _ _
theorem s_Folk_grow_9 (a : Nat) (C : xCx) (L r : List Value) (hp : xHp) : (xV k_Folk_grow C 9 L (.ref a :: r) hp) = (xF hp a 3 0 (fun v => xV k_Folk_grow C 12 L (v :: r) hp)) := xVe _ _ _ _ _ _
theorem s_Folk_grow_12 (C : xCx) (r : List Value) (hp : xHp) (x : Int32) (a0 a2 : Value) : (xV k_Folk_grow C 12 [a0, .int x, a2] r hp) = (xV k_Folk_grow C 13 [a0, .int x, a2] (.int x :: r) hp) := xVe _ _ _ _ _ _
theorem s_Folk_grow_13 (x0 : Nat) (x1 : Int32) (l : Launch) (d b lo gz n0 s0 : Nat) (Po : Option Value → xHp → Prop) (L r : List Value) (hp : xHp) : (xV k_Folk_grow (l, d + 1, b, lo, gz, n0, s0, m_Folk_grow, Po) 13 L (.int x1 :: .ref x0 :: r) hp) = (2 ≤ List.length (.int x1 :: .ref x0 :: r) ∧ xcs r 8 ∧ xMi l d b lo gz m_So_at [.ref x0, .int x1] hp (fun x hp' => xV k_Folk_grow (l, d + 1, b, lo, gz, n0, s0, m_Folk_grow, Po) 16 L (.int x :: r) hp')) := xVe _ _ _ _ _ _
theorem s_Folk_grow_16 (C : xCx) (r : List Value) (hp : xHp) (x : Int32) (a0 a1 : Value) : (xV k_Folk_grow C 16 [a0, a1, .int x] r hp) = (xV k_Folk_grow C 17 [a0, a1, .int x] (.int x :: r) hp) := xVe _ _ _ _ _ _
theorem s_Folk_grow_17 (x y : Int32) (C : xCx) (L r : List Value) (hp : xHp) : (xV k_Folk_grow C 17 L (.int y :: .int x :: r) hp) = (xV k_Folk_grow C 18 L (.int (x + y) :: r) hp) := xVe _ _ _ _ _ _
theorem s_Folk_grow_18 (x0 : Int32) (x1 : Int32) (l : Launch) (d b lo gz n0 s0 : Nat) (Po : Option Value → xHp → Prop) (L r : List Value) (hp : xHp) : (xV k_Folk_grow (l, d + 1, b, lo, gz, n0, s0, m_Folk_grow, Po) 18 L (.int x1 :: .int x0 :: r) hp) = (2 ≤ List.length (.int x1 :: .int x0 :: r) ∧ xcs r 8 ∧ xMi l d b lo gz m_Math_min [.int x0, .int x1] hp (fun x hp' => xV k_Folk_grow (l, d + 1, b, lo, gz, n0, s0, m_Folk_grow, Po) 21 L (.int x :: r) hp')) := xVe _ _ _ _ _ _
theorem s_Folk_grow_21 (x0 : Nat) (x1 : Int32) (x2 : Int32) (l : Launch) (d b lo gz n0 s0 : Nat) (Po : Option Value → xHp → Prop) (L r : List Value) (hp : xHp) : (xV k_Folk_grow (l, d + 1, b, lo, gz, n0, s0, m_Folk_grow, Po) 21 L (.int x2 :: .int x1 :: .ref x0 :: r) hp) = (3 ≤ List.length (.int x2 :: .int x1 :: .ref x0 :: r) ∧ xcs r 8 ∧ xMv l d b lo gz m_So_put [.ref x0, .int x1, .int x2] hp (fun hp' => xV k_Folk_grow (l, d + 1, b, lo, gz, n0, s0, m_Folk_grow, Po) 24 L r hp')) := xVe _ _ _ _ _ _
theorem s_Folk_grow_24 (l : Launch) (d b lo gz n0 s0 : Nat) (Po : Option Value → xHp → Prop) (L : List Value) (hp : xHp) : (xV k_Folk_grow (l, d, b, lo, gz, n0, s0, m_Folk_grow, Po) 24 L [] hp) = (Po (none) hp) := xVe _ _ _ _ _ _
def k_Folk_setDay : List xEC := [
  (0, .aload_n 0, 1, 0, 0, 0, m_x),
  (1, .iload_n 1, 2, 0, 0, 0, m_x),
  (2, .putfield 25, 5, 3, 4, 0, m_x),
  (5, .return_, 6, 0, 0, 0, m_x)]
theorem dc_Folk_setDay : ∀ E ∈ k_Folk_setDay, xDc m_Folk_setDay E := by decide +kernel
set_option maxRecDepth 20000 in
theorem ok_Folk_setDay : ∀ E ∈ k_Folk_setDay, xOk m_Folk_setDay E := xok_of dc_Folk_setDay (xfc trivial (xfc trivial (xfc ⟨fl_Folk_25, fun q h f => by cases h; exact absurd f (by decide)⟩ (xfc trivial (xfn)))))
theorem s_Folk_setDay_0 (C : xCx) (r : List Value) (hp : xHp) (x : Nat) (a1 : Value) : (xV k_Folk_setDay C 0 [.ref x, a1] r hp) = (True ∧ xV k_Folk_setDay C 1 [.ref x, a1] (.ref x :: r) hp) := xVe _ _ _ _ _ _
theorem s_Folk_setDay_1 (C : xCx) (r : List Value) (hp : xHp) (x : Int32) (a0 : Value) : (xV k_Folk_setDay C 1 [a0, .int x] r hp) = (xV k_Folk_setDay C 2 [a0, .int x] (.int x :: r) hp) := xVe _ _ _ _ _ _
theorem s_Folk_setDay_2 (x : Int32) (a : Nat) (C : xCx) (L r : List Value) (hp : xHp) : (xV k_Folk_setDay C 2 L (.int x :: .ref a :: r) hp) = (True ∧ xPf hp a 3 4 (.int x) (fun hp' => xV k_Folk_setDay C 5 L r hp')) := xVe _ _ _ _ _ _
theorem s_Folk_setDay_5 (l : Launch) (d b lo gz n0 s0 : Nat) (Po : Option Value → xHp → Prop) (L : List Value) (hp : xHp) : (xV k_Folk_setDay (l, d, b, lo, gz, n0, s0, m_Folk_setDay, Po) 5 L [] hp) = (Po (none) hp) := xVe _ _ _ _ _ _
theorem fl_Past_27 : xFl "SunnyOnes$Past" 27 5 3 := ⟨("SunnyOnes$Past", F_Past, 5), rfl, by decide, wg1 158 (by decide +kernel) rfl⟩
theorem ml_Past_30 : xLk "SunnyOnes$Past" 30 m_Past_pick := Or.inl (wg3 91 (by decide +kernel) rfl)
theorem ml_Past_34 : xLk "SunnyOnes$Past" 34 m_Folk_copyFrom := Or.inl (wg3 94 (by decide +kernel) rfl)
theorem ml_Past_38 : xLk "SunnyOnes$Past" 38 m_Math_min := Or.inl (wg3 95 (by decide +kernel) rfl)
def k_Past_push : List xEC := [
  (0, .aload_n 0, 1, 0, 0, 0, m_x),
  (1, .getfield 11, 4, 5, 0, 0, m_x),
  (4, .aload_n 0, 5, 0, 0, 0, m_x),
  (5, .getfield 27, 8, 5, 3, 0, m_x),
  (8, .invokestatic 30, 11, 0, 0, 0, m_Past_pick),
  (11, .astore_n 2, 12, 0, 0, 0, m_x),
  (12, .aload_n 2, 13, 0, 0, 0, m_x),
  (13, .ifnull 8, 16, 0, 21, 0, m_x),
  (16, .aload_n 2, 17, 0, 0, 0, m_x),
  (17, .aload_n 1, 18, 0, 0, 0, m_x),
  (18, .invokevirtual 34, 21, 3, 0, 0, m_Folk_copyFrom),
  (21, .aload_n 0, 22, 0, 0, 0, m_x),
  (22, .aload_n 0, 23, 0, 0, 0, m_x),
  (23, .getfield 27, 26, 5, 3, 0, m_x),
  (26, .iconst 1, 27, 0, 0, 0, m_x),
  (27, .iadd, 28, 0, 0, 0, m_x),
  (28, .bipush 12, 30, 0, 0, 0, m_x),
  (30, .if_icmp .ge 12, 33, 0, 42, 0, m_x),
  (33, .aload_n 0, 34, 0, 0, 0, m_x),
  (34, .getfield 27, 37, 5, 3, 0, m_x),
  (37, .iconst 1, 38, 0, 0, 0, m_x),
  (38, .iadd, 39, 0, 0, 0, m_x),
  (39, .goto 4, 42, 0, 43, 0, m_x),
  (42, .iconst 0, 43, 0, 0, 0, m_x),
  (43, .putfield 27, 46, 5, 3, 0, m_x),
  (46, .aload_n 0, 47, 0, 0, 0, m_x),
  (47, .bipush 12, 49, 0, 0, 0, m_x),
  (49, .aload_n 0, 50, 0, 0, 0, m_x),
  (50, .getfield 23, 53, 5, 4, 0, m_x),
  (53, .iconst 1, 54, 0, 0, 0, m_x),
  (54, .iadd, 55, 0, 0, 0, m_x),
  (55, .invokestatic 38, 58, 0, 0, 0, m_Math_min),
  (58, .putfield 23, 61, 5, 4, 0, m_x),
  (61, .return_, 62, 0, 0, 0, m_x)]
theorem dc_Past_push : ∀ E ∈ k_Past_push, xDc m_Past_push E := by decide +kernel
set_option maxRecDepth 20000 in
theorem ok_Past_push : ∀ E ∈ k_Past_push, xOk m_Past_push E := xok_of dc_Past_push (xfc trivial (xfc fl_Past_11 (xfc trivial (xfc fl_Past_27 (xfc ⟨ml_Past_30, kd_Past_pick⟩ (xfc trivial (xfc trivial (xfc (show ((13 : Nat) : Int) + (8) = ((21 : Nat) : Int) from by decide) (xfc trivial (xfc trivial (xfc ⟨ml_Past_34, kd_Folk_copyFrom⟩ (xfc trivial (xfc trivial (xfc fl_Past_27 (xfc trivial (xfc trivial (xfc trivial (xfc (show ((30 : Nat) : Int) + (12) = ((42 : Nat) : Int) from by decide) (xfc trivial (xfc fl_Past_27 (xfc trivial (xfc trivial (xfc (show ((39 : Nat) : Int) + (4) = ((43 : Nat) : Int) from by decide) (xfc trivial (xfc ⟨fl_Past_27, fun q h f => by cases h; exact absurd f (by decide)⟩ (xfc trivial (xfc trivial (xfc trivial (xfc fl_Past_23 (xfc trivial (xfc trivial (xfc ⟨ml_Past_38, kd_Math_min⟩ (xfc ⟨fl_Past_23, fun q h f => by cases h; exact absurd f (by decide)⟩ (xfc trivial (xfn)))))))))))))))))))))))))))))))))))
theorem s_Past_push_0 (C : xCx) (r : List Value) (hp : xHp) (x : Nat) (a1 a2 : Value) : (xV k_Past_push C 0 [.ref x, a1, a2] r hp) = (True ∧ xV k_Past_push C 1 [.ref x, a1, a2] (.ref x :: r) hp) := xVe _ _ _ _ _ _
theorem s_Past_push_1 (a : Nat) (C : xCx) (L r : List Value) (hp : xHp) : (xV k_Past_push C 1 L (.ref a :: r) hp) = (xF hp a 5 0 (fun v => xV k_Past_push C 4 L (v :: r) hp)) := xVe _ _ _ _ _ _
theorem s_Past_push_4 (C : xCx) (r : List Value) (hp : xHp) (x : Nat) (a1 a2 : Value) : (xV k_Past_push C 4 [.ref x, a1, a2] r hp) = (True ∧ xV k_Past_push C 5 [.ref x, a1, a2] (.ref x :: r) hp) := xVe _ _ _ _ _ _
theorem s_Past_push_5 (a : Nat) (C : xCx) (L r : List Value) (hp : xHp) : (xV k_Past_push C 5 L (.ref a :: r) hp) = (xF hp a 5 3 (fun v => xV k_Past_push C 8 L (v :: r) hp)) := xVe _ _ _ _ _ _
theorem s_Past_push_8 (x0 : Nat) (x1 : Int32) (l : Launch) (d b lo gz n0 s0 : Nat) (Po : Option Value → xHp → Prop) (L r : List Value) (hp : xHp) : (xV k_Past_push (l, d + 1, b, lo, gz, n0, s0, m_Past_push, Po) 8 L (.int x1 :: .ref x0 :: r) hp) = (2 ≤ List.length (.int x1 :: .ref x0 :: r) ∧ xcs r 8 ∧ xMq l d b lo gz m_Past_pick [.ref x0, .int x1] hp (fun x hp' => xV k_Past_push (l, d + 1, b, lo, gz, n0, s0, m_Past_push, Po) 11 L (x :: r) hp')) := xVe _ _ _ _ _ _
theorem s_Past_push_11 (C : xCx) (r : List Value) (hp : xHp) (x : Nat) (a0 a1 a2 : Value) : (xV k_Past_push C 11 [a0, a1, a2] (.ref x :: r) hp) = (2 < 3 ∧ xNl [a0, a1, a2] 2 ∧ xV k_Past_push C 12 [a0, a1, .ref x] r hp) := xVe _ _ _ _ _ _
theorem s_Past_push_12 (C : xCx) (r : List Value) (hp : xHp) (x : Nat) (a0 a1 : Value) : (xV k_Past_push C 12 [a0, a1, .ref x] r hp) = (True ∧ xV k_Past_push C 13 [a0, a1, .ref x] (.ref x :: r) hp) := xVe _ _ _ _ _ _
theorem s_Past_push_13n (C : xCx) (L r : List Value) (hp : xHp) : (xV k_Past_push C 13 L (.null :: r) hp) = (xV k_Past_push C 21 L r hp) := xVe _ _ _ _ _ _
theorem s_Past_push_13 (a : Nat) (C : xCx) (L r : List Value) (hp : xHp) : (xV k_Past_push C 13 L (.ref a :: r) hp) = (xV k_Past_push C 16 L r hp) := xVe _ _ _ _ _ _
theorem s_Past_push_16 (C : xCx) (r : List Value) (hp : xHp) (x : Nat) (a0 a1 : Value) : (xV k_Past_push C 16 [a0, a1, .ref x] r hp) = (True ∧ xV k_Past_push C 17 [a0, a1, .ref x] (.ref x :: r) hp) := xVe _ _ _ _ _ _
theorem s_Past_push_17 (C : xCx) (r : List Value) (hp : xHp) (x : Nat) (a0 a2 : Value) : (xV k_Past_push C 17 [a0, .ref x, a2] r hp) = (True ∧ xV k_Past_push C 18 [a0, .ref x, a2] (.ref x :: r) hp) := xVe _ _ _ _ _ _
theorem s_Past_push_18 (x0 : Nat) (a : Nat) (l : Launch) (d b lo gz n0 s0 : Nat) (Po : Option Value → xHp → Prop) (L r : List Value) (hp : xHp) : (xV k_Past_push (l, d + 1, b, lo, gz, n0, s0, m_Past_push, Po) 18 L (.ref x0 :: .ref a :: r) hp) = (xO hp a 3 ∧ xcs r 8 ∧ xMv l d b lo gz m_Folk_copyFrom [.ref a, .ref x0] hp (fun hp' => xV k_Past_push (l, d + 1, b, lo, gz, n0, s0, m_Past_push, Po) 21 L r hp')) := xVe _ _ _ _ _ _
theorem s_Past_push_21 (C : xCx) (r : List Value) (hp : xHp) (x : Nat) (a1 a2 : Value) : (xV k_Past_push C 21 [.ref x, a1, a2] r hp) = (True ∧ xV k_Past_push C 22 [.ref x, a1, a2] (.ref x :: r) hp) := xVe _ _ _ _ _ _
theorem s_Past_push_22 (C : xCx) (r : List Value) (hp : xHp) (x : Nat) (a1 a2 : Value) : (xV k_Past_push C 22 [.ref x, a1, a2] r hp) = (True ∧ xV k_Past_push C 23 [.ref x, a1, a2] (.ref x :: r) hp) := xVe _ _ _ _ _ _
theorem s_Past_push_23 (a : Nat) (C : xCx) (L r : List Value) (hp : xHp) : (xV k_Past_push C 23 L (.ref a :: r) hp) = (xF hp a 5 3 (fun v => xV k_Past_push C 26 L (v :: r) hp)) := xVe _ _ _ _ _ _
theorem s_Past_push_26  (C : xCx) (L r : List Value) (hp : xHp) : (xV k_Past_push C 26 L (r) hp) = (xV k_Past_push C 27 L (.int (1) :: r) hp) := xVe _ _ _ _ _ _
theorem s_Past_push_27 (x y : Int32) (C : xCx) (L r : List Value) (hp : xHp) : (xV k_Past_push C 27 L (.int y :: .int x :: r) hp) = (xV k_Past_push C 28 L (.int (x + y) :: r) hp) := xVe _ _ _ _ _ _
theorem s_Past_push_28  (C : xCx) (L r : List Value) (hp : xHp) : (xV k_Past_push C 28 L (r) hp) = (xV k_Past_push C 30 L (.int (12) :: r) hp) := xVe _ _ _ _ _ _
theorem s_Past_push_30 (x y : Int32) (C : xCx) (L r : List Value) (hp : xHp) : (xV k_Past_push C 30 L (.int y :: .int x :: r) hp) = (((y ≤ x → xV k_Past_push C 42 L r hp) ∧ (¬ y ≤ x → xV k_Past_push C 33 L r hp))) := xVe _ _ _ _ _ _
theorem s_Past_push_33 (C : xCx) (r : List Value) (hp : xHp) (x : Nat) (a1 a2 : Value) : (xV k_Past_push C 33 [.ref x, a1, a2] r hp) = (True ∧ xV k_Past_push C 34 [.ref x, a1, a2] (.ref x :: r) hp) := xVe _ _ _ _ _ _
theorem s_Past_push_34 (a : Nat) (C : xCx) (L r : List Value) (hp : xHp) : (xV k_Past_push C 34 L (.ref a :: r) hp) = (xF hp a 5 3 (fun v => xV k_Past_push C 37 L (v :: r) hp)) := xVe _ _ _ _ _ _
theorem s_Past_push_37  (C : xCx) (L r : List Value) (hp : xHp) : (xV k_Past_push C 37 L (r) hp) = (xV k_Past_push C 38 L (.int (1) :: r) hp) := xVe _ _ _ _ _ _
theorem s_Past_push_38 (x y : Int32) (C : xCx) (L r : List Value) (hp : xHp) : (xV k_Past_push C 38 L (.int y :: .int x :: r) hp) = (xV k_Past_push C 39 L (.int (x + y) :: r) hp) := xVe _ _ _ _ _ _
theorem s_Past_push_39 (C : xCx) (L r : List Value) (hp : xHp) : (xV k_Past_push C 39 L r hp) = (xV k_Past_push C 43 L r hp) := xVe _ _ _ _ _ _
theorem s_Past_push_42  (C : xCx) (L r : List Value) (hp : xHp) : (xV k_Past_push C 42 L (r) hp) = (xV k_Past_push C 43 L (.int (0) :: r) hp) := xVe _ _ _ _ _ _
theorem s_Past_push_43 (x : Int32) (a : Nat) (C : xCx) (L r : List Value) (hp : xHp) : (xV k_Past_push C 43 L (.int x :: .ref a :: r) hp) = (True ∧ xPf hp a 5 3 (.int x) (fun hp' => xV k_Past_push C 46 L r hp')) := xVe _ _ _ _ _ _
theorem s_Past_push_46 (C : xCx) (r : List Value) (hp : xHp) (x : Nat) (a1 a2 : Value) : (xV k_Past_push C 46 [.ref x, a1, a2] r hp) = (True ∧ xV k_Past_push C 47 [.ref x, a1, a2] (.ref x :: r) hp) := xVe _ _ _ _ _ _
theorem s_Past_push_47  (C : xCx) (L r : List Value) (hp : xHp) : (xV k_Past_push C 47 L (r) hp) = (xV k_Past_push C 49 L (.int (12) :: r) hp) := xVe _ _ _ _ _ _
theorem s_Past_push_49 (C : xCx) (r : List Value) (hp : xHp) (x : Nat) (a1 a2 : Value) : (xV k_Past_push C 49 [.ref x, a1, a2] r hp) = (True ∧ xV k_Past_push C 50 [.ref x, a1, a2] (.ref x :: r) hp) := xVe _ _ _ _ _ _
theorem s_Past_push_50 (a : Nat) (C : xCx) (L r : List Value) (hp : xHp) : (xV k_Past_push C 50 L (.ref a :: r) hp) = (xF hp a 5 4 (fun v => xV k_Past_push C 53 L (v :: r) hp)) := xVe _ _ _ _ _ _
theorem s_Past_push_53  (C : xCx) (L r : List Value) (hp : xHp) : (xV k_Past_push C 53 L (r) hp) = (xV k_Past_push C 54 L (.int (1) :: r) hp) := xVe _ _ _ _ _ _
theorem s_Past_push_54 (x y : Int32) (C : xCx) (L r : List Value) (hp : xHp) : (xV k_Past_push C 54 L (.int y :: .int x :: r) hp) = (xV k_Past_push C 55 L (.int (x + y) :: r) hp) := xVe _ _ _ _ _ _
theorem s_Past_push_55 (x0 : Int32) (x1 : Int32) (l : Launch) (d b lo gz n0 s0 : Nat) (Po : Option Value → xHp → Prop) (L r : List Value) (hp : xHp) : (xV k_Past_push (l, d + 1, b, lo, gz, n0, s0, m_Past_push, Po) 55 L (.int x1 :: .int x0 :: r) hp) = (2 ≤ List.length (.int x1 :: .int x0 :: r) ∧ xcs r 8 ∧ xMi l d b lo gz m_Math_min [.int x0, .int x1] hp (fun x hp' => xV k_Past_push (l, d + 1, b, lo, gz, n0, s0, m_Past_push, Po) 58 L (.int x :: r) hp')) := xVe _ _ _ _ _ _
theorem s_Past_push_58 (x : Int32) (a : Nat) (C : xCx) (L r : List Value) (hp : xHp) : (xV k_Past_push C 58 L (.int x :: .ref a :: r) hp) = (True ∧ xPf hp a 5 4 (.int x) (fun hp' => xV k_Past_push C 61 L r hp')) := xVe _ _ _ _ _ _
theorem s_Past_push_61 (l : Launch) (d b lo gz n0 s0 : Nat) (Po : Option Value → xHp → Prop) (L : List Value) (hp : xHp) : (xV k_Past_push (l, d, b, lo, gz, n0, s0, m_Past_push, Po) 61 L [] hp) = (Po (none) hp) := xVe _ _ _ _ _ _
def k_Past_pick : List xEC := [
  (0, .iload_n 1, 1, 0, 0, 0, m_x),
  (1, .ifCond .lt 15, 4, 0, 16, 0, m_x),
  (4, .iload_n 1, 5, 0, 0, 0, m_x),
  (5, .aload_n 0, 6, 0, 0, 0, m_x),
  (6, .arraylength, 7, 0, 0, 0, m_x),
  (7, .if_icmp .ge 9, 10, 0, 16, 0, m_x),
  (10, .aload_n 0, 11, 0, 0, 0, m_x),
  (11, .iload_n 1, 12, 0, 0, 0, m_x),
  (12, .aaload, 13, 0, 0, 0, m_x),
  (13, .goto 4, 16, 0, 17, 0, m_x),
  (16, .aconst_null, 17, 0, 0, 0, m_x),
  (17, .areturn, 18, 0, 0, 0, m_x)]
theorem dc_Past_pick : ∀ E ∈ k_Past_pick, xDc m_Past_pick E := by decide +kernel
set_option maxRecDepth 20000 in
theorem ok_Past_pick : ∀ E ∈ k_Past_pick, xOk m_Past_pick E := xok_of dc_Past_pick (xfc trivial (xfc (show ((1 : Nat) : Int) + (15) = ((16 : Nat) : Int) from by decide) (xfc trivial (xfc trivial (xfc trivial (xfc (show ((7 : Nat) : Int) + (9) = ((16 : Nat) : Int) from by decide) (xfc trivial (xfc trivial (xfc trivial (xfc (show ((13 : Nat) : Int) + (4) = ((17 : Nat) : Int) from by decide) (xfc trivial (xfc trivial (xfn)))))))))))))
theorem s_Past_pick_0 (C : xCx) (r : List Value) (hp : xHp) (x : Int32) (a0 : Value) : (xV k_Past_pick C 0 [a0, .int x] r hp) = (xV k_Past_pick C 1 [a0, .int x] (.int x :: r) hp) := xVe _ _ _ _ _ _
theorem s_Past_pick_1 (x : Int32) (C : xCx) (L r : List Value) (hp : xHp) : (xV k_Past_pick C 1 L (.int x :: r) hp) = (((x < 0 → xV k_Past_pick C 16 L r hp) ∧ (¬ x < 0 → xV k_Past_pick C 4 L r hp))) := xVe _ _ _ _ _ _
theorem s_Past_pick_4 (C : xCx) (r : List Value) (hp : xHp) (x : Int32) (a0 : Value) : (xV k_Past_pick C 4 [a0, .int x] r hp) = (xV k_Past_pick C 5 [a0, .int x] (.int x :: r) hp) := xVe _ _ _ _ _ _
theorem s_Past_pick_5 (C : xCx) (r : List Value) (hp : xHp) (x : Nat) (a1 : Value) : (xV k_Past_pick C 5 [.ref x, a1] r hp) = (True ∧ xV k_Past_pick C 6 [.ref x, a1] (.ref x :: r) hp) := xVe _ _ _ _ _ _
theorem s_Past_pick_6 (a : Nat) (C : xCx) (L r : List Value) (hp : xHp) : (xV k_Past_pick C 6 L (.ref a :: r) hp) = (xLn hp a (fun n => xV k_Past_pick C 7 L (.int (Int32.ofNat n) :: r) hp)) := xVe _ _ _ _ _ _
theorem s_Past_pick_7 (x y : Int32) (C : xCx) (L r : List Value) (hp : xHp) : (xV k_Past_pick C 7 L (.int y :: .int x :: r) hp) = (((y ≤ x → xV k_Past_pick C 16 L r hp) ∧ (¬ y ≤ x → xV k_Past_pick C 10 L r hp))) := xVe _ _ _ _ _ _
theorem s_Past_pick_10 (C : xCx) (r : List Value) (hp : xHp) (x : Nat) (a1 : Value) : (xV k_Past_pick C 10 [.ref x, a1] r hp) = (True ∧ xV k_Past_pick C 11 [.ref x, a1] (.ref x :: r) hp) := xVe _ _ _ _ _ _
theorem s_Past_pick_11 (C : xCx) (r : List Value) (hp : xHp) (x : Int32) (a0 : Value) : (xV k_Past_pick C 11 [a0, .int x] r hp) = (xV k_Past_pick C 12 [a0, .int x] (.int x :: r) hp) := xVe _ _ _ _ _ _
theorem s_Past_pick_12 (i : Int32) (a : Nat) (C : xCx) (L r : List Value) (hp : xHp) : (xV k_Past_pick C 12 L (.int i :: .ref a :: r) hp) = (xAq hp a (fun ty n g => ty = .object "SunnyOnes$Folk" ∧ vp_in i n ∧ xV k_Past_pick C 13 L (va_rf (g i.toNatClampNeg) :: r) hp)) := xVe _ _ _ _ _ _
theorem s_Past_pick_13 (C : xCx) (L r : List Value) (hp : xHp) : (xV k_Past_pick C 13 L r hp) = (xV k_Past_pick C 17 L r hp) := xVe _ _ _ _ _ _
theorem s_Past_pick_16  (C : xCx) (L r : List Value) (hp : xHp) : (xV k_Past_pick C 16 L (r) hp) = (xV k_Past_pick C 17 L (.null :: r) hp) := xVe _ _ _ _ _ _
theorem s_Past_pick_17 (v : Value) (l : Launch) (d b lo gz n0 s0 : Nat) (Po : Option Value → xHp → Prop) (L : List Value) (hp : xHp) : (xV k_Past_pick (l, d, b, lo, gz, n0, s0, m_Past_pick, Po) 17 L [v] hp) = (xvQ v ∧ Po (some v) hp) := xVe _ _ _ _ _ _
theorem ml_Row_17 : xLk "SunnyOnes$Row" 17 m_Row_clear := Or.inl (wg3 100 (by decide +kernel) rfl)
theorem ml_Row_20 : xLk "SunnyOnes$Row" 20 m_Row_add := Or.inl (wg3 104 (by decide +kernel) rfl)
def k_Row_tell2 : List xEC := [
  (0, .aload_n 0, 1, 0, 0, 0, m_x),
  (1, .invokevirtual 17, 4, 7, 0, 0, m_Row_clear),
  (4, .aload_n 0, 5, 0, 0, 0, m_x),
  (5, .lload_n 1, 6, 0, 0, 0, m_x),
  (6, .invokevirtual 20, 9, 7, 0, 0, m_Row_add),
  (9, .aload_n 0, 10, 0, 0, 0, m_x),
  (10, .lload_n 3, 11, 0, 0, 0, m_x),
  (11, .invokevirtual 20, 14, 7, 0, 0, m_Row_add),
  (14, .return_, 15, 0, 0, 0, m_x)]
theorem dc_Row_tell2 : ∀ E ∈ k_Row_tell2, xDc m_Row_tell2 E := by decide +kernel
set_option maxRecDepth 20000 in
theorem ok_Row_tell2 : ∀ E ∈ k_Row_tell2, xOk m_Row_tell2 E := xok_of dc_Row_tell2 (xfc trivial (xfc ⟨ml_Row_17, kd_Row_clear⟩ (xfc trivial (xfc trivial (xfc ⟨ml_Row_20, kd_Row_add⟩ (xfc trivial (xfc trivial (xfc ⟨ml_Row_20, kd_Row_add⟩ (xfc trivial (xfn))))))))))
theorem s_Row_tell2_0 (C : xCx) (r : List Value) (hp : xHp) (x : Nat) (a1 a2 a3 a4 : Value) : (xV k_Row_tell2 C 0 [.ref x, a1, a2, a3, a4] r hp) = (True ∧ xV k_Row_tell2 C 1 [.ref x, a1, a2, a3, a4] (.ref x :: r) hp) := xVe _ _ _ _ _ _
theorem s_Row_tell2_1 (a : Nat) (l : Launch) (d b lo gz n0 s0 : Nat) (Po : Option Value → xHp → Prop) (L r : List Value) (hp : xHp) : (xV k_Row_tell2 (l, d + 1, b, lo, gz, n0, s0, m_Row_tell2, Po) 1 L (.ref a :: r) hp) = (xO hp a 7 ∧ xcs r 8 ∧ xMv l d b lo gz m_Row_clear [.ref a] hp (fun hp' => xV k_Row_tell2 (l, d + 1, b, lo, gz, n0, s0, m_Row_tell2, Po) 4 L r hp')) := xVe _ _ _ _ _ _
theorem s_Row_tell2_4 (C : xCx) (r : List Value) (hp : xHp) (x : Nat) (a1 a2 a3 a4 : Value) : (xV k_Row_tell2 C 4 [.ref x, a1, a2, a3, a4] r hp) = (True ∧ xV k_Row_tell2 C 5 [.ref x, a1, a2, a3, a4] (.ref x :: r) hp) := xVe _ _ _ _ _ _
theorem s_Row_tell2_5 (C : xCx) (r : List Value) (hp : xHp) (x : Int64) (a0 a2 a3 a4 : Value) : (xV k_Row_tell2 C 5 [a0, .long x, a2, a3, a4] r hp) = (xV k_Row_tell2 C 6 [a0, .long x, a2, a3, a4] (.long x :: r) hp) := xVe _ _ _ _ _ _
theorem s_Row_tell2_6 (x0 : Int64) (a : Nat) (l : Launch) (d b lo gz n0 s0 : Nat) (Po : Option Value → xHp → Prop) (L r : List Value) (hp : xHp) : (xV k_Row_tell2 (l, d + 1, b, lo, gz, n0, s0, m_Row_tell2, Po) 6 L (.long x0 :: .ref a :: r) hp) = (xO hp a 7 ∧ xcs r 8 ∧ xMv l d b lo gz m_Row_add [.ref a, .long x0] hp (fun hp' => xV k_Row_tell2 (l, d + 1, b, lo, gz, n0, s0, m_Row_tell2, Po) 9 L r hp')) := xVe _ _ _ _ _ _
theorem s_Row_tell2_9 (C : xCx) (r : List Value) (hp : xHp) (x : Nat) (a1 a2 a3 a4 : Value) : (xV k_Row_tell2 C 9 [.ref x, a1, a2, a3, a4] r hp) = (True ∧ xV k_Row_tell2 C 10 [.ref x, a1, a2, a3, a4] (.ref x :: r) hp) := xVe _ _ _ _ _ _
theorem s_Row_tell2_10 (C : xCx) (r : List Value) (hp : xHp) (x : Int64) (a0 a1 a2 a4 : Value) : (xV k_Row_tell2 C 10 [a0, a1, a2, .long x, a4] r hp) = (xV k_Row_tell2 C 11 [a0, a1, a2, .long x, a4] (.long x :: r) hp) := xVe _ _ _ _ _ _
theorem s_Row_tell2_11 (x0 : Int64) (a : Nat) (l : Launch) (d b lo gz n0 s0 : Nat) (Po : Option Value → xHp → Prop) (L r : List Value) (hp : xHp) : (xV k_Row_tell2 (l, d + 1, b, lo, gz, n0, s0, m_Row_tell2, Po) 11 L (.long x0 :: .ref a :: r) hp) = (xO hp a 7 ∧ xcs r 8 ∧ xMv l d b lo gz m_Row_add [.ref a, .long x0] hp (fun hp' => xV k_Row_tell2 (l, d + 1, b, lo, gz, n0, s0, m_Row_tell2, Po) 14 L r hp')) := xVe _ _ _ _ _ _
theorem s_Row_tell2_14 (l : Launch) (d b lo gz n0 s0 : Nat) (Po : Option Value → xHp → Prop) (L : List Value) (hp : xHp) : (xV k_Row_tell2 (l, d, b, lo, gz, n0, s0, m_Row_tell2, Po) 14 L [] hp) = (Po (none) hp) := xVe _ _ _ _ _ _
theorem fl_Row_13 : xFl "SunnyOnes$Row" 13 7 1 := ⟨("SunnyOnes$Row", F_Row, 2), rfl, by decide, wg1 49 (by decide +kernel) rfl⟩
def k_Row_clear : List xEC := [
  (0, .aload_n 0, 1, 0, 0, 0, m_x),
  (1, .iconst 0, 2, 0, 0, 0, m_x),
  (2, .putfield 13, 5, 7, 1, 0, m_x),
  (5, .return_, 6, 0, 0, 0, m_x)]
theorem dc_Row_clear : ∀ E ∈ k_Row_clear, xDc m_Row_clear E := by decide +kernel
set_option maxRecDepth 20000 in
theorem ok_Row_clear : ∀ E ∈ k_Row_clear, xOk m_Row_clear E := xok_of dc_Row_clear (xfc trivial (xfc trivial (xfc ⟨fl_Row_13, fun q h f => by cases h; exact absurd f (by decide)⟩ (xfc trivial (xfn)))))
theorem s_Row_clear_0 (C : xCx) (r : List Value) (hp : xHp) (x : Nat) : (xV k_Row_clear C 0 [.ref x] r hp) = (True ∧ xV k_Row_clear C 1 [.ref x] (.ref x :: r) hp) := xVe _ _ _ _ _ _
theorem s_Row_clear_1  (C : xCx) (L r : List Value) (hp : xHp) : (xV k_Row_clear C 1 L (r) hp) = (xV k_Row_clear C 2 L (.int (0) :: r) hp) := xVe _ _ _ _ _ _
theorem s_Row_clear_2 (x : Int32) (a : Nat) (C : xCx) (L r : List Value) (hp : xHp) : (xV k_Row_clear C 2 L (.int x :: .ref a :: r) hp) = (True ∧ xPf hp a 7 1 (.int x) (fun hp' => xV k_Row_clear C 5 L r hp')) := xVe _ _ _ _ _ _
theorem s_Row_clear_5 (l : Launch) (d b lo gz n0 s0 : Nat) (Po : Option Value → xHp → Prop) (L : List Value) (hp : xHp) : (xV k_Row_clear (l, d, b, lo, gz, n0, s0, m_Row_clear, Po) 5 L [] hp) = (Po (none) hp) := xVe _ _ _ _ _ _
def k_Row_add : List xEC := [
  (0, .aload_n 0, 1, 0, 0, 0, m_x),
  (1, .getfield 13, 4, 7, 1, 0, m_x),
  (4, .ifCond .lt 35, 7, 0, 39, 0, m_x),
  (7, .aload_n 0, 8, 0, 0, 0, m_x),
  (8, .getfield 13, 11, 7, 1, 0, m_x),
  (11, .aload_n 0, 12, 0, 0, 0, m_x),
  (12, .getfield 7, 15, 7, 0, 0, m_x),
  (15, .arraylength, 16, 0, 0, 0, m_x),
  (16, .if_icmp .ge 23, 19, 0, 39, 0, m_x),
  (19, .aload_n 0, 20, 0, 0, 0, m_x),
  (20, .getfield 7, 23, 7, 0, 0, m_x),
  (23, .aload_n 0, 24, 0, 0, 0, m_x),
  (24, .getfield 13, 27, 7, 1, 0, m_x),
  (27, .lload_n 1, 28, 0, 0, 0, m_x),
  (28, .lastore, 29, 0, 0, 0, m_x),
  (29, .aload_n 0, 30, 0, 0, 0, m_x),
  (30, .dup, 31, 0, 0, 0, m_x),
  (31, .getfield 13, 34, 7, 1, 0, m_x),
  (34, .iconst 1, 35, 0, 0, 0, m_x),
  (35, .iadd, 36, 0, 0, 0, m_x),
  (36, .putfield 13, 39, 7, 1, 0, m_x),
  (39, .return_, 40, 0, 0, 0, m_x)]
theorem dc_Row_add : ∀ E ∈ k_Row_add, xDc m_Row_add E := by decide +kernel
set_option maxRecDepth 20000 in
theorem ok_Row_add : ∀ E ∈ k_Row_add, xOk m_Row_add E := xok_of dc_Row_add (xfc trivial (xfc fl_Row_13 (xfc (show ((4 : Nat) : Int) + (35) = ((39 : Nat) : Int) from by decide) (xfc trivial (xfc fl_Row_13 (xfc trivial (xfc fl_Row_7 (xfc trivial (xfc (show ((16 : Nat) : Int) + (23) = ((39 : Nat) : Int) from by decide) (xfc trivial (xfc fl_Row_7 (xfc trivial (xfc fl_Row_13 (xfc trivial (xfc trivial (xfc trivial (xfc trivial (xfc fl_Row_13 (xfc trivial (xfc trivial (xfc ⟨fl_Row_13, fun q h f => by cases h; exact absurd f (by decide)⟩ (xfc trivial (xfn)))))))))))))))))))))))
theorem s_Row_add_0 (C : xCx) (r : List Value) (hp : xHp) (x : Nat) (a1 a2 : Value) : (xV k_Row_add C 0 [.ref x, a1, a2] r hp) = (True ∧ xV k_Row_add C 1 [.ref x, a1, a2] (.ref x :: r) hp) := xVe _ _ _ _ _ _
theorem s_Row_add_1 (a : Nat) (C : xCx) (L r : List Value) (hp : xHp) : (xV k_Row_add C 1 L (.ref a :: r) hp) = (xF hp a 7 1 (fun v => xV k_Row_add C 4 L (v :: r) hp)) := xVe _ _ _ _ _ _
theorem s_Row_add_4 (x : Int32) (C : xCx) (L r : List Value) (hp : xHp) : (xV k_Row_add C 4 L (.int x :: r) hp) = (((x < 0 → xV k_Row_add C 39 L r hp) ∧ (¬ x < 0 → xV k_Row_add C 7 L r hp))) := xVe _ _ _ _ _ _
theorem s_Row_add_7 (C : xCx) (r : List Value) (hp : xHp) (x : Nat) (a1 a2 : Value) : (xV k_Row_add C 7 [.ref x, a1, a2] r hp) = (True ∧ xV k_Row_add C 8 [.ref x, a1, a2] (.ref x :: r) hp) := xVe _ _ _ _ _ _
theorem s_Row_add_8 (a : Nat) (C : xCx) (L r : List Value) (hp : xHp) : (xV k_Row_add C 8 L (.ref a :: r) hp) = (xF hp a 7 1 (fun v => xV k_Row_add C 11 L (v :: r) hp)) := xVe _ _ _ _ _ _
theorem s_Row_add_11 (C : xCx) (r : List Value) (hp : xHp) (x : Nat) (a1 a2 : Value) : (xV k_Row_add C 11 [.ref x, a1, a2] r hp) = (True ∧ xV k_Row_add C 12 [.ref x, a1, a2] (.ref x :: r) hp) := xVe _ _ _ _ _ _
theorem s_Row_add_12 (a : Nat) (C : xCx) (L r : List Value) (hp : xHp) : (xV k_Row_add C 12 L (.ref a :: r) hp) = (xF hp a 7 0 (fun v => xV k_Row_add C 15 L (v :: r) hp)) := xVe _ _ _ _ _ _
theorem s_Row_add_15 (a : Nat) (C : xCx) (L r : List Value) (hp : xHp) : (xV k_Row_add C 15 L (.ref a :: r) hp) = (xLn hp a (fun n => xV k_Row_add C 16 L (.int (Int32.ofNat n) :: r) hp)) := xVe _ _ _ _ _ _
theorem s_Row_add_16 (x y : Int32) (C : xCx) (L r : List Value) (hp : xHp) : (xV k_Row_add C 16 L (.int y :: .int x :: r) hp) = (((y ≤ x → xV k_Row_add C 39 L r hp) ∧ (¬ y ≤ x → xV k_Row_add C 19 L r hp))) := xVe _ _ _ _ _ _
theorem s_Row_add_19 (C : xCx) (r : List Value) (hp : xHp) (x : Nat) (a1 a2 : Value) : (xV k_Row_add C 19 [.ref x, a1, a2] r hp) = (True ∧ xV k_Row_add C 20 [.ref x, a1, a2] (.ref x :: r) hp) := xVe _ _ _ _ _ _
theorem s_Row_add_20 (a : Nat) (C : xCx) (L r : List Value) (hp : xHp) : (xV k_Row_add C 20 L (.ref a :: r) hp) = (xF hp a 7 0 (fun v => xV k_Row_add C 23 L (v :: r) hp)) := xVe _ _ _ _ _ _
theorem s_Row_add_23 (C : xCx) (r : List Value) (hp : xHp) (x : Nat) (a1 a2 : Value) : (xV k_Row_add C 23 [.ref x, a1, a2] r hp) = (True ∧ xV k_Row_add C 24 [.ref x, a1, a2] (.ref x :: r) hp) := xVe _ _ _ _ _ _
theorem s_Row_add_24 (a : Nat) (C : xCx) (L r : List Value) (hp : xHp) : (xV k_Row_add C 24 L (.ref a :: r) hp) = (xF hp a 7 1 (fun v => xV k_Row_add C 27 L (v :: r) hp)) := xVe _ _ _ _ _ _
theorem s_Row_add_27 (C : xCx) (r : List Value) (hp : xHp) (x : Int64) (a0 a2 : Value) : (xV k_Row_add C 27 [a0, .long x, a2] r hp) = (xV k_Row_add C 28 [a0, .long x, a2] (.long x :: r) hp) := xVe _ _ _ _ _ _
theorem s_Row_add_28 (x : Int64) (i : Int32) (a : Nat) (C : xCx) (L r : List Value) (hp : xHp) : (xV k_Row_add C 28 L (.long x :: .int i :: .ref a :: r) hp) = (xAl hp a (fun n g => vp_in i n ∧ xV k_Row_add C 29 L r (xup hp a (.inl (.long, n, .inr (.inl (vp_updL g i.toNatClampNeg x))))))) := xVe _ _ _ _ _ _
theorem s_Row_add_29 (C : xCx) (r : List Value) (hp : xHp) (x : Nat) (a1 a2 : Value) : (xV k_Row_add C 29 [.ref x, a1, a2] r hp) = (True ∧ xV k_Row_add C 30 [.ref x, a1, a2] (.ref x :: r) hp) := xVe _ _ _ _ _ _
theorem s_Row_add_30 (v : Value) (C : xCx) (L r : List Value) (hp : xHp) : (xV k_Row_add C 30 L (v :: r) hp) = (v.category = 1 ∧ xV k_Row_add C 31 L (v :: v :: r) hp) := xVe _ _ _ _ _ _
theorem s_Row_add_31 (a : Nat) (C : xCx) (L r : List Value) (hp : xHp) : (xV k_Row_add C 31 L (.ref a :: r) hp) = (xF hp a 7 1 (fun v => xV k_Row_add C 34 L (v :: r) hp)) := xVe _ _ _ _ _ _
theorem s_Row_add_34  (C : xCx) (L r : List Value) (hp : xHp) : (xV k_Row_add C 34 L (r) hp) = (xV k_Row_add C 35 L (.int (1) :: r) hp) := xVe _ _ _ _ _ _
theorem s_Row_add_35 (x y : Int32) (C : xCx) (L r : List Value) (hp : xHp) : (xV k_Row_add C 35 L (.int y :: .int x :: r) hp) = (xV k_Row_add C 36 L (.int (x + y) :: r) hp) := xVe _ _ _ _ _ _
theorem s_Row_add_36 (x : Int32) (a : Nat) (C : xCx) (L r : List Value) (hp : xHp) : (xV k_Row_add C 36 L (.int x :: .ref a :: r) hp) = (True ∧ xPf hp a 7 1 (.int x) (fun hp' => xV k_Row_add C 39 L r hp')) := xVe _ _ _ _ _ _
theorem s_Row_add_39 (l : Launch) (d b lo gz n0 s0 : Nat) (Po : Option Value → xHp → Prop) (L : List Value) (hp : xHp) : (xV k_Row_add (l, d, b, lo, gz, n0, s0, m_Row_add, Po) 39 L [] hp) = (Po (none) hp) := xVe _ _ _ _ _ _
def k_Folk_ages : List xEC := [
  (0, .iconst 0, 1, 0, 0, 0, m_x),
  (1, .istore_n 1, 2, 0, 0, 0, m_x),
  (2, .iconst 0, 3, 0, 0, 0, m_x),
  (3, .istore_n 2, 4, 0, 0, 0, m_x),
  (4, .iload_n 2, 5, 0, 0, 0, m_x),
  (5, .aload_n 0, 6, 0, 0, 0, m_x),
  (6, .getfield 21, 9, 3, 3, 0, m_x),
  (9, .if_icmp .ge 20, 12, 0, 29, 0, m_x),
  (12, .iload_n 1, 13, 0, 0, 0, m_x),
  (13, .aload_n 0, 14, 0, 0, 0, m_x),
  (14, .getfield 9, 17, 3, 0, 0, m_x),
  (17, .iload_n 2, 18, 0, 0, 0, m_x),
  (18, .invokestatic 28, 21, 0, 0, 0, m_So_at),
  (21, .iadd, 22, 0, 0, 0, m_x),
  (22, .istore_n 1, 23, 0, 0, 0, m_x),
  (23, .iinc 2 1, 26, 0, 0, 0, m_x),
  (26, .goto (-22), 29, 0, 4, 0, m_x),
  (29, .iload_n 1, 30, 0, 0, 0, m_x),
  (30, .ireturn, 31, 0, 0, 0, m_x)]
theorem dc_Folk_ages : ∀ E ∈ k_Folk_ages, xDc m_Folk_ages E := by decide +kernel
set_option maxRecDepth 20000 in
theorem ok_Folk_ages : ∀ E ∈ k_Folk_ages, xOk m_Folk_ages E := xok_of dc_Folk_ages (xfc trivial (xfc trivial (xfc trivial (xfc trivial (xfc trivial (xfc trivial (xfc fl_Folk_21 (xfc (show ((9 : Nat) : Int) + (20) = ((29 : Nat) : Int) from by decide) (xfc trivial (xfc trivial (xfc fl_Folk_9 (xfc trivial (xfc ⟨ml_Folk_28, kd_So_at⟩ (xfc trivial (xfc trivial (xfc trivial (xfc (show ((26 : Nat) : Int) + (-22) = ((4 : Nat) : Int) from by decide) (xfc trivial (xfc trivial (xfn))))))))))))))))))))
theorem s_Folk_ages_0  (C : xCx) (L r : List Value) (hp : xHp) : (xV k_Folk_ages C 0 L (r) hp) = (xV k_Folk_ages C 1 L (.int (0) :: r) hp) := xVe _ _ _ _ _ _
theorem s_Folk_ages_1 (C : xCx) (r : List Value) (hp : xHp) (x : Int32) (a0 a1 a2 : Value) : (xV k_Folk_ages C 1 [a0, a1, a2] (.int x :: r) hp) = (1 < 3 ∧ xNl [a0, a1, a2] 1 ∧ xV k_Folk_ages C 2 [a0, .int x, a2] r hp) := xVe _ _ _ _ _ _
theorem s_Folk_ages_2  (C : xCx) (L r : List Value) (hp : xHp) : (xV k_Folk_ages C 2 L (r) hp) = (xV k_Folk_ages C 3 L (.int (0) :: r) hp) := xVe _ _ _ _ _ _
theorem s_Folk_ages_3 (C : xCx) (r : List Value) (hp : xHp) (x : Int32) (a0 a1 a2 : Value) : (xV k_Folk_ages C 3 [a0, a1, a2] (.int x :: r) hp) = (2 < 3 ∧ xNl [a0, a1, a2] 2 ∧ xV k_Folk_ages C 4 [a0, a1, .int x] r hp) := xVe _ _ _ _ _ _
theorem s_Folk_ages_4 (C : xCx) (r : List Value) (hp : xHp) (x : Int32) (a0 a1 : Value) : (xV k_Folk_ages C 4 [a0, a1, .int x] r hp) = (xV k_Folk_ages C 5 [a0, a1, .int x] (.int x :: r) hp) := xVe _ _ _ _ _ _
theorem s_Folk_ages_5 (C : xCx) (r : List Value) (hp : xHp) (x : Nat) (a1 a2 : Value) : (xV k_Folk_ages C 5 [.ref x, a1, a2] r hp) = (True ∧ xV k_Folk_ages C 6 [.ref x, a1, a2] (.ref x :: r) hp) := xVe _ _ _ _ _ _
theorem s_Folk_ages_6 (a : Nat) (C : xCx) (L r : List Value) (hp : xHp) : (xV k_Folk_ages C 6 L (.ref a :: r) hp) = (xF hp a 3 3 (fun v => xV k_Folk_ages C 9 L (v :: r) hp)) := xVe _ _ _ _ _ _
theorem s_Folk_ages_9 (x y : Int32) (C : xCx) (L r : List Value) (hp : xHp) : (xV k_Folk_ages C 9 L (.int y :: .int x :: r) hp) = (((y ≤ x → xV k_Folk_ages C 29 L r hp) ∧ (¬ y ≤ x → xV k_Folk_ages C 12 L r hp))) := xVe _ _ _ _ _ _
theorem s_Folk_ages_12 (C : xCx) (r : List Value) (hp : xHp) (x : Int32) (a0 a2 : Value) : (xV k_Folk_ages C 12 [a0, .int x, a2] r hp) = (xV k_Folk_ages C 13 [a0, .int x, a2] (.int x :: r) hp) := xVe _ _ _ _ _ _
theorem s_Folk_ages_13 (C : xCx) (r : List Value) (hp : xHp) (x : Nat) (a1 a2 : Value) : (xV k_Folk_ages C 13 [.ref x, a1, a2] r hp) = (True ∧ xV k_Folk_ages C 14 [.ref x, a1, a2] (.ref x :: r) hp) := xVe _ _ _ _ _ _
theorem s_Folk_ages_14 (a : Nat) (C : xCx) (L r : List Value) (hp : xHp) : (xV k_Folk_ages C 14 L (.ref a :: r) hp) = (xF hp a 3 0 (fun v => xV k_Folk_ages C 17 L (v :: r) hp)) := xVe _ _ _ _ _ _
theorem s_Folk_ages_17 (C : xCx) (r : List Value) (hp : xHp) (x : Int32) (a0 a1 : Value) : (xV k_Folk_ages C 17 [a0, a1, .int x] r hp) = (xV k_Folk_ages C 18 [a0, a1, .int x] (.int x :: r) hp) := xVe _ _ _ _ _ _
theorem s_Folk_ages_18 (x0 : Nat) (x1 : Int32) (l : Launch) (d b lo gz n0 s0 : Nat) (Po : Option Value → xHp → Prop) (L r : List Value) (hp : xHp) : (xV k_Folk_ages (l, d + 1, b, lo, gz, n0, s0, m_Folk_ages, Po) 18 L (.int x1 :: .ref x0 :: r) hp) = (2 ≤ List.length (.int x1 :: .ref x0 :: r) ∧ xcs r 8 ∧ xMi l d b lo gz m_So_at [.ref x0, .int x1] hp (fun x hp' => xV k_Folk_ages (l, d + 1, b, lo, gz, n0, s0, m_Folk_ages, Po) 21 L (.int x :: r) hp')) := xVe _ _ _ _ _ _
theorem s_Folk_ages_21 (x y : Int32) (C : xCx) (L r : List Value) (hp : xHp) : (xV k_Folk_ages C 21 L (.int y :: .int x :: r) hp) = (xV k_Folk_ages C 22 L (.int (x + y) :: r) hp) := xVe _ _ _ _ _ _
theorem s_Folk_ages_22 (C : xCx) (r : List Value) (hp : xHp) (x : Int32) (a0 a1 a2 : Value) : (xV k_Folk_ages C 22 [a0, a1, a2] (.int x :: r) hp) = (1 < 3 ∧ xNl [a0, a1, a2] 1 ∧ xV k_Folk_ages C 23 [a0, .int x, a2] r hp) := xVe _ _ _ _ _ _
theorem s_Folk_ages_23 (C : xCx) (r : List Value) (hp : xHp) (x : Int32) (a0 a1 : Value) : (xV k_Folk_ages C 23 [a0, a1, .int x] r hp) = (xNl [a0, a1, .int x] 2 ∧ xV k_Folk_ages C 26 [a0, a1, .int (x + (1))] r hp) := xVe _ _ _ _ _ _
theorem s_Folk_ages_26 (C : xCx) (L r : List Value) (hp : xHp) : (xV k_Folk_ages C 26 L r hp) = (xV k_Folk_ages C 4 L r hp) := xVe _ _ _ _ _ _
theorem s_Folk_ages_29 (C : xCx) (r : List Value) (hp : xHp) (x : Int32) (a0 a2 : Value) : (xV k_Folk_ages C 29 [a0, .int x, a2] r hp) = (xV k_Folk_ages C 30 [a0, .int x, a2] (.int x :: r) hp) := xVe _ _ _ _ _ _
theorem s_Folk_ages_30 (v : Int32) (l : Launch) (d b lo gz n0 s0 : Nat) (Po : Option Value → xHp → Prop) (L : List Value) (hp : xHp) : (xV k_Folk_ages (l, d, b, lo, gz, n0, s0, m_Folk_ages, Po) 30 L [.int v] hp) = (Po (some (.int v)) hp) := xVe _ _ _ _ _ _
def k_Land_has : List xEC := [
  (0, .iload_n 1, 1, 0, 0, 0, m_x),
  (1, .ifCond .lt 15, 4, 0, 16, 0, m_x),
  (4, .iload_n 1, 5, 0, 0, 0, m_x),
  (5, .aload_n 0, 6, 0, 0, 0, m_x),
  (6, .getfield 26, 9, 4, 2, 0, m_x),
  (9, .if_icmp .ge 7, 12, 0, 16, 0, m_x),
  (12, .iconst 1, 13, 0, 0, 0, m_x),
  (13, .goto 4, 16, 0, 17, 0, m_x),
  (16, .iconst 0, 17, 0, 0, 0, m_x),
  (17, .ireturn, 18, 0, 0, 0, m_x)]
theorem dc_Land_has : ∀ E ∈ k_Land_has, xDc m_Land_has E := by decide +kernel
set_option maxRecDepth 20000 in
theorem ok_Land_has : ∀ E ∈ k_Land_has, xOk m_Land_has E := xok_of dc_Land_has (xfc trivial (xfc (show ((1 : Nat) : Int) + (15) = ((16 : Nat) : Int) from by decide) (xfc trivial (xfc trivial (xfc fl_Land_26 (xfc (show ((9 : Nat) : Int) + (7) = ((16 : Nat) : Int) from by decide) (xfc trivial (xfc (show ((13 : Nat) : Int) + (4) = ((17 : Nat) : Int) from by decide) (xfc trivial (xfc trivial (xfn)))))))))))
theorem s_Land_has_0 (C : xCx) (r : List Value) (hp : xHp) (x : Int32) (a0 : Value) : (xV k_Land_has C 0 [a0, .int x] r hp) = (xV k_Land_has C 1 [a0, .int x] (.int x :: r) hp) := xVe _ _ _ _ _ _
theorem s_Land_has_1 (x : Int32) (C : xCx) (L r : List Value) (hp : xHp) : (xV k_Land_has C 1 L (.int x :: r) hp) = (((x < 0 → xV k_Land_has C 16 L r hp) ∧ (¬ x < 0 → xV k_Land_has C 4 L r hp))) := xVe _ _ _ _ _ _
theorem s_Land_has_4 (C : xCx) (r : List Value) (hp : xHp) (x : Int32) (a0 : Value) : (xV k_Land_has C 4 [a0, .int x] r hp) = (xV k_Land_has C 5 [a0, .int x] (.int x :: r) hp) := xVe _ _ _ _ _ _
theorem s_Land_has_5 (C : xCx) (r : List Value) (hp : xHp) (x : Nat) (a1 : Value) : (xV k_Land_has C 5 [.ref x, a1] r hp) = (True ∧ xV k_Land_has C 6 [.ref x, a1] (.ref x :: r) hp) := xVe _ _ _ _ _ _
theorem s_Land_has_6 (a : Nat) (C : xCx) (L r : List Value) (hp : xHp) : (xV k_Land_has C 6 L (.ref a :: r) hp) = (xF hp a 4 2 (fun v => xV k_Land_has C 9 L (v :: r) hp)) := xVe _ _ _ _ _ _
theorem s_Land_has_9 (x y : Int32) (C : xCx) (L r : List Value) (hp : xHp) : (xV k_Land_has C 9 L (.int y :: .int x :: r) hp) = (((y ≤ x → xV k_Land_has C 16 L r hp) ∧ (¬ y ≤ x → xV k_Land_has C 12 L r hp))) := xVe _ _ _ _ _ _
theorem s_Land_has_12  (C : xCx) (L r : List Value) (hp : xHp) : (xV k_Land_has C 12 L (r) hp) = (xV k_Land_has C 13 L (.int (1) :: r) hp) := xVe _ _ _ _ _ _
theorem s_Land_has_13 (C : xCx) (L r : List Value) (hp : xHp) : (xV k_Land_has C 13 L r hp) = (xV k_Land_has C 17 L r hp) := xVe _ _ _ _ _ _
theorem s_Land_has_16  (C : xCx) (L r : List Value) (hp : xHp) : (xV k_Land_has C 16 L (r) hp) = (xV k_Land_has C 17 L (.int (0) :: r) hp) := xVe _ _ _ _ _ _
theorem s_Land_has_17 (v : Int32) (l : Launch) (d b lo gz n0 s0 : Nat) (Po : Option Value → xHp → Prop) (L : List Value) (hp : xHp) : (xV k_Land_has (l, d, b, lo, gz, n0, s0, m_Land_has, Po) 17 L [.int v] hp) = ((v = 0 ∨ v = 1) ∧ Po (some (.int v)) hp) := xVe _ _ _ _ _ _
def k_Folk_setSpot : List xEC := [
  (0, .aload_n 0, 1, 0, 0, 0, m_x),
  (1, .getfield 15, 4, 3, 1, 0, m_x),
  (4, .iload_n 1, 5, 0, 0, 0, m_x),
  (5, .iload_n 2, 6, 0, 0, 0, m_x),
  (6, .invokestatic 32, 9, 0, 0, 0, m_So_put),
  (9, .return_, 10, 0, 0, 0, m_x)]
theorem dc_Folk_setSpot : ∀ E ∈ k_Folk_setSpot, xDc m_Folk_setSpot E := by decide +kernel
set_option maxRecDepth 20000 in
theorem ok_Folk_setSpot : ∀ E ∈ k_Folk_setSpot, xOk m_Folk_setSpot E := xok_of dc_Folk_setSpot (xfc trivial (xfc fl_Folk_15 (xfc trivial (xfc trivial (xfc ⟨ml_Folk_32, kd_So_put⟩ (xfc trivial (xfn)))))))
theorem s_Folk_setSpot_0 (C : xCx) (r : List Value) (hp : xHp) (x : Nat) (a1 a2 : Value) : (xV k_Folk_setSpot C 0 [.ref x, a1, a2] r hp) = (True ∧ xV k_Folk_setSpot C 1 [.ref x, a1, a2] (.ref x :: r) hp) := xVe _ _ _ _ _ _
theorem s_Folk_setSpot_1 (a : Nat) (C : xCx) (L r : List Value) (hp : xHp) : (xV k_Folk_setSpot C 1 L (.ref a :: r) hp) = (xF hp a 3 1 (fun v => xV k_Folk_setSpot C 4 L (v :: r) hp)) := xVe _ _ _ _ _ _
theorem s_Folk_setSpot_4 (C : xCx) (r : List Value) (hp : xHp) (x : Int32) (a0 a2 : Value) : (xV k_Folk_setSpot C 4 [a0, .int x, a2] r hp) = (xV k_Folk_setSpot C 5 [a0, .int x, a2] (.int x :: r) hp) := xVe _ _ _ _ _ _
theorem s_Folk_setSpot_5 (C : xCx) (r : List Value) (hp : xHp) (x : Int32) (a0 a1 : Value) : (xV k_Folk_setSpot C 5 [a0, a1, .int x] r hp) = (xV k_Folk_setSpot C 6 [a0, a1, .int x] (.int x :: r) hp) := xVe _ _ _ _ _ _
theorem s_Folk_setSpot_6 (x0 : Nat) (x1 : Int32) (x2 : Int32) (l : Launch) (d b lo gz n0 s0 : Nat) (Po : Option Value → xHp → Prop) (L r : List Value) (hp : xHp) : (xV k_Folk_setSpot (l, d + 1, b, lo, gz, n0, s0, m_Folk_setSpot, Po) 6 L (.int x2 :: .int x1 :: .ref x0 :: r) hp) = (3 ≤ List.length (.int x2 :: .int x1 :: .ref x0 :: r) ∧ xcs r 8 ∧ xMv l d b lo gz m_So_put [.ref x0, .int x1, .int x2] hp (fun hp' => xV k_Folk_setSpot (l, d + 1, b, lo, gz, n0, s0, m_Folk_setSpot, Po) 9 L r hp')) := xVe _ _ _ _ _ _
theorem s_Folk_setSpot_9 (l : Launch) (d b lo gz n0 s0 : Nat) (Po : Option Value → xHp → Prop) (L : List Value) (hp : xHp) : (xV k_Folk_setSpot (l, d, b, lo, gz, n0, s0, m_Folk_setSpot, Po) 9 L [] hp) = (Po (none) hp) := xVe _ _ _ _ _ _
def k_Math_abs : List xEC := [
  (0, .iload_n 0, 1, 0, 0, 0, m_x),
  (1, .ifCond .ge 8, 4, 0, 9, 0, m_x),
  (4, .iload_n 0, 5, 0, 0, 0, m_x),
  (5, .ineg, 6, 0, 0, 0, m_x),
  (6, .goto 4, 9, 0, 10, 0, m_x),
  (9, .iload_n 0, 10, 0, 0, 0, m_x),
  (10, .ireturn, 11, 0, 0, 0, m_x)]
theorem dc_Math_abs : ∀ E ∈ k_Math_abs, xDc m_Math_abs E := by decide +kernel
set_option maxRecDepth 20000 in
theorem ok_Math_abs : ∀ E ∈ k_Math_abs, xOk m_Math_abs E := xok_of dc_Math_abs (xfc trivial (xfc (show ((1 : Nat) : Int) + (8) = ((9 : Nat) : Int) from by decide) (xfc trivial (xfc trivial (xfc (show ((6 : Nat) : Int) + (4) = ((10 : Nat) : Int) from by decide) (xfc trivial (xfc trivial (xfn))))))))
theorem s_Math_abs_0 (C : xCx) (r : List Value) (hp : xHp) (x : Int32) : (xV k_Math_abs C 0 [.int x] r hp) = (xV k_Math_abs C 1 [.int x] (.int x :: r) hp) := xVe _ _ _ _ _ _
theorem s_Math_abs_1 (x : Int32) (C : xCx) (L r : List Value) (hp : xHp) : (xV k_Math_abs C 1 L (.int x :: r) hp) = (((0 ≤ x → xV k_Math_abs C 9 L r hp) ∧ (¬ 0 ≤ x → xV k_Math_abs C 4 L r hp))) := xVe _ _ _ _ _ _
theorem s_Math_abs_4 (C : xCx) (r : List Value) (hp : xHp) (x : Int32) : (xV k_Math_abs C 4 [.int x] r hp) = (xV k_Math_abs C 5 [.int x] (.int x :: r) hp) := xVe _ _ _ _ _ _
theorem s_Math_abs_5 (x : Int32) (C : xCx) (L r : List Value) (hp : xHp) : (xV k_Math_abs C 5 L (.int x :: r) hp) = (xV k_Math_abs C 6 L (.int (-x) :: r) hp) := xVe _ _ _ _ _ _
theorem s_Math_abs_6 (C : xCx) (L r : List Value) (hp : xHp) : (xV k_Math_abs C 6 L r hp) = (xV k_Math_abs C 10 L r hp) := xVe _ _ _ _ _ _
theorem s_Math_abs_9 (C : xCx) (r : List Value) (hp : xHp) (x : Int32) : (xV k_Math_abs C 9 [.int x] r hp) = (xV k_Math_abs C 10 [.int x] (.int x :: r) hp) := xVe _ _ _ _ _ _
theorem s_Math_abs_10 (v : Int32) (l : Launch) (d b lo gz n0 s0 : Nat) (Po : Option Value → xHp → Prop) (L : List Value) (hp : xHp) : (xV k_Math_abs (l, d, b, lo, gz, n0, s0, m_Math_abs, Po) 10 L [.int v] hp) = (Po (some (.int v)) hp) := xVe _ _ _ _ _ _
def k_Folk_addSin : List xEC := [
  (0, .aload_n 0, 1, 0, 0, 0, m_x),
  (1, .getfield 18, 4, 3, 2, 0, m_x),
  (4, .iload_n 1, 5, 0, 0, 0, m_x),
  (5, .bipush 99, 7, 0, 0, 0, m_x),
  (7, .aload_n 0, 8, 0, 0, 0, m_x),
  (8, .getfield 18, 11, 3, 2, 0, m_x),
  (11, .iload_n 1, 12, 0, 0, 0, m_x),
  (12, .invokestatic 28, 15, 0, 0, 0, m_So_at),
  (15, .iconst 1, 16, 0, 0, 0, m_x),
  (16, .iadd, 17, 0, 0, 0, m_x),
  (17, .invokestatic 36, 20, 0, 0, 0, m_Math_min),
  (20, .invokestatic 32, 23, 0, 0, 0, m_So_put),
  (23, .return_, 24, 0, 0, 0, m_x)]
theorem dc_Folk_addSin : ∀ E ∈ k_Folk_addSin, xDc m_Folk_addSin E := by decide +kernel
set_option maxRecDepth 20000 in
theorem ok_Folk_addSin : ∀ E ∈ k_Folk_addSin, xOk m_Folk_addSin E := xok_of dc_Folk_addSin (xfc trivial (xfc fl_Folk_18 (xfc trivial (xfc trivial (xfc trivial (xfc fl_Folk_18 (xfc trivial (xfc ⟨ml_Folk_28, kd_So_at⟩ (xfc trivial (xfc trivial (xfc ⟨ml_Folk_36, kd_Math_min⟩ (xfc ⟨ml_Folk_32, kd_So_put⟩ (xfc trivial (xfn))))))))))))))
theorem s_Folk_addSin_0 (C : xCx) (r : List Value) (hp : xHp) (x : Nat) (a1 : Value) : (xV k_Folk_addSin C 0 [.ref x, a1] r hp) = (True ∧ xV k_Folk_addSin C 1 [.ref x, a1] (.ref x :: r) hp) := xVe _ _ _ _ _ _
theorem s_Folk_addSin_1 (a : Nat) (C : xCx) (L r : List Value) (hp : xHp) : (xV k_Folk_addSin C 1 L (.ref a :: r) hp) = (xF hp a 3 2 (fun v => xV k_Folk_addSin C 4 L (v :: r) hp)) := xVe _ _ _ _ _ _
theorem s_Folk_addSin_4 (C : xCx) (r : List Value) (hp : xHp) (x : Int32) (a0 : Value) : (xV k_Folk_addSin C 4 [a0, .int x] r hp) = (xV k_Folk_addSin C 5 [a0, .int x] (.int x :: r) hp) := xVe _ _ _ _ _ _
theorem s_Folk_addSin_5  (C : xCx) (L r : List Value) (hp : xHp) : (xV k_Folk_addSin C 5 L (r) hp) = (xV k_Folk_addSin C 7 L (.int (99) :: r) hp) := xVe _ _ _ _ _ _
theorem s_Folk_addSin_7 (C : xCx) (r : List Value) (hp : xHp) (x : Nat) (a1 : Value) : (xV k_Folk_addSin C 7 [.ref x, a1] r hp) = (True ∧ xV k_Folk_addSin C 8 [.ref x, a1] (.ref x :: r) hp) := xVe _ _ _ _ _ _
theorem s_Folk_addSin_8 (a : Nat) (C : xCx) (L r : List Value) (hp : xHp) : (xV k_Folk_addSin C 8 L (.ref a :: r) hp) = (xF hp a 3 2 (fun v => xV k_Folk_addSin C 11 L (v :: r) hp)) := xVe _ _ _ _ _ _
theorem s_Folk_addSin_11 (C : xCx) (r : List Value) (hp : xHp) (x : Int32) (a0 : Value) : (xV k_Folk_addSin C 11 [a0, .int x] r hp) = (xV k_Folk_addSin C 12 [a0, .int x] (.int x :: r) hp) := xVe _ _ _ _ _ _
theorem s_Folk_addSin_12 (x0 : Nat) (x1 : Int32) (l : Launch) (d b lo gz n0 s0 : Nat) (Po : Option Value → xHp → Prop) (L r : List Value) (hp : xHp) : (xV k_Folk_addSin (l, d + 1, b, lo, gz, n0, s0, m_Folk_addSin, Po) 12 L (.int x1 :: .ref x0 :: r) hp) = (2 ≤ List.length (.int x1 :: .ref x0 :: r) ∧ xcs r 8 ∧ xMi l d b lo gz m_So_at [.ref x0, .int x1] hp (fun x hp' => xV k_Folk_addSin (l, d + 1, b, lo, gz, n0, s0, m_Folk_addSin, Po) 15 L (.int x :: r) hp')) := xVe _ _ _ _ _ _
theorem s_Folk_addSin_15  (C : xCx) (L r : List Value) (hp : xHp) : (xV k_Folk_addSin C 15 L (r) hp) = (xV k_Folk_addSin C 16 L (.int (1) :: r) hp) := xVe _ _ _ _ _ _
theorem s_Folk_addSin_16 (x y : Int32) (C : xCx) (L r : List Value) (hp : xHp) : (xV k_Folk_addSin C 16 L (.int y :: .int x :: r) hp) = (xV k_Folk_addSin C 17 L (.int (x + y) :: r) hp) := xVe _ _ _ _ _ _
theorem s_Folk_addSin_17 (x0 : Int32) (x1 : Int32) (l : Launch) (d b lo gz n0 s0 : Nat) (Po : Option Value → xHp → Prop) (L r : List Value) (hp : xHp) : (xV k_Folk_addSin (l, d + 1, b, lo, gz, n0, s0, m_Folk_addSin, Po) 17 L (.int x1 :: .int x0 :: r) hp) = (2 ≤ List.length (.int x1 :: .int x0 :: r) ∧ xcs r 8 ∧ xMi l d b lo gz m_Math_min [.int x0, .int x1] hp (fun x hp' => xV k_Folk_addSin (l, d + 1, b, lo, gz, n0, s0, m_Folk_addSin, Po) 20 L (.int x :: r) hp')) := xVe _ _ _ _ _ _
theorem s_Folk_addSin_20 (x0 : Nat) (x1 : Int32) (x2 : Int32) (l : Launch) (d b lo gz n0 s0 : Nat) (Po : Option Value → xHp → Prop) (L r : List Value) (hp : xHp) : (xV k_Folk_addSin (l, d + 1, b, lo, gz, n0, s0, m_Folk_addSin, Po) 20 L (.int x2 :: .int x1 :: .ref x0 :: r) hp) = (3 ≤ List.length (.int x2 :: .int x1 :: .ref x0 :: r) ∧ xcs r 8 ∧ xMv l d b lo gz m_So_put [.ref x0, .int x1, .int x2] hp (fun hp' => xV k_Folk_addSin (l, d + 1, b, lo, gz, n0, s0, m_Folk_addSin, Po) 23 L r hp')) := xVe _ _ _ _ _ _
theorem s_Folk_addSin_23 (l : Launch) (d b lo gz n0 s0 : Nat) (Po : Option Value → xHp → Prop) (L : List Value) (hp : xHp) : (xV k_Folk_addSin (l, d, b, lo, gz, n0, s0, m_Folk_addSin, Po) 23 L [] hp) = (Po (none) hp) := xVe _ _ _ _ _ _
def k_Folk_sins : List xEC := [
  (0, .aload_n 0, 1, 0, 0, 0, m_x),
  (1, .getfield 18, 4, 3, 2, 0, m_x),
  (4, .iload_n 1, 5, 0, 0, 0, m_x),
  (5, .invokestatic 28, 8, 0, 0, 0, m_So_at),
  (8, .ireturn, 9, 0, 0, 0, m_x)]
theorem dc_Folk_sins : ∀ E ∈ k_Folk_sins, xDc m_Folk_sins E := by decide +kernel
set_option maxRecDepth 20000 in
theorem ok_Folk_sins : ∀ E ∈ k_Folk_sins, xOk m_Folk_sins E := xok_of dc_Folk_sins (xfc trivial (xfc fl_Folk_18 (xfc trivial (xfc ⟨ml_Folk_28, kd_So_at⟩ (xfc trivial (xfn))))))
theorem s_Folk_sins_0 (C : xCx) (r : List Value) (hp : xHp) (x : Nat) (a1 : Value) : (xV k_Folk_sins C 0 [.ref x, a1] r hp) = (True ∧ xV k_Folk_sins C 1 [.ref x, a1] (.ref x :: r) hp) := xVe _ _ _ _ _ _
theorem s_Folk_sins_1 (a : Nat) (C : xCx) (L r : List Value) (hp : xHp) : (xV k_Folk_sins C 1 L (.ref a :: r) hp) = (xF hp a 3 2 (fun v => xV k_Folk_sins C 4 L (v :: r) hp)) := xVe _ _ _ _ _ _
theorem s_Folk_sins_4 (C : xCx) (r : List Value) (hp : xHp) (x : Int32) (a0 : Value) : (xV k_Folk_sins C 4 [a0, .int x] r hp) = (xV k_Folk_sins C 5 [a0, .int x] (.int x :: r) hp) := xVe _ _ _ _ _ _
theorem s_Folk_sins_5 (x0 : Nat) (x1 : Int32) (l : Launch) (d b lo gz n0 s0 : Nat) (Po : Option Value → xHp → Prop) (L r : List Value) (hp : xHp) : (xV k_Folk_sins (l, d + 1, b, lo, gz, n0, s0, m_Folk_sins, Po) 5 L (.int x1 :: .ref x0 :: r) hp) = (2 ≤ List.length (.int x1 :: .ref x0 :: r) ∧ xcs r 8 ∧ xMi l d b lo gz m_So_at [.ref x0, .int x1] hp (fun x hp' => xV k_Folk_sins (l, d + 1, b, lo, gz, n0, s0, m_Folk_sins, Po) 8 L (.int x :: r) hp')) := xVe _ _ _ _ _ _
theorem s_Folk_sins_8 (v : Int32) (l : Launch) (d b lo gz n0 s0 : Nat) (Po : Option Value → xHp → Prop) (L : List Value) (hp : xHp) : (xV k_Folk_sins (l, d, b, lo, gz, n0, s0, m_Folk_sins, Po) 8 L [.int v] hp) = (Po (some (.int v)) hp) := xVe _ _ _ _ _ _
def k_Math_max : List xEC := [
  (0, .iload_n 0, 1, 0, 0, 0, m_x),
  (1, .iload_n 1, 2, 0, 0, 0, m_x),
  (2, .if_icmp .lt 7, 5, 0, 9, 0, m_x),
  (5, .iload_n 0, 6, 0, 0, 0, m_x),
  (6, .goto 4, 9, 0, 10, 0, m_x),
  (9, .iload_n 1, 10, 0, 0, 0, m_x),
  (10, .ireturn, 11, 0, 0, 0, m_x)]
theorem dc_Math_max : ∀ E ∈ k_Math_max, xDc m_Math_max E := by decide +kernel
set_option maxRecDepth 20000 in
theorem ok_Math_max : ∀ E ∈ k_Math_max, xOk m_Math_max E := xok_of dc_Math_max (xfc trivial (xfc trivial (xfc (show ((2 : Nat) : Int) + (7) = ((9 : Nat) : Int) from by decide) (xfc trivial (xfc (show ((6 : Nat) : Int) + (4) = ((10 : Nat) : Int) from by decide) (xfc trivial (xfc trivial (xfn))))))))
theorem s_Math_max_0 (C : xCx) (r : List Value) (hp : xHp) (x : Int32) (a1 : Value) : (xV k_Math_max C 0 [.int x, a1] r hp) = (xV k_Math_max C 1 [.int x, a1] (.int x :: r) hp) := xVe _ _ _ _ _ _
theorem s_Math_max_1 (C : xCx) (r : List Value) (hp : xHp) (x : Int32) (a0 : Value) : (xV k_Math_max C 1 [a0, .int x] r hp) = (xV k_Math_max C 2 [a0, .int x] (.int x :: r) hp) := xVe _ _ _ _ _ _
theorem s_Math_max_2 (x y : Int32) (C : xCx) (L r : List Value) (hp : xHp) : (xV k_Math_max C 2 L (.int y :: .int x :: r) hp) = (((x < y → xV k_Math_max C 9 L r hp) ∧ (¬ x < y → xV k_Math_max C 5 L r hp))) := xVe _ _ _ _ _ _
theorem s_Math_max_5 (C : xCx) (r : List Value) (hp : xHp) (x : Int32) (a1 : Value) : (xV k_Math_max C 5 [.int x, a1] r hp) = (xV k_Math_max C 6 [.int x, a1] (.int x :: r) hp) := xVe _ _ _ _ _ _
theorem s_Math_max_6 (C : xCx) (L r : List Value) (hp : xHp) : (xV k_Math_max C 6 L r hp) = (xV k_Math_max C 10 L r hp) := xVe _ _ _ _ _ _
theorem s_Math_max_9 (C : xCx) (r : List Value) (hp : xHp) (x : Int32) (a0 : Value) : (xV k_Math_max C 9 [a0, .int x] r hp) = (xV k_Math_max C 10 [a0, .int x] (.int x :: r) hp) := xVe _ _ _ _ _ _
theorem s_Math_max_10 (v : Int32) (l : Launch) (d b lo gz n0 s0 : Nat) (Po : Option Value → xHp → Prop) (L : List Value) (hp : xHp) : (xV k_Math_max (l, d, b, lo, gz, n0, s0, m_Math_max, Po) 10 L [.int v] hp) = (Po (some (.int v)) hp) := xVe _ _ _ _ _ _
def k_Folk_setAge : List xEC := [
  (0, .aload_n 0, 1, 0, 0, 0, m_x),
  (1, .getfield 9, 4, 3, 0, 0, m_x),
  (4, .iload_n 1, 5, 0, 0, 0, m_x),
  (5, .iload_n 2, 6, 0, 0, 0, m_x),
  (6, .invokestatic 32, 9, 0, 0, 0, m_So_put),
  (9, .return_, 10, 0, 0, 0, m_x)]
theorem dc_Folk_setAge : ∀ E ∈ k_Folk_setAge, xDc m_Folk_setAge E := by decide +kernel
set_option maxRecDepth 20000 in
theorem ok_Folk_setAge : ∀ E ∈ k_Folk_setAge, xOk m_Folk_setAge E := xok_of dc_Folk_setAge (xfc trivial (xfc fl_Folk_9 (xfc trivial (xfc trivial (xfc ⟨ml_Folk_32, kd_So_put⟩ (xfc trivial (xfn)))))))
theorem s_Folk_setAge_0 (C : xCx) (r : List Value) (hp : xHp) (x : Nat) (a1 a2 : Value) : (xV k_Folk_setAge C 0 [.ref x, a1, a2] r hp) = (True ∧ xV k_Folk_setAge C 1 [.ref x, a1, a2] (.ref x :: r) hp) := xVe _ _ _ _ _ _
theorem s_Folk_setAge_1 (a : Nat) (C : xCx) (L r : List Value) (hp : xHp) : (xV k_Folk_setAge C 1 L (.ref a :: r) hp) = (xF hp a 3 0 (fun v => xV k_Folk_setAge C 4 L (v :: r) hp)) := xVe _ _ _ _ _ _
theorem s_Folk_setAge_4 (C : xCx) (r : List Value) (hp : xHp) (x : Int32) (a0 a2 : Value) : (xV k_Folk_setAge C 4 [a0, .int x, a2] r hp) = (xV k_Folk_setAge C 5 [a0, .int x, a2] (.int x :: r) hp) := xVe _ _ _ _ _ _
theorem s_Folk_setAge_5 (C : xCx) (r : List Value) (hp : xHp) (x : Int32) (a0 a1 : Value) : (xV k_Folk_setAge C 5 [a0, a1, .int x] r hp) = (xV k_Folk_setAge C 6 [a0, a1, .int x] (.int x :: r) hp) := xVe _ _ _ _ _ _
theorem s_Folk_setAge_6 (x0 : Nat) (x1 : Int32) (x2 : Int32) (l : Launch) (d b lo gz n0 s0 : Nat) (Po : Option Value → xHp → Prop) (L r : List Value) (hp : xHp) : (xV k_Folk_setAge (l, d + 1, b, lo, gz, n0, s0, m_Folk_setAge, Po) 6 L (.int x2 :: .int x1 :: .ref x0 :: r) hp) = (3 ≤ List.length (.int x2 :: .int x1 :: .ref x0 :: r) ∧ xcs r 8 ∧ xMv l d b lo gz m_So_put [.ref x0, .int x1, .int x2] hp (fun hp' => xV k_Folk_setAge (l, d + 1, b, lo, gz, n0, s0, m_Folk_setAge, Po) 9 L r hp')) := xVe _ _ _ _ _ _
theorem s_Folk_setAge_9 (l : Launch) (d b lo gz n0 s0 : Nat) (Po : Option Value → xHp → Prop) (L : List Value) (hp : xHp) : (xV k_Folk_setAge (l, d, b, lo, gz, n0, s0, m_Folk_setAge, Po) 9 L [] hp) = (Po (none) hp) := xVe _ _ _ _ _ _
theorem ml_Text_34 : xLk "SunnyOnes$Text" 34 m_Text_digitsBehind := Or.inl (wg3 192 (by decide +kernel) rfl)
def k_Text_badAct : List xEC := [
  (0, .iconst 0, 1, 0, 0, 0, m_x),
  (1, .istore_n 1, 2, 0, 0, 0, m_x),
  (2, .iconst 0, 3, 0, 0, 0, m_x),
  (3, .istore_n 2, 4, 0, 0, 0, m_x),
  (4, .iload_n 2, 5, 0, 0, 0, m_x),
  (5, .aload_n 0, 6, 0, 0, 0, m_x),
  (6, .getfield 15, 9, 10, 1, 0, m_x),
  (9, .if_icmp .ge 55, 12, 0, 64, 0, m_x),
  (12, .iload_n 2, 13, 0, 0, 0, m_x),
  (13, .bipush 60, 15, 0, 0, 0, m_x),
  (15, .if_icmp .lt 5, 18, 0, 20, 0, m_x),
  (18, .iload_n 2, 19, 0, 0, 0, m_x),
  (19, .ireturn, 20, 0, 0, 0, m_x),
  (20, .iload_n 1, 21, 0, 0, 0, m_x),
  (21, .ifCond .le 22, 24, 0, 43, 0, m_x),
  (24, .aload_n 0, 25, 0, 0, 0, m_x),
  (25, .iload_n 2, 26, 0, 0, 0, m_x),
  (26, .invokevirtual 19, 29, 10, 0, 0, m_Text_at),
  (29, .invokestatic 23, 32, 0, 0, 0, m_Text_isDigit),
  (32, .ifCond .ne 5, 35, 0, 37, 0, m_x),
  (35, .iload_n 2, 36, 0, 0, 0, m_x),
  (36, .ireturn, 37, 0, 0, 0, m_x),
  (37, .iinc 1 (-1), 40, 0, 0, 0, m_x),
  (40, .goto 18, 43, 0, 58, 0, m_x),
  (43, .aload_n 0, 44, 0, 0, 0, m_x),
  (44, .iload_n 2, 45, 0, 0, 0, m_x),
  (45, .invokevirtual 19, 48, 10, 0, 0, m_Text_at),
  (48, .invokestatic 34, 51, 0, 0, 0, m_Text_digitsBehind),
  (51, .istore_n 1, 52, 0, 0, 0, m_x),
  (52, .iload_n 1, 53, 0, 0, 0, m_x),
  (53, .ifCond .ne 5, 56, 0, 58, 0, m_x),
  (56, .iload_n 2, 57, 0, 0, 0, m_x),
  (57, .ireturn, 58, 0, 0, 0, m_x),
  (58, .iinc 2 1, 61, 0, 0, 0, m_x),
  (61, .goto (-57), 64, 0, 4, 0, m_x),
  (64, .iload_n 1, 65, 0, 0, 0, m_x),
  (65, .ifCond .ne 7, 68, 0, 72, 0, m_x),
  (68, .iconst (-1), 69, 0, 0, 0, m_x),
  (69, .goto 7, 72, 0, 76, 0, m_x),
  (72, .aload_n 0, 73, 0, 0, 0, m_x),
  (73, .getfield 15, 76, 10, 1, 0, m_x),
  (76, .ireturn, 77, 0, 0, 0, m_x)]
theorem dc_Text_badAct : ∀ E ∈ k_Text_badAct, xDc m_Text_badAct E := by decide +kernel
set_option maxRecDepth 20000 in
theorem ok_Text_badAct : ∀ E ∈ k_Text_badAct, xOk m_Text_badAct E := xok_of dc_Text_badAct (xfc trivial (xfc trivial (xfc trivial (xfc trivial (xfc trivial (xfc trivial (xfc fl_Text_15 (xfc (show ((9 : Nat) : Int) + (55) = ((64 : Nat) : Int) from by decide) (xfc trivial (xfc trivial (xfc (show ((15 : Nat) : Int) + (5) = ((20 : Nat) : Int) from by decide) (xfc trivial (xfc trivial (xfc trivial (xfc (show ((21 : Nat) : Int) + (22) = ((43 : Nat) : Int) from by decide) (xfc trivial (xfc trivial (xfc ⟨ml_Text_19, kd_Text_at⟩ (xfc ⟨ml_Text_23, kd_Text_isDigit⟩ (xfc (show ((32 : Nat) : Int) + (5) = ((37 : Nat) : Int) from by decide) (xfc trivial (xfc trivial (xfc trivial (xfc (show ((40 : Nat) : Int) + (18) = ((58 : Nat) : Int) from by decide) (xfc trivial (xfc trivial (xfc ⟨ml_Text_19, kd_Text_at⟩ (xfc ⟨ml_Text_34, kd_Text_digitsBehind⟩ (xfc trivial (xfc trivial (xfc (show ((53 : Nat) : Int) + (5) = ((58 : Nat) : Int) from by decide) (xfc trivial (xfc trivial (xfc trivial (xfc (show ((61 : Nat) : Int) + (-57) = ((4 : Nat) : Int) from by decide) (xfc trivial (xfc (show ((65 : Nat) : Int) + (7) = ((72 : Nat) : Int) from by decide) (xfc trivial (xfc (show ((69 : Nat) : Int) + (7) = ((76 : Nat) : Int) from by decide) (xfc trivial (xfc fl_Text_15 (xfc trivial (xfn)))))))))))))))))))))))))))))))))))))))))))
theorem s_Text_badAct_0  (C : xCx) (L r : List Value) (hp : xHp) : (xV k_Text_badAct C 0 L (r) hp) = (xV k_Text_badAct C 1 L (.int (0) :: r) hp) := xVe _ _ _ _ _ _
theorem s_Text_badAct_1 (C : xCx) (r : List Value) (hp : xHp) (x : Int32) (a0 a1 a2 : Value) : (xV k_Text_badAct C 1 [a0, a1, a2] (.int x :: r) hp) = (1 < 3 ∧ xNl [a0, a1, a2] 1 ∧ xV k_Text_badAct C 2 [a0, .int x, a2] r hp) := xVe _ _ _ _ _ _
theorem s_Text_badAct_2  (C : xCx) (L r : List Value) (hp : xHp) : (xV k_Text_badAct C 2 L (r) hp) = (xV k_Text_badAct C 3 L (.int (0) :: r) hp) := xVe _ _ _ _ _ _
theorem s_Text_badAct_3 (C : xCx) (r : List Value) (hp : xHp) (x : Int32) (a0 a1 a2 : Value) : (xV k_Text_badAct C 3 [a0, a1, a2] (.int x :: r) hp) = (2 < 3 ∧ xNl [a0, a1, a2] 2 ∧ xV k_Text_badAct C 4 [a0, a1, .int x] r hp) := xVe _ _ _ _ _ _
theorem s_Text_badAct_4 (C : xCx) (r : List Value) (hp : xHp) (x : Int32) (a0 a1 : Value) : (xV k_Text_badAct C 4 [a0, a1, .int x] r hp) = (xV k_Text_badAct C 5 [a0, a1, .int x] (.int x :: r) hp) := xVe _ _ _ _ _ _
theorem s_Text_badAct_5 (C : xCx) (r : List Value) (hp : xHp) (x : Nat) (a1 a2 : Value) : (xV k_Text_badAct C 5 [.ref x, a1, a2] r hp) = (True ∧ xV k_Text_badAct C 6 [.ref x, a1, a2] (.ref x :: r) hp) := xVe _ _ _ _ _ _
theorem s_Text_badAct_6 (a : Nat) (C : xCx) (L r : List Value) (hp : xHp) : (xV k_Text_badAct C 6 L (.ref a :: r) hp) = (xF hp a 10 1 (fun v => xV k_Text_badAct C 9 L (v :: r) hp)) := xVe _ _ _ _ _ _
theorem s_Text_badAct_9 (x y : Int32) (C : xCx) (L r : List Value) (hp : xHp) : (xV k_Text_badAct C 9 L (.int y :: .int x :: r) hp) = (((y ≤ x → xV k_Text_badAct C 64 L r hp) ∧ (¬ y ≤ x → xV k_Text_badAct C 12 L r hp))) := xVe _ _ _ _ _ _
theorem s_Text_badAct_12 (C : xCx) (r : List Value) (hp : xHp) (x : Int32) (a0 a1 : Value) : (xV k_Text_badAct C 12 [a0, a1, .int x] r hp) = (xV k_Text_badAct C 13 [a0, a1, .int x] (.int x :: r) hp) := xVe _ _ _ _ _ _
theorem s_Text_badAct_13  (C : xCx) (L r : List Value) (hp : xHp) : (xV k_Text_badAct C 13 L (r) hp) = (xV k_Text_badAct C 15 L (.int (60) :: r) hp) := xVe _ _ _ _ _ _
theorem s_Text_badAct_15 (x y : Int32) (C : xCx) (L r : List Value) (hp : xHp) : (xV k_Text_badAct C 15 L (.int y :: .int x :: r) hp) = (((x < y → xV k_Text_badAct C 20 L r hp) ∧ (¬ x < y → xV k_Text_badAct C 18 L r hp))) := xVe _ _ _ _ _ _
theorem s_Text_badAct_18 (C : xCx) (r : List Value) (hp : xHp) (x : Int32) (a0 a1 : Value) : (xV k_Text_badAct C 18 [a0, a1, .int x] r hp) = (xV k_Text_badAct C 19 [a0, a1, .int x] (.int x :: r) hp) := xVe _ _ _ _ _ _
theorem s_Text_badAct_19 (v : Int32) (l : Launch) (d b lo gz n0 s0 : Nat) (Po : Option Value → xHp → Prop) (L : List Value) (hp : xHp) : (xV k_Text_badAct (l, d, b, lo, gz, n0, s0, m_Text_badAct, Po) 19 L [.int v] hp) = (Po (some (.int v)) hp) := xVe _ _ _ _ _ _
theorem s_Text_badAct_20 (C : xCx) (r : List Value) (hp : xHp) (x : Int32) (a0 a2 : Value) : (xV k_Text_badAct C 20 [a0, .int x, a2] r hp) = (xV k_Text_badAct C 21 [a0, .int x, a2] (.int x :: r) hp) := xVe _ _ _ _ _ _
theorem s_Text_badAct_21 (x : Int32) (C : xCx) (L r : List Value) (hp : xHp) : (xV k_Text_badAct C 21 L (.int x :: r) hp) = (((x ≤ 0 → xV k_Text_badAct C 43 L r hp) ∧ (¬ x ≤ 0 → xV k_Text_badAct C 24 L r hp))) := xVe _ _ _ _ _ _
theorem s_Text_badAct_24 (C : xCx) (r : List Value) (hp : xHp) (x : Nat) (a1 a2 : Value) : (xV k_Text_badAct C 24 [.ref x, a1, a2] r hp) = (True ∧ xV k_Text_badAct C 25 [.ref x, a1, a2] (.ref x :: r) hp) := xVe _ _ _ _ _ _
theorem s_Text_badAct_25 (C : xCx) (r : List Value) (hp : xHp) (x : Int32) (a0 a1 : Value) : (xV k_Text_badAct C 25 [a0, a1, .int x] r hp) = (xV k_Text_badAct C 26 [a0, a1, .int x] (.int x :: r) hp) := xVe _ _ _ _ _ _
theorem s_Text_badAct_26 (x0 : Int32) (a : Nat) (l : Launch) (d b lo gz n0 s0 : Nat) (Po : Option Value → xHp → Prop) (L r : List Value) (hp : xHp) : (xV k_Text_badAct (l, d + 1, b, lo, gz, n0, s0, m_Text_badAct, Po) 26 L (.int x0 :: .ref a :: r) hp) = (xO hp a 10 ∧ xcs r 8 ∧ xMi l d b lo gz m_Text_at [.ref a, .int x0] hp (fun x hp' => xV k_Text_badAct (l, d + 1, b, lo, gz, n0, s0, m_Text_badAct, Po) 29 L (.int x :: r) hp')) := xVe _ _ _ _ _ _
theorem s_Text_badAct_29 (x0 : Int32) (l : Launch) (d b lo gz n0 s0 : Nat) (Po : Option Value → xHp → Prop) (L r : List Value) (hp : xHp) : (xV k_Text_badAct (l, d + 1, b, lo, gz, n0, s0, m_Text_badAct, Po) 29 L (.int x0 :: r) hp) = (1 ≤ List.length (.int x0 :: r) ∧ xcs r 8 ∧ xMi l d b lo gz m_Text_isDigit [.int x0] hp (fun x hp' => xV k_Text_badAct (l, d + 1, b, lo, gz, n0, s0, m_Text_badAct, Po) 32 L (.int x :: r) hp')) := xVe _ _ _ _ _ _
theorem s_Text_badAct_32 (x : Int32) (C : xCx) (L r : List Value) (hp : xHp) : (xV k_Text_badAct C 32 L (.int x :: r) hp) = (((¬ x = 0 → xV k_Text_badAct C 37 L r hp) ∧ (x = 0 → xV k_Text_badAct C 35 L r hp))) := xVe _ _ _ _ _ _
theorem s_Text_badAct_35 (C : xCx) (r : List Value) (hp : xHp) (x : Int32) (a0 a1 : Value) : (xV k_Text_badAct C 35 [a0, a1, .int x] r hp) = (xV k_Text_badAct C 36 [a0, a1, .int x] (.int x :: r) hp) := xVe _ _ _ _ _ _
theorem s_Text_badAct_36 (v : Int32) (l : Launch) (d b lo gz n0 s0 : Nat) (Po : Option Value → xHp → Prop) (L : List Value) (hp : xHp) : (xV k_Text_badAct (l, d, b, lo, gz, n0, s0, m_Text_badAct, Po) 36 L [.int v] hp) = (Po (some (.int v)) hp) := xVe _ _ _ _ _ _
theorem s_Text_badAct_37 (C : xCx) (r : List Value) (hp : xHp) (x : Int32) (a0 a2 : Value) : (xV k_Text_badAct C 37 [a0, .int x, a2] r hp) = (xNl [a0, .int x, a2] 1 ∧ xV k_Text_badAct C 40 [a0, .int (x + (-1)), a2] r hp) := xVe _ _ _ _ _ _
theorem s_Text_badAct_40 (C : xCx) (L r : List Value) (hp : xHp) : (xV k_Text_badAct C 40 L r hp) = (xV k_Text_badAct C 58 L r hp) := xVe _ _ _ _ _ _
theorem s_Text_badAct_43 (C : xCx) (r : List Value) (hp : xHp) (x : Nat) (a1 a2 : Value) : (xV k_Text_badAct C 43 [.ref x, a1, a2] r hp) = (True ∧ xV k_Text_badAct C 44 [.ref x, a1, a2] (.ref x :: r) hp) := xVe _ _ _ _ _ _
theorem s_Text_badAct_44 (C : xCx) (r : List Value) (hp : xHp) (x : Int32) (a0 a1 : Value) : (xV k_Text_badAct C 44 [a0, a1, .int x] r hp) = (xV k_Text_badAct C 45 [a0, a1, .int x] (.int x :: r) hp) := xVe _ _ _ _ _ _
theorem s_Text_badAct_45 (x0 : Int32) (a : Nat) (l : Launch) (d b lo gz n0 s0 : Nat) (Po : Option Value → xHp → Prop) (L r : List Value) (hp : xHp) : (xV k_Text_badAct (l, d + 1, b, lo, gz, n0, s0, m_Text_badAct, Po) 45 L (.int x0 :: .ref a :: r) hp) = (xO hp a 10 ∧ xcs r 8 ∧ xMi l d b lo gz m_Text_at [.ref a, .int x0] hp (fun x hp' => xV k_Text_badAct (l, d + 1, b, lo, gz, n0, s0, m_Text_badAct, Po) 48 L (.int x :: r) hp')) := xVe _ _ _ _ _ _
theorem s_Text_badAct_48 (x0 : Int32) (l : Launch) (d b lo gz n0 s0 : Nat) (Po : Option Value → xHp → Prop) (L r : List Value) (hp : xHp) : (xV k_Text_badAct (l, d + 1, b, lo, gz, n0, s0, m_Text_badAct, Po) 48 L (.int x0 :: r) hp) = (1 ≤ List.length (.int x0 :: r) ∧ xcs r 8 ∧ xMi l d b lo gz m_Text_digitsBehind [.int x0] hp (fun x hp' => xV k_Text_badAct (l, d + 1, b, lo, gz, n0, s0, m_Text_badAct, Po) 51 L (.int x :: r) hp')) := xVe _ _ _ _ _ _
theorem s_Text_badAct_51 (C : xCx) (r : List Value) (hp : xHp) (x : Int32) (a0 a1 a2 : Value) : (xV k_Text_badAct C 51 [a0, a1, a2] (.int x :: r) hp) = (1 < 3 ∧ xNl [a0, a1, a2] 1 ∧ xV k_Text_badAct C 52 [a0, .int x, a2] r hp) := xVe _ _ _ _ _ _
theorem s_Text_badAct_52 (C : xCx) (r : List Value) (hp : xHp) (x : Int32) (a0 a2 : Value) : (xV k_Text_badAct C 52 [a0, .int x, a2] r hp) = (xV k_Text_badAct C 53 [a0, .int x, a2] (.int x :: r) hp) := xVe _ _ _ _ _ _
theorem s_Text_badAct_53 (x : Int32) (C : xCx) (L r : List Value) (hp : xHp) : (xV k_Text_badAct C 53 L (.int x :: r) hp) = (((¬ x = 0 → xV k_Text_badAct C 58 L r hp) ∧ (x = 0 → xV k_Text_badAct C 56 L r hp))) := xVe _ _ _ _ _ _
theorem s_Text_badAct_56 (C : xCx) (r : List Value) (hp : xHp) (x : Int32) (a0 a1 : Value) : (xV k_Text_badAct C 56 [a0, a1, .int x] r hp) = (xV k_Text_badAct C 57 [a0, a1, .int x] (.int x :: r) hp) := xVe _ _ _ _ _ _
theorem s_Text_badAct_57 (v : Int32) (l : Launch) (d b lo gz n0 s0 : Nat) (Po : Option Value → xHp → Prop) (L : List Value) (hp : xHp) : (xV k_Text_badAct (l, d, b, lo, gz, n0, s0, m_Text_badAct, Po) 57 L [.int v] hp) = (Po (some (.int v)) hp) := xVe _ _ _ _ _ _
theorem s_Text_badAct_58 (C : xCx) (r : List Value) (hp : xHp) (x : Int32) (a0 a1 : Value) : (xV k_Text_badAct C 58 [a0, a1, .int x] r hp) = (xNl [a0, a1, .int x] 2 ∧ xV k_Text_badAct C 61 [a0, a1, .int (x + (1))] r hp) := xVe _ _ _ _ _ _
theorem s_Text_badAct_61 (C : xCx) (L r : List Value) (hp : xHp) : (xV k_Text_badAct C 61 L r hp) = (xV k_Text_badAct C 4 L r hp) := xVe _ _ _ _ _ _
theorem s_Text_badAct_64 (C : xCx) (r : List Value) (hp : xHp) (x : Int32) (a0 a2 : Value) : (xV k_Text_badAct C 64 [a0, .int x, a2] r hp) = (xV k_Text_badAct C 65 [a0, .int x, a2] (.int x :: r) hp) := xVe _ _ _ _ _ _
theorem s_Text_badAct_65 (x : Int32) (C : xCx) (L r : List Value) (hp : xHp) : (xV k_Text_badAct C 65 L (.int x :: r) hp) = (((¬ x = 0 → xV k_Text_badAct C 72 L r hp) ∧ (x = 0 → xV k_Text_badAct C 68 L r hp))) := xVe _ _ _ _ _ _
theorem s_Text_badAct_68  (C : xCx) (L r : List Value) (hp : xHp) : (xV k_Text_badAct C 68 L (r) hp) = (xV k_Text_badAct C 69 L (.int (-1) :: r) hp) := xVe _ _ _ _ _ _
theorem s_Text_badAct_69 (C : xCx) (L r : List Value) (hp : xHp) : (xV k_Text_badAct C 69 L r hp) = (xV k_Text_badAct C 76 L r hp) := xVe _ _ _ _ _ _
theorem s_Text_badAct_72 (C : xCx) (r : List Value) (hp : xHp) (x : Nat) (a1 a2 : Value) : (xV k_Text_badAct C 72 [.ref x, a1, a2] r hp) = (True ∧ xV k_Text_badAct C 73 [.ref x, a1, a2] (.ref x :: r) hp) := xVe _ _ _ _ _ _
theorem s_Text_badAct_73 (a : Nat) (C : xCx) (L r : List Value) (hp : xHp) : (xV k_Text_badAct C 73 L (.ref a :: r) hp) = (xF hp a 10 1 (fun v => xV k_Text_badAct C 76 L (v :: r) hp)) := xVe _ _ _ _ _ _
theorem s_Text_badAct_76 (v : Int32) (l : Launch) (d b lo gz n0 s0 : Nat) (Po : Option Value → xHp → Prop) (L : List Value) (hp : xHp) : (xV k_Text_badAct (l, d, b, lo, gz, n0, s0, m_Text_badAct, Po) 76 L [.int v] hp) = (Po (some (.int v)) hp) := xVe _ _ _ _ _ _
def k_Text_digitsBehind : List xEC := [
  (0, .iload_n 0, 1, 0, 0, 0, m_x),
  (1, .lookupswitch 57 #[(100, 51), (109, 53), (110, 51), (115, 53), (121, 55)], 52, 0, 0, 0, m_x),
  (52, .iconst 1, 53, 0, 0, 0, m_x),
  (53, .ireturn, 54, 0, 0, 0, m_x),
  (54, .iconst 2, 55, 0, 0, 0, m_x),
  (55, .ireturn, 56, 0, 0, 0, m_x),
  (56, .iconst 3, 57, 0, 0, 0, m_x),
  (57, .ireturn, 58, 0, 0, 0, m_x),
  (58, .iconst 0, 59, 0, 0, 0, m_x),
  (59, .ireturn, 60, 0, 0, 0, m_x)]
theorem dc_Text_digitsBehind : ∀ E ∈ k_Text_digitsBehind, xDc m_Text_digitsBehind E := by decide +kernel
set_option maxRecDepth 20000 in
theorem ok_Text_digitsBehind : ∀ E ∈ k_Text_digitsBehind, xOk m_Text_digitsBehind E := xok_of dc_Text_digitsBehind (xfc trivial (xfc (show ((#[(100, 51), (109, 53), (110, 51), (115, 53), (121, 55)] : Array (Int × Int)).toList.zip ((#[(100, 51), (109, 53), (110, 51), (115, 53), (121, 55)] : Array (Int × Int)).toList.drop 1)).all (fun (a, next) => a.1 < next.1) = true ∧ (∀ q ∈ (#[(100, 51), (109, 53), (110, 51), (115, 53), (121, 55)] : Array (Int × Int)).toList, (-2147483648 : Int) ≤ q.1 ∧ q.1 < 2147483648) ∧ (0 : Int) ≤ ((1 : Nat) : Int) + (57) ∧ ∀ q ∈ (#[(100, 51), (109, 53), (110, 51), (115, 53), (121, 55)] : Array (Int × Int)).toList, (0 : Int) ≤ ((1 : Nat) : Int) + q.2 from by decide) (xfc trivial (xfc trivial (xfc trivial (xfc trivial (xfc trivial (xfc trivial (xfc trivial (xfc trivial (xfn)))))))))))
theorem s_Text_digitsBehind_0 (C : xCx) (r : List Value) (hp : xHp) (x : Int32) : (xV k_Text_digitsBehind C 0 [.int x] r hp) = (xV k_Text_digitsBehind C 1 [.int x] (.int x :: r) hp) := xVe _ _ _ _ _ _
theorem s_Text_digitsBehind_1 (x : Int32) (C : xCx) (L r : List Value) (hp : xHp) : (xV k_Text_digitsBehind C 1 L (.int x :: r) hp) = (((x = (100) → xV k_Text_digitsBehind C 52 L r hp) ∧ (¬ x = (100) → ((x = (109) → xV k_Text_digitsBehind C 54 L r hp) ∧ (¬ x = (109) → ((x = (110) → xV k_Text_digitsBehind C 52 L r hp) ∧ (¬ x = (110) → ((x = (115) → xV k_Text_digitsBehind C 54 L r hp) ∧ (¬ x = (115) → ((x = (121) → xV k_Text_digitsBehind C 56 L r hp) ∧ (¬ x = (121) → xV k_Text_digitsBehind C 58 L r hp))))))))))) := xVe _ _ _ _ _ _
theorem s_Text_digitsBehind_52  (C : xCx) (L r : List Value) (hp : xHp) : (xV k_Text_digitsBehind C 52 L (r) hp) = (xV k_Text_digitsBehind C 53 L (.int (1) :: r) hp) := xVe _ _ _ _ _ _
theorem s_Text_digitsBehind_53 (v : Int32) (l : Launch) (d b lo gz n0 s0 : Nat) (Po : Option Value → xHp → Prop) (L : List Value) (hp : xHp) : (xV k_Text_digitsBehind (l, d, b, lo, gz, n0, s0, m_Text_digitsBehind, Po) 53 L [.int v] hp) = (Po (some (.int v)) hp) := xVe _ _ _ _ _ _
theorem s_Text_digitsBehind_54  (C : xCx) (L r : List Value) (hp : xHp) : (xV k_Text_digitsBehind C 54 L (r) hp) = (xV k_Text_digitsBehind C 55 L (.int (2) :: r) hp) := xVe _ _ _ _ _ _
theorem s_Text_digitsBehind_55 (v : Int32) (l : Launch) (d b lo gz n0 s0 : Nat) (Po : Option Value → xHp → Prop) (L : List Value) (hp : xHp) : (xV k_Text_digitsBehind (l, d, b, lo, gz, n0, s0, m_Text_digitsBehind, Po) 55 L [.int v] hp) = (Po (some (.int v)) hp) := xVe _ _ _ _ _ _
theorem s_Text_digitsBehind_56  (C : xCx) (L r : List Value) (hp : xHp) : (xV k_Text_digitsBehind C 56 L (r) hp) = (xV k_Text_digitsBehind C 57 L (.int (3) :: r) hp) := xVe _ _ _ _ _ _
theorem s_Text_digitsBehind_57 (v : Int32) (l : Launch) (d b lo gz n0 s0 : Nat) (Po : Option Value → xHp → Prop) (L : List Value) (hp : xHp) : (xV k_Text_digitsBehind (l, d, b, lo, gz, n0, s0, m_Text_digitsBehind, Po) 57 L [.int v] hp) = (Po (some (.int v)) hp) := xVe _ _ _ _ _ _
theorem s_Text_digitsBehind_58  (C : xCx) (L r : List Value) (hp : xHp) : (xV k_Text_digitsBehind C 58 L (r) hp) = (xV k_Text_digitsBehind C 59 L (.int (0) :: r) hp) := xVe _ _ _ _ _ _
theorem s_Text_digitsBehind_59 (v : Int32) (l : Launch) (d b lo gz n0 s0 : Nat) (Po : Option Value → xHp → Prop) (L : List Value) (hp : xHp) : (xV k_Text_digitsBehind (l, d, b, lo, gz, n0, s0, m_Text_digitsBehind, Po) 59 L [.int v] hp) = (Po (some (.int v)) hp) := xVe _ _ _ _ _ _
def k_Past_acts : List xEC := [
  (0, .aload_n 0, 1, 0, 0, 0, m_x),
  (1, .getfield 23, 4, 5, 4, 0, m_x),
  (4, .ireturn, 5, 0, 0, 0, m_x)]
theorem dc_Past_acts : ∀ E ∈ k_Past_acts, xDc m_Past_acts E := by decide +kernel
set_option maxRecDepth 20000 in
theorem ok_Past_acts : ∀ E ∈ k_Past_acts, xOk m_Past_acts E := xok_of dc_Past_acts (xfc trivial (xfc fl_Past_23 (xfc trivial (xfn))))
theorem s_Past_acts_0 (C : xCx) (r : List Value) (hp : xHp) (x : Nat) : (xV k_Past_acts C 0 [.ref x] r hp) = (True ∧ xV k_Past_acts C 1 [.ref x] (.ref x :: r) hp) := xVe _ _ _ _ _ _
theorem s_Past_acts_1 (a : Nat) (C : xCx) (L r : List Value) (hp : xHp) : (xV k_Past_acts C 1 L (.ref a :: r) hp) = (xF hp a 5 4 (fun v => xV k_Past_acts C 4 L (v :: r) hp)) := xVe _ _ _ _ _ _
theorem s_Past_acts_4 (v : Int32) (l : Launch) (d b lo gz n0 s0 : Nat) (Po : Option Value → xHp → Prop) (L : List Value) (hp : xHp) : (xV k_Past_acts (l, d, b, lo, gz, n0, s0, m_Past_acts, Po) 4 L [.int v] hp) = (Po (some (.int v)) hp) := xVe _ _ _ _ _ _
theorem ml_Past_44 : xLk "SunnyOnes$Past" 44 m_Math_max := Or.inl (wg3 217 (by decide +kernel) rfl)
def k_Past_popInto : List xEC := [
  (0, .aload_n 0, 1, 0, 0, 0, m_x),
  (1, .aload_n 0, 2, 0, 0, 0, m_x),
  (2, .getfield 27, 5, 5, 3, 0, m_x),
  (5, .ifCond .le 12, 8, 0, 17, 0, m_x),
  (8, .aload_n 0, 9, 0, 0, 0, m_x),
  (9, .getfield 27, 12, 5, 3, 0, m_x),
  (12, .iconst 1, 13, 0, 0, 0, m_x),
  (13, .isub, 14, 0, 0, 0, m_x),
  (14, .goto 5, 17, 0, 19, 0, m_x),
  (17, .bipush 11, 19, 0, 0, 0, m_x),
  (19, .putfield 27, 22, 5, 3, 0, m_x),
  (22, .aload_n 0, 23, 0, 0, 0, m_x),
  (23, .iconst 0, 24, 0, 0, 0, m_x),
  (24, .aload_n 0, 25, 0, 0, 0, m_x),
  (25, .getfield 23, 28, 5, 4, 0, m_x),
  (28, .iconst 1, 29, 0, 0, 0, m_x),
  (29, .isub, 30, 0, 0, 0, m_x),
  (30, .invokestatic 44, 33, 0, 0, 0, m_Math_max),
  (33, .putfield 23, 36, 5, 4, 0, m_x),
  (36, .aload_n 0, 37, 0, 0, 0, m_x),
  (37, .getfield 11, 40, 5, 0, 0, m_x),
  (40, .aload_n 0, 41, 0, 0, 0, m_x),
  (41, .getfield 27, 44, 5, 3, 0, m_x),
  (44, .invokestatic 30, 47, 0, 0, 0, m_Past_pick),
  (47, .astore_n 2, 48, 0, 0, 0, m_x),
  (48, .aload_n 2, 49, 0, 0, 0, m_x),
  (49, .ifnull 8, 52, 0, 57, 0, m_x),
  (52, .aload_n 1, 53, 0, 0, 0, m_x),
  (53, .aload_n 2, 54, 0, 0, 0, m_x),
  (54, .invokevirtual 34, 57, 3, 0, 0, m_Folk_copyFrom),
  (57, .return_, 58, 0, 0, 0, m_x)]
theorem dc_Past_popInto : ∀ E ∈ k_Past_popInto, xDc m_Past_popInto E := by decide +kernel
set_option maxRecDepth 20000 in
theorem ok_Past_popInto : ∀ E ∈ k_Past_popInto, xOk m_Past_popInto E := xok_of dc_Past_popInto (xfc trivial (xfc trivial (xfc fl_Past_27 (xfc (show ((5 : Nat) : Int) + (12) = ((17 : Nat) : Int) from by decide) (xfc trivial (xfc fl_Past_27 (xfc trivial (xfc trivial (xfc (show ((14 : Nat) : Int) + (5) = ((19 : Nat) : Int) from by decide) (xfc trivial (xfc ⟨fl_Past_27, fun q h f => by cases h; exact absurd f (by decide)⟩ (xfc trivial (xfc trivial (xfc trivial (xfc fl_Past_23 (xfc trivial (xfc trivial (xfc ⟨ml_Past_44, kd_Math_max⟩ (xfc ⟨fl_Past_23, fun q h f => by cases h; exact absurd f (by decide)⟩ (xfc trivial (xfc fl_Past_11 (xfc trivial (xfc fl_Past_27 (xfc ⟨ml_Past_30, kd_Past_pick⟩ (xfc trivial (xfc trivial (xfc (show ((49 : Nat) : Int) + (8) = ((57 : Nat) : Int) from by decide) (xfc trivial (xfc trivial (xfc ⟨ml_Past_34, kd_Folk_copyFrom⟩ (xfc trivial (xfn))))))))))))))))))))))))))))))))
theorem s_Past_popInto_0 (C : xCx) (r : List Value) (hp : xHp) (x : Nat) (a1 a2 : Value) : (xV k_Past_popInto C 0 [.ref x, a1, a2] r hp) = (True ∧ xV k_Past_popInto C 1 [.ref x, a1, a2] (.ref x :: r) hp) := xVe _ _ _ _ _ _
theorem s_Past_popInto_1 (C : xCx) (r : List Value) (hp : xHp) (x : Nat) (a1 a2 : Value) : (xV k_Past_popInto C 1 [.ref x, a1, a2] r hp) = (True ∧ xV k_Past_popInto C 2 [.ref x, a1, a2] (.ref x :: r) hp) := xVe _ _ _ _ _ _
theorem s_Past_popInto_2 (a : Nat) (C : xCx) (L r : List Value) (hp : xHp) : (xV k_Past_popInto C 2 L (.ref a :: r) hp) = (xF hp a 5 3 (fun v => xV k_Past_popInto C 5 L (v :: r) hp)) := xVe _ _ _ _ _ _
theorem s_Past_popInto_5 (x : Int32) (C : xCx) (L r : List Value) (hp : xHp) : (xV k_Past_popInto C 5 L (.int x :: r) hp) = (((x ≤ 0 → xV k_Past_popInto C 17 L r hp) ∧ (¬ x ≤ 0 → xV k_Past_popInto C 8 L r hp))) := xVe _ _ _ _ _ _
theorem s_Past_popInto_8 (C : xCx) (r : List Value) (hp : xHp) (x : Nat) (a1 a2 : Value) : (xV k_Past_popInto C 8 [.ref x, a1, a2] r hp) = (True ∧ xV k_Past_popInto C 9 [.ref x, a1, a2] (.ref x :: r) hp) := xVe _ _ _ _ _ _
theorem s_Past_popInto_9 (a : Nat) (C : xCx) (L r : List Value) (hp : xHp) : (xV k_Past_popInto C 9 L (.ref a :: r) hp) = (xF hp a 5 3 (fun v => xV k_Past_popInto C 12 L (v :: r) hp)) := xVe _ _ _ _ _ _
theorem s_Past_popInto_12  (C : xCx) (L r : List Value) (hp : xHp) : (xV k_Past_popInto C 12 L (r) hp) = (xV k_Past_popInto C 13 L (.int (1) :: r) hp) := xVe _ _ _ _ _ _
theorem s_Past_popInto_13 (x y : Int32) (C : xCx) (L r : List Value) (hp : xHp) : (xV k_Past_popInto C 13 L (.int y :: .int x :: r) hp) = (xV k_Past_popInto C 14 L (.int (x - y) :: r) hp) := xVe _ _ _ _ _ _
theorem s_Past_popInto_14 (C : xCx) (L r : List Value) (hp : xHp) : (xV k_Past_popInto C 14 L r hp) = (xV k_Past_popInto C 19 L r hp) := xVe _ _ _ _ _ _
theorem s_Past_popInto_17  (C : xCx) (L r : List Value) (hp : xHp) : (xV k_Past_popInto C 17 L (r) hp) = (xV k_Past_popInto C 19 L (.int (11) :: r) hp) := xVe _ _ _ _ _ _
theorem s_Past_popInto_19 (x : Int32) (a : Nat) (C : xCx) (L r : List Value) (hp : xHp) : (xV k_Past_popInto C 19 L (.int x :: .ref a :: r) hp) = (True ∧ xPf hp a 5 3 (.int x) (fun hp' => xV k_Past_popInto C 22 L r hp')) := xVe _ _ _ _ _ _
theorem s_Past_popInto_22 (C : xCx) (r : List Value) (hp : xHp) (x : Nat) (a1 a2 : Value) : (xV k_Past_popInto C 22 [.ref x, a1, a2] r hp) = (True ∧ xV k_Past_popInto C 23 [.ref x, a1, a2] (.ref x :: r) hp) := xVe _ _ _ _ _ _
theorem s_Past_popInto_23  (C : xCx) (L r : List Value) (hp : xHp) : (xV k_Past_popInto C 23 L (r) hp) = (xV k_Past_popInto C 24 L (.int (0) :: r) hp) := xVe _ _ _ _ _ _
theorem s_Past_popInto_24 (C : xCx) (r : List Value) (hp : xHp) (x : Nat) (a1 a2 : Value) : (xV k_Past_popInto C 24 [.ref x, a1, a2] r hp) = (True ∧ xV k_Past_popInto C 25 [.ref x, a1, a2] (.ref x :: r) hp) := xVe _ _ _ _ _ _
theorem s_Past_popInto_25 (a : Nat) (C : xCx) (L r : List Value) (hp : xHp) : (xV k_Past_popInto C 25 L (.ref a :: r) hp) = (xF hp a 5 4 (fun v => xV k_Past_popInto C 28 L (v :: r) hp)) := xVe _ _ _ _ _ _
theorem s_Past_popInto_28  (C : xCx) (L r : List Value) (hp : xHp) : (xV k_Past_popInto C 28 L (r) hp) = (xV k_Past_popInto C 29 L (.int (1) :: r) hp) := xVe _ _ _ _ _ _
theorem s_Past_popInto_29 (x y : Int32) (C : xCx) (L r : List Value) (hp : xHp) : (xV k_Past_popInto C 29 L (.int y :: .int x :: r) hp) = (xV k_Past_popInto C 30 L (.int (x - y) :: r) hp) := xVe _ _ _ _ _ _
theorem s_Past_popInto_30 (x0 : Int32) (x1 : Int32) (l : Launch) (d b lo gz n0 s0 : Nat) (Po : Option Value → xHp → Prop) (L r : List Value) (hp : xHp) : (xV k_Past_popInto (l, d + 1, b, lo, gz, n0, s0, m_Past_popInto, Po) 30 L (.int x1 :: .int x0 :: r) hp) = (2 ≤ List.length (.int x1 :: .int x0 :: r) ∧ xcs r 8 ∧ xMi l d b lo gz m_Math_max [.int x0, .int x1] hp (fun x hp' => xV k_Past_popInto (l, d + 1, b, lo, gz, n0, s0, m_Past_popInto, Po) 33 L (.int x :: r) hp')) := xVe _ _ _ _ _ _
theorem s_Past_popInto_33 (x : Int32) (a : Nat) (C : xCx) (L r : List Value) (hp : xHp) : (xV k_Past_popInto C 33 L (.int x :: .ref a :: r) hp) = (True ∧ xPf hp a 5 4 (.int x) (fun hp' => xV k_Past_popInto C 36 L r hp')) := xVe _ _ _ _ _ _
theorem s_Past_popInto_36 (C : xCx) (r : List Value) (hp : xHp) (x : Nat) (a1 a2 : Value) : (xV k_Past_popInto C 36 [.ref x, a1, a2] r hp) = (True ∧ xV k_Past_popInto C 37 [.ref x, a1, a2] (.ref x :: r) hp) := xVe _ _ _ _ _ _
theorem s_Past_popInto_37 (a : Nat) (C : xCx) (L r : List Value) (hp : xHp) : (xV k_Past_popInto C 37 L (.ref a :: r) hp) = (xF hp a 5 0 (fun v => xV k_Past_popInto C 40 L (v :: r) hp)) := xVe _ _ _ _ _ _
theorem s_Past_popInto_40 (C : xCx) (r : List Value) (hp : xHp) (x : Nat) (a1 a2 : Value) : (xV k_Past_popInto C 40 [.ref x, a1, a2] r hp) = (True ∧ xV k_Past_popInto C 41 [.ref x, a1, a2] (.ref x :: r) hp) := xVe _ _ _ _ _ _
theorem s_Past_popInto_41 (a : Nat) (C : xCx) (L r : List Value) (hp : xHp) : (xV k_Past_popInto C 41 L (.ref a :: r) hp) = (xF hp a 5 3 (fun v => xV k_Past_popInto C 44 L (v :: r) hp)) := xVe _ _ _ _ _ _
theorem s_Past_popInto_44 (x0 : Nat) (x1 : Int32) (l : Launch) (d b lo gz n0 s0 : Nat) (Po : Option Value → xHp → Prop) (L r : List Value) (hp : xHp) : (xV k_Past_popInto (l, d + 1, b, lo, gz, n0, s0, m_Past_popInto, Po) 44 L (.int x1 :: .ref x0 :: r) hp) = (2 ≤ List.length (.int x1 :: .ref x0 :: r) ∧ xcs r 8 ∧ xMq l d b lo gz m_Past_pick [.ref x0, .int x1] hp (fun x hp' => xV k_Past_popInto (l, d + 1, b, lo, gz, n0, s0, m_Past_popInto, Po) 47 L (x :: r) hp')) := xVe _ _ _ _ _ _
theorem s_Past_popInto_47 (C : xCx) (r : List Value) (hp : xHp) (x : Nat) (a0 a1 a2 : Value) : (xV k_Past_popInto C 47 [a0, a1, a2] (.ref x :: r) hp) = (2 < 3 ∧ xNl [a0, a1, a2] 2 ∧ xV k_Past_popInto C 48 [a0, a1, .ref x] r hp) := xVe _ _ _ _ _ _
theorem s_Past_popInto_48 (C : xCx) (r : List Value) (hp : xHp) (x : Nat) (a0 a1 : Value) : (xV k_Past_popInto C 48 [a0, a1, .ref x] r hp) = (True ∧ xV k_Past_popInto C 49 [a0, a1, .ref x] (.ref x :: r) hp) := xVe _ _ _ _ _ _
theorem s_Past_popInto_49n (C : xCx) (L r : List Value) (hp : xHp) : (xV k_Past_popInto C 49 L (.null :: r) hp) = (xV k_Past_popInto C 57 L r hp) := xVe _ _ _ _ _ _
theorem s_Past_popInto_49 (a : Nat) (C : xCx) (L r : List Value) (hp : xHp) : (xV k_Past_popInto C 49 L (.ref a :: r) hp) = (xV k_Past_popInto C 52 L r hp) := xVe _ _ _ _ _ _
theorem s_Past_popInto_52 (C : xCx) (r : List Value) (hp : xHp) (x : Nat) (a0 a2 : Value) : (xV k_Past_popInto C 52 [a0, .ref x, a2] r hp) = (True ∧ xV k_Past_popInto C 53 [a0, .ref x, a2] (.ref x :: r) hp) := xVe _ _ _ _ _ _
theorem s_Past_popInto_53 (C : xCx) (r : List Value) (hp : xHp) (x : Nat) (a0 a1 : Value) : (xV k_Past_popInto C 53 [a0, a1, .ref x] r hp) = (True ∧ xV k_Past_popInto C 54 [a0, a1, .ref x] (.ref x :: r) hp) := xVe _ _ _ _ _ _
theorem s_Past_popInto_54 (x0 : Nat) (a : Nat) (l : Launch) (d b lo gz n0 s0 : Nat) (Po : Option Value → xHp → Prop) (L r : List Value) (hp : xHp) : (xV k_Past_popInto (l, d + 1, b, lo, gz, n0, s0, m_Past_popInto, Po) 54 L (.ref x0 :: .ref a :: r) hp) = (xO hp a 3 ∧ xcs r 8 ∧ xMv l d b lo gz m_Folk_copyFrom [.ref a, .ref x0] hp (fun hp' => xV k_Past_popInto (l, d + 1, b, lo, gz, n0, s0, m_Past_popInto, Po) 57 L r hp')) := xVe _ _ _ _ _ _
theorem s_Past_popInto_57 (l : Launch) (d b lo gz n0 s0 : Nat) (Po : Option Value → xHp → Prop) (L : List Value) (hp : xHp) : (xV k_Past_popInto (l, d, b, lo, gz, n0, s0, m_Past_popInto, Po) 57 L [] hp) = (Po (none) hp) := xVe _ _ _ _ _ _
def k_Row_tell1 : List xEC := [
  (0, .aload_n 0, 1, 0, 0, 0, m_x),
  (1, .invokevirtual 17, 4, 7, 0, 0, m_Row_clear),
  (4, .aload_n 0, 5, 0, 0, 0, m_x),
  (5, .lload_n 1, 6, 0, 0, 0, m_x),
  (6, .invokevirtual 20, 9, 7, 0, 0, m_Row_add),
  (9, .return_, 10, 0, 0, 0, m_x)]
theorem dc_Row_tell1 : ∀ E ∈ k_Row_tell1, xDc m_Row_tell1 E := by decide +kernel
set_option maxRecDepth 20000 in
theorem ok_Row_tell1 : ∀ E ∈ k_Row_tell1, xOk m_Row_tell1 E := xok_of dc_Row_tell1 (xfc trivial (xfc ⟨ml_Row_17, kd_Row_clear⟩ (xfc trivial (xfc trivial (xfc ⟨ml_Row_20, kd_Row_add⟩ (xfc trivial (xfn)))))))
theorem s_Row_tell1_0 (C : xCx) (r : List Value) (hp : xHp) (x : Nat) (a1 a2 : Value) : (xV k_Row_tell1 C 0 [.ref x, a1, a2] r hp) = (True ∧ xV k_Row_tell1 C 1 [.ref x, a1, a2] (.ref x :: r) hp) := xVe _ _ _ _ _ _
theorem s_Row_tell1_1 (a : Nat) (l : Launch) (d b lo gz n0 s0 : Nat) (Po : Option Value → xHp → Prop) (L r : List Value) (hp : xHp) : (xV k_Row_tell1 (l, d + 1, b, lo, gz, n0, s0, m_Row_tell1, Po) 1 L (.ref a :: r) hp) = (xO hp a 7 ∧ xcs r 8 ∧ xMv l d b lo gz m_Row_clear [.ref a] hp (fun hp' => xV k_Row_tell1 (l, d + 1, b, lo, gz, n0, s0, m_Row_tell1, Po) 4 L r hp')) := xVe _ _ _ _ _ _
theorem s_Row_tell1_4 (C : xCx) (r : List Value) (hp : xHp) (x : Nat) (a1 a2 : Value) : (xV k_Row_tell1 C 4 [.ref x, a1, a2] r hp) = (True ∧ xV k_Row_tell1 C 5 [.ref x, a1, a2] (.ref x :: r) hp) := xVe _ _ _ _ _ _
theorem s_Row_tell1_5 (C : xCx) (r : List Value) (hp : xHp) (x : Int64) (a0 a2 : Value) : (xV k_Row_tell1 C 5 [a0, .long x, a2] r hp) = (xV k_Row_tell1 C 6 [a0, .long x, a2] (.long x :: r) hp) := xVe _ _ _ _ _ _
theorem s_Row_tell1_6 (x0 : Int64) (a : Nat) (l : Launch) (d b lo gz n0 s0 : Nat) (Po : Option Value → xHp → Prop) (L r : List Value) (hp : xHp) : (xV k_Row_tell1 (l, d + 1, b, lo, gz, n0, s0, m_Row_tell1, Po) 6 L (.long x0 :: .ref a :: r) hp) = (xO hp a 7 ∧ xcs r 8 ∧ xMv l d b lo gz m_Row_add [.ref a, .long x0] hp (fun hp' => xV k_Row_tell1 (l, d + 1, b, lo, gz, n0, s0, m_Row_tell1, Po) 9 L r hp')) := xVe _ _ _ _ _ _
theorem s_Row_tell1_9 (l : Launch) (d b lo gz n0 s0 : Nat) (Po : Option Value → xHp → Prop) (L : List Value) (hp : xHp) : (xV k_Row_tell1 (l, d, b, lo, gz, n0, s0, m_Row_tell1, Po) 9 L [] hp) = (Po (none) hp) := xVe _ _ _ _ _ _
theorem ml_Folk_42 : xLk "SunnyOnes$Folk" 42 m_Folk_eldestBut := Or.inl (wg4 15 (by decide +kernel) rfl)
def k_Folk_eldest : List xEC := [
  (0, .aload_n 0, 1, 0, 0, 0, m_x),
  (1, .iconst 0, 2, 0, 0, 0, m_x),
  (2, .invokevirtual 42, 5, 3, 0, 0, m_Folk_eldestBut),
  (5, .ireturn, 6, 0, 0, 0, m_x)]
theorem dc_Folk_eldest : ∀ E ∈ k_Folk_eldest, xDc m_Folk_eldest E := by decide +kernel
set_option maxRecDepth 20000 in
theorem ok_Folk_eldest : ∀ E ∈ k_Folk_eldest, xOk m_Folk_eldest E := xok_of dc_Folk_eldest (xfc trivial (xfc trivial (xfc ⟨ml_Folk_42, kd_Folk_eldestBut⟩ (xfc trivial (xfn)))))
theorem s_Folk_eldest_0 (C : xCx) (r : List Value) (hp : xHp) (x : Nat) : (xV k_Folk_eldest C 0 [.ref x] r hp) = (True ∧ xV k_Folk_eldest C 1 [.ref x] (.ref x :: r) hp) := xVe _ _ _ _ _ _
theorem s_Folk_eldest_1  (C : xCx) (L r : List Value) (hp : xHp) : (xV k_Folk_eldest C 1 L (r) hp) = (xV k_Folk_eldest C 2 L (.int (0) :: r) hp) := xVe _ _ _ _ _ _
theorem s_Folk_eldest_2 (x0 : Int32) (a : Nat) (l : Launch) (d b lo gz n0 s0 : Nat) (Po : Option Value → xHp → Prop) (L r : List Value) (hp : xHp) : (xV k_Folk_eldest (l, d + 1, b, lo, gz, n0, s0, m_Folk_eldest, Po) 2 L (.int x0 :: .ref a :: r) hp) = (xO hp a 3 ∧ xcs r 8 ∧ xMi l d b lo gz m_Folk_eldestBut [.ref a, .int x0] hp (fun x hp' => xV k_Folk_eldest (l, d + 1, b, lo, gz, n0, s0, m_Folk_eldest, Po) 5 L (.int x :: r) hp')) := xVe _ _ _ _ _ _
theorem s_Folk_eldest_5 (v : Int32) (l : Launch) (d b lo gz n0 s0 : Nat) (Po : Option Value → xHp → Prop) (L : List Value) (hp : xHp) : (xV k_Folk_eldest (l, d, b, lo, gz, n0, s0, m_Folk_eldest, Po) 5 L [.int v] hp) = (Po (some (.int v)) hp) := xVe _ _ _ _ _ _
theorem ml_Folk_46 : xLk "SunnyOnes$Folk" 46 m_Folk_age := Or.inl (wg4 19 (by decide +kernel) rfl)
def k_Folk_eldestBut : List xEC := [
  (0, .iconst (-1), 1, 0, 0, 0, m_x),
  (1, .istore_n 2, 2, 0, 0, 0, m_x),
  (2, .iconst 0, 3, 0, 0, 0, m_x),
  (3, .istore_n 3, 4, 0, 0, 0, m_x),
  (4, .iload_n 3, 5, 0, 0, 0, m_x),
  (5, .aload_n 0, 6, 0, 0, 0, m_x),
  (6, .getfield 21, 9, 3, 3, 0, m_x),
  (9, .if_icmp .ge 36, 12, 0, 45, 0, m_x),
  (12, .iload_n 1, 13, 0, 0, 0, m_x),
  (13, .iconst 1, 14, 0, 0, 0, m_x),
  (14, .iload_n 3, 15, 0, 0, 0, m_x),
  (15, .ishl, 16, 0, 0, 0, m_x),
  (16, .iand, 17, 0, 0, 0, m_x),
  (17, .ifCond .ne 22, 20, 0, 39, 0, m_x),
  (20, .iload_n 2, 21, 0, 0, 0, m_x),
  (21, .ifCond .lt 16, 24, 0, 37, 0, m_x),
  (24, .aload_n 0, 25, 0, 0, 0, m_x),
  (25, .iload_n 3, 26, 0, 0, 0, m_x),
  (26, .invokevirtual 46, 29, 3, 0, 0, m_Folk_age),
  (29, .aload_n 0, 30, 0, 0, 0, m_x),
  (30, .iload_n 2, 31, 0, 0, 0, m_x),
  (31, .invokevirtual 46, 34, 3, 0, 0, m_Folk_age),
  (34, .if_icmp .le 5, 37, 0, 39, 0, m_x),
  (37, .iload_n 3, 38, 0, 0, 0, m_x),
  (38, .istore_n 2, 39, 0, 0, 0, m_x),
  (39, .iinc 3 1, 42, 0, 0, 0, m_x),
  (42, .goto (-38), 45, 0, 4, 0, m_x),
  (45, .iload_n 2, 46, 0, 0, 0, m_x),
  (46, .ireturn, 47, 0, 0, 0, m_x)]
theorem dc_Folk_eldestBut : ∀ E ∈ k_Folk_eldestBut, xDc m_Folk_eldestBut E := by decide +kernel
set_option maxRecDepth 20000 in
theorem ok_Folk_eldestBut : ∀ E ∈ k_Folk_eldestBut, xOk m_Folk_eldestBut E := xok_of dc_Folk_eldestBut (xfc trivial (xfc trivial (xfc trivial (xfc trivial (xfc trivial (xfc trivial (xfc fl_Folk_21 (xfc (show ((9 : Nat) : Int) + (36) = ((45 : Nat) : Int) from by decide) (xfc trivial (xfc trivial (xfc trivial (xfc trivial (xfc trivial (xfc (show ((17 : Nat) : Int) + (22) = ((39 : Nat) : Int) from by decide) (xfc trivial (xfc (show ((21 : Nat) : Int) + (16) = ((37 : Nat) : Int) from by decide) (xfc trivial (xfc trivial (xfc ⟨ml_Folk_46, kd_Folk_age⟩ (xfc trivial (xfc trivial (xfc ⟨ml_Folk_46, kd_Folk_age⟩ (xfc (show ((34 : Nat) : Int) + (5) = ((39 : Nat) : Int) from by decide) (xfc trivial (xfc trivial (xfc trivial (xfc (show ((42 : Nat) : Int) + (-38) = ((4 : Nat) : Int) from by decide) (xfc trivial (xfc trivial (xfn))))))))))))))))))))))))))))))
theorem s_Folk_eldestBut_0  (C : xCx) (L r : List Value) (hp : xHp) : (xV k_Folk_eldestBut C 0 L (r) hp) = (xV k_Folk_eldestBut C 1 L (.int (-1) :: r) hp) := xVe _ _ _ _ _ _
theorem s_Folk_eldestBut_1 (C : xCx) (r : List Value) (hp : xHp) (x : Int32) (a0 a1 a2 a3 : Value) : (xV k_Folk_eldestBut C 1 [a0, a1, a2, a3] (.int x :: r) hp) = (2 < 4 ∧ xNl [a0, a1, a2, a3] 2 ∧ xV k_Folk_eldestBut C 2 [a0, a1, .int x, a3] r hp) := xVe _ _ _ _ _ _
theorem s_Folk_eldestBut_2  (C : xCx) (L r : List Value) (hp : xHp) : (xV k_Folk_eldestBut C 2 L (r) hp) = (xV k_Folk_eldestBut C 3 L (.int (0) :: r) hp) := xVe _ _ _ _ _ _
theorem s_Folk_eldestBut_3 (C : xCx) (r : List Value) (hp : xHp) (x : Int32) (a0 a1 a2 a3 : Value) : (xV k_Folk_eldestBut C 3 [a0, a1, a2, a3] (.int x :: r) hp) = (3 < 4 ∧ xNl [a0, a1, a2, a3] 3 ∧ xV k_Folk_eldestBut C 4 [a0, a1, a2, .int x] r hp) := xVe _ _ _ _ _ _
theorem s_Folk_eldestBut_4 (C : xCx) (r : List Value) (hp : xHp) (x : Int32) (a0 a1 a2 : Value) : (xV k_Folk_eldestBut C 4 [a0, a1, a2, .int x] r hp) = (xV k_Folk_eldestBut C 5 [a0, a1, a2, .int x] (.int x :: r) hp) := xVe _ _ _ _ _ _
theorem s_Folk_eldestBut_5 (C : xCx) (r : List Value) (hp : xHp) (x : Nat) (a1 a2 a3 : Value) : (xV k_Folk_eldestBut C 5 [.ref x, a1, a2, a3] r hp) = (True ∧ xV k_Folk_eldestBut C 6 [.ref x, a1, a2, a3] (.ref x :: r) hp) := xVe _ _ _ _ _ _
theorem s_Folk_eldestBut_6 (a : Nat) (C : xCx) (L r : List Value) (hp : xHp) : (xV k_Folk_eldestBut C 6 L (.ref a :: r) hp) = (xF hp a 3 3 (fun v => xV k_Folk_eldestBut C 9 L (v :: r) hp)) := xVe _ _ _ _ _ _
theorem s_Folk_eldestBut_9 (x y : Int32) (C : xCx) (L r : List Value) (hp : xHp) : (xV k_Folk_eldestBut C 9 L (.int y :: .int x :: r) hp) = (((y ≤ x → xV k_Folk_eldestBut C 45 L r hp) ∧ (¬ y ≤ x → xV k_Folk_eldestBut C 12 L r hp))) := xVe _ _ _ _ _ _
theorem s_Folk_eldestBut_12 (C : xCx) (r : List Value) (hp : xHp) (x : Int32) (a0 a2 a3 : Value) : (xV k_Folk_eldestBut C 12 [a0, .int x, a2, a3] r hp) = (xV k_Folk_eldestBut C 13 [a0, .int x, a2, a3] (.int x :: r) hp) := xVe _ _ _ _ _ _
theorem s_Folk_eldestBut_13  (C : xCx) (L r : List Value) (hp : xHp) : (xV k_Folk_eldestBut C 13 L (r) hp) = (xV k_Folk_eldestBut C 14 L (.int (1) :: r) hp) := xVe _ _ _ _ _ _
theorem s_Folk_eldestBut_14 (C : xCx) (r : List Value) (hp : xHp) (x : Int32) (a0 a1 a2 : Value) : (xV k_Folk_eldestBut C 14 [a0, a1, a2, .int x] r hp) = (xV k_Folk_eldestBut C 15 [a0, a1, a2, .int x] (.int x :: r) hp) := xVe _ _ _ _ _ _
theorem s_Folk_eldestBut_15 (x y : Int32) (C : xCx) (L r : List Value) (hp : xHp) : (xV k_Folk_eldestBut C 15 L (.int y :: .int x :: r) hp) = (xV k_Folk_eldestBut C 16 L (.int (x <<< (y &&& 31)) :: r) hp) := xVe _ _ _ _ _ _
theorem s_Folk_eldestBut_16 (x y : Int32) (C : xCx) (L r : List Value) (hp : xHp) : (xV k_Folk_eldestBut C 16 L (.int y :: .int x :: r) hp) = (xV k_Folk_eldestBut C 17 L (.int (x &&& y) :: r) hp) := xVe _ _ _ _ _ _
theorem s_Folk_eldestBut_17 (x : Int32) (C : xCx) (L r : List Value) (hp : xHp) : (xV k_Folk_eldestBut C 17 L (.int x :: r) hp) = (((¬ x = 0 → xV k_Folk_eldestBut C 39 L r hp) ∧ (x = 0 → xV k_Folk_eldestBut C 20 L r hp))) := xVe _ _ _ _ _ _
theorem s_Folk_eldestBut_20 (C : xCx) (r : List Value) (hp : xHp) (x : Int32) (a0 a1 a3 : Value) : (xV k_Folk_eldestBut C 20 [a0, a1, .int x, a3] r hp) = (xV k_Folk_eldestBut C 21 [a0, a1, .int x, a3] (.int x :: r) hp) := xVe _ _ _ _ _ _
theorem s_Folk_eldestBut_21 (x : Int32) (C : xCx) (L r : List Value) (hp : xHp) : (xV k_Folk_eldestBut C 21 L (.int x :: r) hp) = (((x < 0 → xV k_Folk_eldestBut C 37 L r hp) ∧ (¬ x < 0 → xV k_Folk_eldestBut C 24 L r hp))) := xVe _ _ _ _ _ _
theorem s_Folk_eldestBut_24 (C : xCx) (r : List Value) (hp : xHp) (x : Nat) (a1 a2 a3 : Value) : (xV k_Folk_eldestBut C 24 [.ref x, a1, a2, a3] r hp) = (True ∧ xV k_Folk_eldestBut C 25 [.ref x, a1, a2, a3] (.ref x :: r) hp) := xVe _ _ _ _ _ _
theorem s_Folk_eldestBut_25 (C : xCx) (r : List Value) (hp : xHp) (x : Int32) (a0 a1 a2 : Value) : (xV k_Folk_eldestBut C 25 [a0, a1, a2, .int x] r hp) = (xV k_Folk_eldestBut C 26 [a0, a1, a2, .int x] (.int x :: r) hp) := xVe _ _ _ _ _ _
theorem s_Folk_eldestBut_26 (x0 : Int32) (a : Nat) (l : Launch) (d b lo gz n0 s0 : Nat) (Po : Option Value → xHp → Prop) (L r : List Value) (hp : xHp) : (xV k_Folk_eldestBut (l, d + 1, b, lo, gz, n0, s0, m_Folk_eldestBut, Po) 26 L (.int x0 :: .ref a :: r) hp) = (xO hp a 3 ∧ xcs r 8 ∧ xMi l d b lo gz m_Folk_age [.ref a, .int x0] hp (fun x hp' => xV k_Folk_eldestBut (l, d + 1, b, lo, gz, n0, s0, m_Folk_eldestBut, Po) 29 L (.int x :: r) hp')) := xVe _ _ _ _ _ _
theorem s_Folk_eldestBut_29 (C : xCx) (r : List Value) (hp : xHp) (x : Nat) (a1 a2 a3 : Value) : (xV k_Folk_eldestBut C 29 [.ref x, a1, a2, a3] r hp) = (True ∧ xV k_Folk_eldestBut C 30 [.ref x, a1, a2, a3] (.ref x :: r) hp) := xVe _ _ _ _ _ _
theorem s_Folk_eldestBut_30 (C : xCx) (r : List Value) (hp : xHp) (x : Int32) (a0 a1 a3 : Value) : (xV k_Folk_eldestBut C 30 [a0, a1, .int x, a3] r hp) = (xV k_Folk_eldestBut C 31 [a0, a1, .int x, a3] (.int x :: r) hp) := xVe _ _ _ _ _ _
theorem s_Folk_eldestBut_31 (x0 : Int32) (a : Nat) (l : Launch) (d b lo gz n0 s0 : Nat) (Po : Option Value → xHp → Prop) (L r : List Value) (hp : xHp) : (xV k_Folk_eldestBut (l, d + 1, b, lo, gz, n0, s0, m_Folk_eldestBut, Po) 31 L (.int x0 :: .ref a :: r) hp) = (xO hp a 3 ∧ xcs r 8 ∧ xMi l d b lo gz m_Folk_age [.ref a, .int x0] hp (fun x hp' => xV k_Folk_eldestBut (l, d + 1, b, lo, gz, n0, s0, m_Folk_eldestBut, Po) 34 L (.int x :: r) hp')) := xVe _ _ _ _ _ _
theorem s_Folk_eldestBut_34 (x y : Int32) (C : xCx) (L r : List Value) (hp : xHp) : (xV k_Folk_eldestBut C 34 L (.int y :: .int x :: r) hp) = (((x ≤ y → xV k_Folk_eldestBut C 39 L r hp) ∧ (¬ x ≤ y → xV k_Folk_eldestBut C 37 L r hp))) := xVe _ _ _ _ _ _
theorem s_Folk_eldestBut_37 (C : xCx) (r : List Value) (hp : xHp) (x : Int32) (a0 a1 a2 : Value) : (xV k_Folk_eldestBut C 37 [a0, a1, a2, .int x] r hp) = (xV k_Folk_eldestBut C 38 [a0, a1, a2, .int x] (.int x :: r) hp) := xVe _ _ _ _ _ _
theorem s_Folk_eldestBut_38 (C : xCx) (r : List Value) (hp : xHp) (x : Int32) (a0 a1 a2 a3 : Value) : (xV k_Folk_eldestBut C 38 [a0, a1, a2, a3] (.int x :: r) hp) = (2 < 4 ∧ xNl [a0, a1, a2, a3] 2 ∧ xV k_Folk_eldestBut C 39 [a0, a1, .int x, a3] r hp) := xVe _ _ _ _ _ _
theorem s_Folk_eldestBut_39 (C : xCx) (r : List Value) (hp : xHp) (x : Int32) (a0 a1 a2 : Value) : (xV k_Folk_eldestBut C 39 [a0, a1, a2, .int x] r hp) = (xNl [a0, a1, a2, .int x] 3 ∧ xV k_Folk_eldestBut C 42 [a0, a1, a2, .int (x + (1))] r hp) := xVe _ _ _ _ _ _
theorem s_Folk_eldestBut_42 (C : xCx) (L r : List Value) (hp : xHp) : (xV k_Folk_eldestBut C 42 L r hp) = (xV k_Folk_eldestBut C 4 L r hp) := xVe _ _ _ _ _ _
theorem s_Folk_eldestBut_45 (C : xCx) (r : List Value) (hp : xHp) (x : Int32) (a0 a1 a3 : Value) : (xV k_Folk_eldestBut C 45 [a0, a1, .int x, a3] r hp) = (xV k_Folk_eldestBut C 46 [a0, a1, .int x, a3] (.int x :: r) hp) := xVe _ _ _ _ _ _
theorem s_Folk_eldestBut_46 (v : Int32) (l : Launch) (d b lo gz n0 s0 : Nat) (Po : Option Value → xHp → Prop) (L : List Value) (hp : xHp) : (xV k_Folk_eldestBut (l, d, b, lo, gz, n0, s0, m_Folk_eldestBut, Po) 46 L [.int v] hp) = (Po (some (.int v)) hp) := xVe _ _ _ _ _ _
theorem fl_Clues_28 : xFl "SunnyOnes$Clues" 28 2 3 := ⟨("SunnyOnes$Clues", F_Clues, 4), rfl, by decide, wg1 184 (by decide +kernel) rfl⟩
theorem ml_Clues_35 : xLk "SunnyOnes$Clues" 35 m_So_put := Or.inr ⟨"SunnyOnes", List.mem_of_getElem? (i := 18) (by decide +kernel)⟩
def k_Clues_add : List xEC := [
  (0, .aload_n 0, 1, 0, 0, 0, m_x),
  (1, .getfield 28, 4, 2, 3, 0, m_x),
  (4, .aload_n 0, 5, 0, 0, 0, m_x),
  (5, .getfield 24, 8, 2, 0, 0, m_x),
  (8, .if_icmp .lt 5, 11, 0, 13, 0, m_x),
  (11, .iconst 0, 12, 0, 0, 0, m_x),
  (12, .ireturn, 13, 0, 0, 0, m_x),
  (13, .aload_n 0, 14, 0, 0, 0, m_x),
  (14, .getfield 9, 17, 2, 1, 0, m_x),
  (17, .aload_n 0, 18, 0, 0, 0, m_x),
  (18, .getfield 28, 21, 2, 3, 0, m_x),
  (21, .iload_n 1, 22, 0, 0, 0, m_x),
  (22, .invokestatic 35, 25, 0, 0, 0, m_So_put),
  (25, .aload_n 0, 26, 0, 0, 0, m_x),
  (26, .getfield 15, 29, 2, 2, 0, m_x),
  (29, .aload_n 0, 30, 0, 0, 0, m_x),
  (30, .getfield 28, 33, 2, 3, 0, m_x),
  (33, .iload_n 2, 34, 0, 0, 0, m_x),
  (34, .invokestatic 35, 37, 0, 0, 0, m_So_put),
  (37, .aload_n 0, 38, 0, 0, 0, m_x),
  (38, .dup, 39, 0, 0, 0, m_x),
  (39, .getfield 28, 42, 2, 3, 0, m_x),
  (42, .iconst 1, 43, 0, 0, 0, m_x),
  (43, .iadd, 44, 0, 0, 0, m_x),
  (44, .putfield 28, 47, 2, 3, 0, m_x),
  (47, .iconst 1, 48, 0, 0, 0, m_x),
  (48, .ireturn, 49, 0, 0, 0, m_x)]
theorem dc_Clues_add : ∀ E ∈ k_Clues_add, xDc m_Clues_add E := by decide +kernel
set_option maxRecDepth 20000 in
theorem ok_Clues_add : ∀ E ∈ k_Clues_add, xOk m_Clues_add E := xok_of dc_Clues_add (xfc trivial (xfc fl_Clues_28 (xfc trivial (xfc fl_Clues_24 (xfc (show ((8 : Nat) : Int) + (5) = ((13 : Nat) : Int) from by decide) (xfc trivial (xfc trivial (xfc trivial (xfc fl_Clues_9 (xfc trivial (xfc fl_Clues_28 (xfc trivial (xfc ⟨ml_Clues_35, kd_So_put⟩ (xfc trivial (xfc fl_Clues_15 (xfc trivial (xfc fl_Clues_28 (xfc trivial (xfc ⟨ml_Clues_35, kd_So_put⟩ (xfc trivial (xfc trivial (xfc fl_Clues_28 (xfc trivial (xfc trivial (xfc ⟨fl_Clues_28, fun q h f => by cases h; exact absurd f (by decide)⟩ (xfc trivial (xfc trivial (xfn))))))))))))))))))))))))))))
theorem s_Clues_add_0 (C : xCx) (r : List Value) (hp : xHp) (x : Nat) (a1 a2 : Value) : (xV k_Clues_add C 0 [.ref x, a1, a2] r hp) = (True ∧ xV k_Clues_add C 1 [.ref x, a1, a2] (.ref x :: r) hp) := xVe _ _ _ _ _ _
theorem s_Clues_add_1 (a : Nat) (C : xCx) (L r : List Value) (hp : xHp) : (xV k_Clues_add C 1 L (.ref a :: r) hp) = (xF hp a 2 3 (fun v => xV k_Clues_add C 4 L (v :: r) hp)) := xVe _ _ _ _ _ _
theorem s_Clues_add_4 (C : xCx) (r : List Value) (hp : xHp) (x : Nat) (a1 a2 : Value) : (xV k_Clues_add C 4 [.ref x, a1, a2] r hp) = (True ∧ xV k_Clues_add C 5 [.ref x, a1, a2] (.ref x :: r) hp) := xVe _ _ _ _ _ _
theorem s_Clues_add_5 (a : Nat) (C : xCx) (L r : List Value) (hp : xHp) : (xV k_Clues_add C 5 L (.ref a :: r) hp) = (xF hp a 2 0 (fun v => xV k_Clues_add C 8 L (v :: r) hp)) := xVe _ _ _ _ _ _
theorem s_Clues_add_8 (x y : Int32) (C : xCx) (L r : List Value) (hp : xHp) : (xV k_Clues_add C 8 L (.int y :: .int x :: r) hp) = (((x < y → xV k_Clues_add C 13 L r hp) ∧ (¬ x < y → xV k_Clues_add C 11 L r hp))) := xVe _ _ _ _ _ _
theorem s_Clues_add_11  (C : xCx) (L r : List Value) (hp : xHp) : (xV k_Clues_add C 11 L (r) hp) = (xV k_Clues_add C 12 L (.int (0) :: r) hp) := xVe _ _ _ _ _ _
theorem s_Clues_add_12 (v : Int32) (l : Launch) (d b lo gz n0 s0 : Nat) (Po : Option Value → xHp → Prop) (L : List Value) (hp : xHp) : (xV k_Clues_add (l, d, b, lo, gz, n0, s0, m_Clues_add, Po) 12 L [.int v] hp) = ((v = 0 ∨ v = 1) ∧ Po (some (.int v)) hp) := xVe _ _ _ _ _ _
theorem s_Clues_add_13 (C : xCx) (r : List Value) (hp : xHp) (x : Nat) (a1 a2 : Value) : (xV k_Clues_add C 13 [.ref x, a1, a2] r hp) = (True ∧ xV k_Clues_add C 14 [.ref x, a1, a2] (.ref x :: r) hp) := xVe _ _ _ _ _ _
theorem s_Clues_add_14 (a : Nat) (C : xCx) (L r : List Value) (hp : xHp) : (xV k_Clues_add C 14 L (.ref a :: r) hp) = (xF hp a 2 1 (fun v => xV k_Clues_add C 17 L (v :: r) hp)) := xVe _ _ _ _ _ _
theorem s_Clues_add_17 (C : xCx) (r : List Value) (hp : xHp) (x : Nat) (a1 a2 : Value) : (xV k_Clues_add C 17 [.ref x, a1, a2] r hp) = (True ∧ xV k_Clues_add C 18 [.ref x, a1, a2] (.ref x :: r) hp) := xVe _ _ _ _ _ _
theorem s_Clues_add_18 (a : Nat) (C : xCx) (L r : List Value) (hp : xHp) : (xV k_Clues_add C 18 L (.ref a :: r) hp) = (xF hp a 2 3 (fun v => xV k_Clues_add C 21 L (v :: r) hp)) := xVe _ _ _ _ _ _
theorem s_Clues_add_21 (C : xCx) (r : List Value) (hp : xHp) (x : Int32) (a0 a2 : Value) : (xV k_Clues_add C 21 [a0, .int x, a2] r hp) = (xV k_Clues_add C 22 [a0, .int x, a2] (.int x :: r) hp) := xVe _ _ _ _ _ _
theorem s_Clues_add_22 (x0 : Nat) (x1 : Int32) (x2 : Int32) (l : Launch) (d b lo gz n0 s0 : Nat) (Po : Option Value → xHp → Prop) (L r : List Value) (hp : xHp) : (xV k_Clues_add (l, d + 1, b, lo, gz, n0, s0, m_Clues_add, Po) 22 L (.int x2 :: .int x1 :: .ref x0 :: r) hp) = (3 ≤ List.length (.int x2 :: .int x1 :: .ref x0 :: r) ∧ xcs r 8 ∧ xMv l d b lo gz m_So_put [.ref x0, .int x1, .int x2] hp (fun hp' => xV k_Clues_add (l, d + 1, b, lo, gz, n0, s0, m_Clues_add, Po) 25 L r hp')) := xVe _ _ _ _ _ _
theorem s_Clues_add_25 (C : xCx) (r : List Value) (hp : xHp) (x : Nat) (a1 a2 : Value) : (xV k_Clues_add C 25 [.ref x, a1, a2] r hp) = (True ∧ xV k_Clues_add C 26 [.ref x, a1, a2] (.ref x :: r) hp) := xVe _ _ _ _ _ _
theorem s_Clues_add_26 (a : Nat) (C : xCx) (L r : List Value) (hp : xHp) : (xV k_Clues_add C 26 L (.ref a :: r) hp) = (xF hp a 2 2 (fun v => xV k_Clues_add C 29 L (v :: r) hp)) := xVe _ _ _ _ _ _
theorem s_Clues_add_29 (C : xCx) (r : List Value) (hp : xHp) (x : Nat) (a1 a2 : Value) : (xV k_Clues_add C 29 [.ref x, a1, a2] r hp) = (True ∧ xV k_Clues_add C 30 [.ref x, a1, a2] (.ref x :: r) hp) := xVe _ _ _ _ _ _
theorem s_Clues_add_30 (a : Nat) (C : xCx) (L r : List Value) (hp : xHp) : (xV k_Clues_add C 30 L (.ref a :: r) hp) = (xF hp a 2 3 (fun v => xV k_Clues_add C 33 L (v :: r) hp)) := xVe _ _ _ _ _ _
theorem s_Clues_add_33 (C : xCx) (r : List Value) (hp : xHp) (x : Int32) (a0 a1 : Value) : (xV k_Clues_add C 33 [a0, a1, .int x] r hp) = (xV k_Clues_add C 34 [a0, a1, .int x] (.int x :: r) hp) := xVe _ _ _ _ _ _
theorem s_Clues_add_34 (x0 : Nat) (x1 : Int32) (x2 : Int32) (l : Launch) (d b lo gz n0 s0 : Nat) (Po : Option Value → xHp → Prop) (L r : List Value) (hp : xHp) : (xV k_Clues_add (l, d + 1, b, lo, gz, n0, s0, m_Clues_add, Po) 34 L (.int x2 :: .int x1 :: .ref x0 :: r) hp) = (3 ≤ List.length (.int x2 :: .int x1 :: .ref x0 :: r) ∧ xcs r 8 ∧ xMv l d b lo gz m_So_put [.ref x0, .int x1, .int x2] hp (fun hp' => xV k_Clues_add (l, d + 1, b, lo, gz, n0, s0, m_Clues_add, Po) 37 L r hp')) := xVe _ _ _ _ _ _
theorem s_Clues_add_37 (C : xCx) (r : List Value) (hp : xHp) (x : Nat) (a1 a2 : Value) : (xV k_Clues_add C 37 [.ref x, a1, a2] r hp) = (True ∧ xV k_Clues_add C 38 [.ref x, a1, a2] (.ref x :: r) hp) := xVe _ _ _ _ _ _
theorem s_Clues_add_38 (v : Value) (C : xCx) (L r : List Value) (hp : xHp) : (xV k_Clues_add C 38 L (v :: r) hp) = (v.category = 1 ∧ xV k_Clues_add C 39 L (v :: v :: r) hp) := xVe _ _ _ _ _ _
theorem s_Clues_add_39 (a : Nat) (C : xCx) (L r : List Value) (hp : xHp) : (xV k_Clues_add C 39 L (.ref a :: r) hp) = (xF hp a 2 3 (fun v => xV k_Clues_add C 42 L (v :: r) hp)) := xVe _ _ _ _ _ _
theorem s_Clues_add_42  (C : xCx) (L r : List Value) (hp : xHp) : (xV k_Clues_add C 42 L (r) hp) = (xV k_Clues_add C 43 L (.int (1) :: r) hp) := xVe _ _ _ _ _ _
theorem s_Clues_add_43 (x y : Int32) (C : xCx) (L r : List Value) (hp : xHp) : (xV k_Clues_add C 43 L (.int y :: .int x :: r) hp) = (xV k_Clues_add C 44 L (.int (x + y) :: r) hp) := xVe _ _ _ _ _ _
theorem s_Clues_add_44 (x : Int32) (a : Nat) (C : xCx) (L r : List Value) (hp : xHp) : (xV k_Clues_add C 44 L (.int x :: .ref a :: r) hp) = (True ∧ xPf hp a 2 3 (.int x) (fun hp' => xV k_Clues_add C 47 L r hp')) := xVe _ _ _ _ _ _
theorem s_Clues_add_47  (C : xCx) (L r : List Value) (hp : xHp) : (xV k_Clues_add C 47 L (r) hp) = (xV k_Clues_add C 48 L (.int (1) :: r) hp) := xVe _ _ _ _ _ _
theorem s_Clues_add_48 (v : Int32) (l : Launch) (d b lo gz n0 s0 : Nat) (Po : Option Value → xHp → Prop) (L : List Value) (hp : xHp) : (xV k_Clues_add (l, d, b, lo, gz, n0, s0, m_Clues_add, Po) 48 L [.int v] hp) = ((v = 0 ∨ v = 1) ∧ Po (some (.int v)) hp) := xVe _ _ _ _ _ _
def k_Clues_size : List xEC := [
  (0, .aload_n 0, 1, 0, 0, 0, m_x),
  (1, .getfield 28, 4, 2, 3, 0, m_x),
  (4, .ireturn, 5, 0, 0, 0, m_x)]
theorem dc_Clues_size : ∀ E ∈ k_Clues_size, xDc m_Clues_size E := by decide +kernel
set_option maxRecDepth 20000 in
theorem ok_Clues_size : ∀ E ∈ k_Clues_size, xOk m_Clues_size E := xok_of dc_Clues_size (xfc trivial (xfc fl_Clues_28 (xfc trivial (xfn))))
theorem s_Clues_size_0 (C : xCx) (r : List Value) (hp : xHp) (x : Nat) : (xV k_Clues_size C 0 [.ref x] r hp) = (True ∧ xV k_Clues_size C 1 [.ref x] (.ref x :: r) hp) := xVe _ _ _ _ _ _
theorem s_Clues_size_1 (a : Nat) (C : xCx) (L r : List Value) (hp : xHp) : (xV k_Clues_size C 1 L (.ref a :: r) hp) = (xF hp a 2 3 (fun v => xV k_Clues_size C 4 L (v :: r) hp)) := xVe _ _ _ _ _ _
theorem s_Clues_size_4 (v : Int32) (l : Launch) (d b lo gz n0 s0 : Nat) (Po : Option Value → xHp → Prop) (L : List Value) (hp : xHp) : (xV k_Clues_size (l, d, b, lo, gz, n0, s0, m_Clues_size, Po) 4 L [.int v] hp) = (Po (some (.int v)) hp) := xVe _ _ _ _ _ _
def k_Clues_clear : List xEC := [
  (0, .aload_n 0, 1, 0, 0, 0, m_x),
  (1, .getfield 28, 4, 2, 3, 0, m_x),
  (4, .istore_n 1, 5, 0, 0, 0, m_x),
  (5, .aload_n 0, 6, 0, 0, 0, m_x),
  (6, .iconst 0, 7, 0, 0, 0, m_x),
  (7, .putfield 28, 10, 2, 3, 0, m_x),
  (10, .iload_n 1, 11, 0, 0, 0, m_x),
  (11, .ireturn, 12, 0, 0, 0, m_x)]
theorem dc_Clues_clear : ∀ E ∈ k_Clues_clear, xDc m_Clues_clear E := by decide +kernel
set_option maxRecDepth 20000 in
theorem ok_Clues_clear : ∀ E ∈ k_Clues_clear, xOk m_Clues_clear E := xok_of dc_Clues_clear (xfc trivial (xfc fl_Clues_28 (xfc trivial (xfc trivial (xfc trivial (xfc ⟨fl_Clues_28, fun q h f => by cases h; exact absurd f (by decide)⟩ (xfc trivial (xfc trivial (xfn)))))))))
theorem s_Clues_clear_0 (C : xCx) (r : List Value) (hp : xHp) (x : Nat) (a1 : Value) : (xV k_Clues_clear C 0 [.ref x, a1] r hp) = (True ∧ xV k_Clues_clear C 1 [.ref x, a1] (.ref x :: r) hp) := xVe _ _ _ _ _ _
theorem s_Clues_clear_1 (a : Nat) (C : xCx) (L r : List Value) (hp : xHp) : (xV k_Clues_clear C 1 L (.ref a :: r) hp) = (xF hp a 2 3 (fun v => xV k_Clues_clear C 4 L (v :: r) hp)) := xVe _ _ _ _ _ _
theorem s_Clues_clear_4 (C : xCx) (r : List Value) (hp : xHp) (x : Int32) (a0 a1 : Value) : (xV k_Clues_clear C 4 [a0, a1] (.int x :: r) hp) = (1 < 2 ∧ xNl [a0, a1] 1 ∧ xV k_Clues_clear C 5 [a0, .int x] r hp) := xVe _ _ _ _ _ _
theorem s_Clues_clear_5 (C : xCx) (r : List Value) (hp : xHp) (x : Nat) (a1 : Value) : (xV k_Clues_clear C 5 [.ref x, a1] r hp) = (True ∧ xV k_Clues_clear C 6 [.ref x, a1] (.ref x :: r) hp) := xVe _ _ _ _ _ _
theorem s_Clues_clear_6  (C : xCx) (L r : List Value) (hp : xHp) : (xV k_Clues_clear C 6 L (r) hp) = (xV k_Clues_clear C 7 L (.int (0) :: r) hp) := xVe _ _ _ _ _ _
theorem s_Clues_clear_7 (x : Int32) (a : Nat) (C : xCx) (L r : List Value) (hp : xHp) : (xV k_Clues_clear C 7 L (.int x :: .ref a :: r) hp) = (True ∧ xPf hp a 2 3 (.int x) (fun hp' => xV k_Clues_clear C 10 L r hp')) := xVe _ _ _ _ _ _
theorem s_Clues_clear_10 (C : xCx) (r : List Value) (hp : xHp) (x : Int32) (a0 : Value) : (xV k_Clues_clear C 10 [a0, .int x] r hp) = (xV k_Clues_clear C 11 [a0, .int x] (.int x :: r) hp) := xVe _ _ _ _ _ _
theorem s_Clues_clear_11 (v : Int32) (l : Launch) (d b lo gz n0 s0 : Nat) (Po : Option Value → xHp → Prop) (L : List Value) (hp : xHp) : (xV k_Clues_clear (l, d, b, lo, gz, n0, s0, m_Clues_clear, Po) 11 L [.int v] hp) = (Po (some (.int v)) hp) := xVe _ _ _ _ _ _
theorem ml_Clues_31 : xLk "SunnyOnes$Clues" 31 m_So_at := Or.inr ⟨"SunnyOnes", List.mem_of_getElem? (i := 19) (by decide +kernel)⟩
def k_Clues_first : List xEC := [
  (0, .aload_n 0, 1, 0, 0, 0, m_x),
  (1, .getfield 9, 4, 2, 1, 0, m_x),
  (4, .iload_n 1, 5, 0, 0, 0, m_x),
  (5, .invokestatic 31, 8, 0, 0, 0, m_So_at),
  (8, .ireturn, 9, 0, 0, 0, m_x)]
theorem dc_Clues_first : ∀ E ∈ k_Clues_first, xDc m_Clues_first E := by decide +kernel
set_option maxRecDepth 20000 in
theorem ok_Clues_first : ∀ E ∈ k_Clues_first, xOk m_Clues_first E := xok_of dc_Clues_first (xfc trivial (xfc fl_Clues_9 (xfc trivial (xfc ⟨ml_Clues_31, kd_So_at⟩ (xfc trivial (xfn))))))
theorem s_Clues_first_0 (C : xCx) (r : List Value) (hp : xHp) (x : Nat) (a1 : Value) : (xV k_Clues_first C 0 [.ref x, a1] r hp) = (True ∧ xV k_Clues_first C 1 [.ref x, a1] (.ref x :: r) hp) := xVe _ _ _ _ _ _
theorem s_Clues_first_1 (a : Nat) (C : xCx) (L r : List Value) (hp : xHp) : (xV k_Clues_first C 1 L (.ref a :: r) hp) = (xF hp a 2 1 (fun v => xV k_Clues_first C 4 L (v :: r) hp)) := xVe _ _ _ _ _ _
theorem s_Clues_first_4 (C : xCx) (r : List Value) (hp : xHp) (x : Int32) (a0 : Value) : (xV k_Clues_first C 4 [a0, .int x] r hp) = (xV k_Clues_first C 5 [a0, .int x] (.int x :: r) hp) := xVe _ _ _ _ _ _
theorem s_Clues_first_5 (x0 : Nat) (x1 : Int32) (l : Launch) (d b lo gz n0 s0 : Nat) (Po : Option Value → xHp → Prop) (L r : List Value) (hp : xHp) : (xV k_Clues_first (l, d + 1, b, lo, gz, n0, s0, m_Clues_first, Po) 5 L (.int x1 :: .ref x0 :: r) hp) = (2 ≤ List.length (.int x1 :: .ref x0 :: r) ∧ xcs r 8 ∧ xMi l d b lo gz m_So_at [.ref x0, .int x1] hp (fun x hp' => xV k_Clues_first (l, d + 1, b, lo, gz, n0, s0, m_Clues_first, Po) 8 L (.int x :: r) hp')) := xVe _ _ _ _ _ _
theorem s_Clues_first_8 (v : Int32) (l : Launch) (d b lo gz n0 s0 : Nat) (Po : Option Value → xHp → Prop) (L : List Value) (hp : xHp) : (xV k_Clues_first (l, d, b, lo, gz, n0, s0, m_Clues_first, Po) 8 L [.int v] hp) = (Po (some (.int v)) hp) := xVe _ _ _ _ _ _
def k_Clues_second : List xEC := [
  (0, .aload_n 0, 1, 0, 0, 0, m_x),
  (1, .getfield 15, 4, 2, 2, 0, m_x),
  (4, .iload_n 1, 5, 0, 0, 0, m_x),
  (5, .invokestatic 31, 8, 0, 0, 0, m_So_at),
  (8, .ireturn, 9, 0, 0, 0, m_x)]
theorem dc_Clues_second : ∀ E ∈ k_Clues_second, xDc m_Clues_second E := by decide +kernel
set_option maxRecDepth 20000 in
theorem ok_Clues_second : ∀ E ∈ k_Clues_second, xOk m_Clues_second E := xok_of dc_Clues_second (xfc trivial (xfc fl_Clues_15 (xfc trivial (xfc ⟨ml_Clues_31, kd_So_at⟩ (xfc trivial (xfn))))))
theorem s_Clues_second_0 (C : xCx) (r : List Value) (hp : xHp) (x : Nat) (a1 : Value) : (xV k_Clues_second C 0 [.ref x, a1] r hp) = (True ∧ xV k_Clues_second C 1 [.ref x, a1] (.ref x :: r) hp) := xVe _ _ _ _ _ _
theorem s_Clues_second_1 (a : Nat) (C : xCx) (L r : List Value) (hp : xHp) : (xV k_Clues_second C 1 L (.ref a :: r) hp) = (xF hp a 2 2 (fun v => xV k_Clues_second C 4 L (v :: r) hp)) := xVe _ _ _ _ _ _
theorem s_Clues_second_4 (C : xCx) (r : List Value) (hp : xHp) (x : Int32) (a0 : Value) : (xV k_Clues_second C 4 [a0, .int x] r hp) = (xV k_Clues_second C 5 [a0, .int x] (.int x :: r) hp) := xVe _ _ _ _ _ _
theorem s_Clues_second_5 (x0 : Nat) (x1 : Int32) (l : Launch) (d b lo gz n0 s0 : Nat) (Po : Option Value → xHp → Prop) (L r : List Value) (hp : xHp) : (xV k_Clues_second (l, d + 1, b, lo, gz, n0, s0, m_Clues_second, Po) 5 L (.int x1 :: .ref x0 :: r) hp) = (2 ≤ List.length (.int x1 :: .ref x0 :: r) ∧ xcs r 8 ∧ xMi l d b lo gz m_So_at [.ref x0, .int x1] hp (fun x hp' => xV k_Clues_second (l, d + 1, b, lo, gz, n0, s0, m_Clues_second, Po) 8 L (.int x :: r) hp')) := xVe _ _ _ _ _ _
theorem s_Clues_second_8 (v : Int32) (l : Launch) (d b lo gz n0 s0 : Nat) (Po : Option Value → xHp → Prop) (L : List Value) (hp : xHp) : (xV k_Clues_second (l, d, b, lo, gz, n0, s0, m_Clues_second, Po) 8 L [.int v] hp) = (Po (some (.int v)) hp) := xVe _ _ _ _ _ _
def k_Integer_bitCount : List xEC := [
  (0, .iload_n 0, 1, 0, 0, 0, m_x),
  (1, .iload_n 0, 2, 0, 0, 0, m_x),
  (2, .iconst 1, 3, 0, 0, 0, m_x),
  (3, .iushr, 4, 0, 0, 0, m_x),
  (4, .ldc_w 265, 7, 0, 0, (1431655765), m_x),
  (7, .iand, 8, 0, 0, 0, m_x),
  (8, .isub, 9, 0, 0, 0, m_x),
  (9, .istore_n 0, 10, 0, 0, 0, m_x),
  (10, .iload_n 0, 11, 0, 0, 0, m_x),
  (11, .ldc_w 266, 14, 0, 0, (858993459), m_x),
  (14, .iand, 15, 0, 0, 0, m_x),
  (15, .iload_n 0, 16, 0, 0, 0, m_x),
  (16, .iconst 2, 17, 0, 0, 0, m_x),
  (17, .iushr, 18, 0, 0, 0, m_x),
  (18, .ldc_w 266, 21, 0, 0, (858993459), m_x),
  (21, .iand, 22, 0, 0, 0, m_x),
  (22, .iadd, 23, 0, 0, 0, m_x),
  (23, .istore_n 0, 24, 0, 0, 0, m_x),
  (24, .iload_n 0, 25, 0, 0, 0, m_x),
  (25, .iload_n 0, 26, 0, 0, 0, m_x),
  (26, .iconst 4, 27, 0, 0, 0, m_x),
  (27, .iushr, 28, 0, 0, 0, m_x),
  (28, .iadd, 29, 0, 0, 0, m_x),
  (29, .ldc_w 267, 32, 0, 0, (252645135), m_x),
  (32, .iand, 33, 0, 0, 0, m_x),
  (33, .istore_n 0, 34, 0, 0, 0, m_x),
  (34, .iload_n 0, 35, 0, 0, 0, m_x),
  (35, .iload_n 0, 36, 0, 0, 0, m_x),
  (36, .bipush 8, 38, 0, 0, 0, m_x),
  (38, .iushr, 39, 0, 0, 0, m_x),
  (39, .iadd, 40, 0, 0, 0, m_x),
  (40, .istore_n 0, 41, 0, 0, 0, m_x),
  (41, .iload_n 0, 42, 0, 0, 0, m_x),
  (42, .iload_n 0, 43, 0, 0, 0, m_x),
  (43, .bipush 16, 45, 0, 0, 0, m_x),
  (45, .iushr, 46, 0, 0, 0, m_x),
  (46, .iadd, 47, 0, 0, 0, m_x),
  (47, .istore_n 0, 48, 0, 0, 0, m_x),
  (48, .iload_n 0, 49, 0, 0, 0, m_x),
  (49, .bipush 63, 51, 0, 0, 0, m_x),
  (51, .iand, 52, 0, 0, 0, m_x),
  (52, .ireturn, 53, 0, 0, 0, m_x)]
theorem dc_Integer_bitCount : ∀ E ∈ k_Integer_bitCount, xDc m_Integer_bitCount E := by decide +kernel
set_option maxRecDepth 20000 in
theorem ok_Integer_bitCount : ∀ E ∈ k_Integer_bitCount, xOk m_Integer_bitCount E := xok_of dc_Integer_bitCount (xfc trivial (xfc trivial (xfc trivial (xfc trivial (xfc (wg4 205 (by decide +kernel) rfl) (xfc trivial (xfc trivial (xfc trivial (xfc trivial (xfc (wg4 206 (by decide +kernel) rfl) (xfc trivial (xfc trivial (xfc trivial (xfc trivial (xfc (wg4 206 (by decide +kernel) rfl) (xfc trivial (xfc trivial (xfc trivial (xfc trivial (xfc trivial (xfc trivial (xfc trivial (xfc trivial (xfc (wg4 207 (by decide +kernel) rfl) (xfc trivial (xfc trivial (xfc trivial (xfc trivial (xfc trivial (xfc trivial (xfc trivial (xfc trivial (xfc trivial (xfc trivial (xfc trivial (xfc trivial (xfc trivial (xfc trivial (xfc trivial (xfc trivial (xfc trivial (xfc trivial (xfn)))))))))))))))))))))))))))))))))))))))))))
theorem s_Integer_bitCount_0 (C : xCx) (r : List Value) (hp : xHp) (x : Int32) : (xV k_Integer_bitCount C 0 [.int x] r hp) = (xV k_Integer_bitCount C 1 [.int x] (.int x :: r) hp) := xVe _ _ _ _ _ _
theorem s_Integer_bitCount_1 (C : xCx) (r : List Value) (hp : xHp) (x : Int32) : (xV k_Integer_bitCount C 1 [.int x] r hp) = (xV k_Integer_bitCount C 2 [.int x] (.int x :: r) hp) := xVe _ _ _ _ _ _
theorem s_Integer_bitCount_2  (C : xCx) (L r : List Value) (hp : xHp) : (xV k_Integer_bitCount C 2 L (r) hp) = (xV k_Integer_bitCount C 3 L (.int (1) :: r) hp) := xVe _ _ _ _ _ _
theorem s_Integer_bitCount_3 (x y : Int32) (C : xCx) (L r : List Value) (hp : xHp) : (xV k_Integer_bitCount C 3 L (.int y :: .int x :: r) hp) = (xV k_Integer_bitCount C 4 L (.int ((x.toUInt32 >>> (y.toUInt32 &&& Int32.toUInt32 31)).toInt32) :: r) hp) := xVe _ _ _ _ _ _
theorem s_Integer_bitCount_4  (C : xCx) (L r : List Value) (hp : xHp) : (xV k_Integer_bitCount C 4 L (r) hp) = (xV k_Integer_bitCount C 7 L (.int (1431655765) :: r) hp) := xVe _ _ _ _ _ _
theorem s_Integer_bitCount_7 (x y : Int32) (C : xCx) (L r : List Value) (hp : xHp) : (xV k_Integer_bitCount C 7 L (.int y :: .int x :: r) hp) = (xV k_Integer_bitCount C 8 L (.int (x &&& y) :: r) hp) := xVe _ _ _ _ _ _
theorem s_Integer_bitCount_8 (x y : Int32) (C : xCx) (L r : List Value) (hp : xHp) : (xV k_Integer_bitCount C 8 L (.int y :: .int x :: r) hp) = (xV k_Integer_bitCount C 9 L (.int (x - y) :: r) hp) := xVe _ _ _ _ _ _
theorem s_Integer_bitCount_9 (C : xCx) (r : List Value) (hp : xHp) (x : Int32) (a0 : Value) : (xV k_Integer_bitCount C 9 [a0] (.int x :: r) hp) = (0 < 1 ∧ xNl [a0] 0 ∧ xV k_Integer_bitCount C 10 [.int x] r hp) := xVe _ _ _ _ _ _
theorem s_Integer_bitCount_10 (C : xCx) (r : List Value) (hp : xHp) (x : Int32) : (xV k_Integer_bitCount C 10 [.int x] r hp) = (xV k_Integer_bitCount C 11 [.int x] (.int x :: r) hp) := xVe _ _ _ _ _ _
theorem s_Integer_bitCount_11  (C : xCx) (L r : List Value) (hp : xHp) : (xV k_Integer_bitCount C 11 L (r) hp) = (xV k_Integer_bitCount C 14 L (.int (858993459) :: r) hp) := xVe _ _ _ _ _ _
theorem s_Integer_bitCount_14 (x y : Int32) (C : xCx) (L r : List Value) (hp : xHp) : (xV k_Integer_bitCount C 14 L (.int y :: .int x :: r) hp) = (xV k_Integer_bitCount C 15 L (.int (x &&& y) :: r) hp) := xVe _ _ _ _ _ _
theorem s_Integer_bitCount_15 (C : xCx) (r : List Value) (hp : xHp) (x : Int32) : (xV k_Integer_bitCount C 15 [.int x] r hp) = (xV k_Integer_bitCount C 16 [.int x] (.int x :: r) hp) := xVe _ _ _ _ _ _
theorem s_Integer_bitCount_16  (C : xCx) (L r : List Value) (hp : xHp) : (xV k_Integer_bitCount C 16 L (r) hp) = (xV k_Integer_bitCount C 17 L (.int (2) :: r) hp) := xVe _ _ _ _ _ _
theorem s_Integer_bitCount_17 (x y : Int32) (C : xCx) (L r : List Value) (hp : xHp) : (xV k_Integer_bitCount C 17 L (.int y :: .int x :: r) hp) = (xV k_Integer_bitCount C 18 L (.int ((x.toUInt32 >>> (y.toUInt32 &&& Int32.toUInt32 31)).toInt32) :: r) hp) := xVe _ _ _ _ _ _
theorem s_Integer_bitCount_18  (C : xCx) (L r : List Value) (hp : xHp) : (xV k_Integer_bitCount C 18 L (r) hp) = (xV k_Integer_bitCount C 21 L (.int (858993459) :: r) hp) := xVe _ _ _ _ _ _
theorem s_Integer_bitCount_21 (x y : Int32) (C : xCx) (L r : List Value) (hp : xHp) : (xV k_Integer_bitCount C 21 L (.int y :: .int x :: r) hp) = (xV k_Integer_bitCount C 22 L (.int (x &&& y) :: r) hp) := xVe _ _ _ _ _ _
theorem s_Integer_bitCount_22 (x y : Int32) (C : xCx) (L r : List Value) (hp : xHp) : (xV k_Integer_bitCount C 22 L (.int y :: .int x :: r) hp) = (xV k_Integer_bitCount C 23 L (.int (x + y) :: r) hp) := xVe _ _ _ _ _ _
theorem s_Integer_bitCount_23 (C : xCx) (r : List Value) (hp : xHp) (x : Int32) (a0 : Value) : (xV k_Integer_bitCount C 23 [a0] (.int x :: r) hp) = (0 < 1 ∧ xNl [a0] 0 ∧ xV k_Integer_bitCount C 24 [.int x] r hp) := xVe _ _ _ _ _ _
theorem s_Integer_bitCount_24 (C : xCx) (r : List Value) (hp : xHp) (x : Int32) : (xV k_Integer_bitCount C 24 [.int x] r hp) = (xV k_Integer_bitCount C 25 [.int x] (.int x :: r) hp) := xVe _ _ _ _ _ _
theorem s_Integer_bitCount_25 (C : xCx) (r : List Value) (hp : xHp) (x : Int32) : (xV k_Integer_bitCount C 25 [.int x] r hp) = (xV k_Integer_bitCount C 26 [.int x] (.int x :: r) hp) := xVe _ _ _ _ _ _
theorem s_Integer_bitCount_26  (C : xCx) (L r : List Value) (hp : xHp) : (xV k_Integer_bitCount C 26 L (r) hp) = (xV k_Integer_bitCount C 27 L (.int (4) :: r) hp) := xVe _ _ _ _ _ _
theorem s_Integer_bitCount_27 (x y : Int32) (C : xCx) (L r : List Value) (hp : xHp) : (xV k_Integer_bitCount C 27 L (.int y :: .int x :: r) hp) = (xV k_Integer_bitCount C 28 L (.int ((x.toUInt32 >>> (y.toUInt32 &&& Int32.toUInt32 31)).toInt32) :: r) hp) := xVe _ _ _ _ _ _
theorem s_Integer_bitCount_28 (x y : Int32) (C : xCx) (L r : List Value) (hp : xHp) : (xV k_Integer_bitCount C 28 L (.int y :: .int x :: r) hp) = (xV k_Integer_bitCount C 29 L (.int (x + y) :: r) hp) := xVe _ _ _ _ _ _
theorem s_Integer_bitCount_29  (C : xCx) (L r : List Value) (hp : xHp) : (xV k_Integer_bitCount C 29 L (r) hp) = (xV k_Integer_bitCount C 32 L (.int (252645135) :: r) hp) := xVe _ _ _ _ _ _
theorem s_Integer_bitCount_32 (x y : Int32) (C : xCx) (L r : List Value) (hp : xHp) : (xV k_Integer_bitCount C 32 L (.int y :: .int x :: r) hp) = (xV k_Integer_bitCount C 33 L (.int (x &&& y) :: r) hp) := xVe _ _ _ _ _ _
theorem s_Integer_bitCount_33 (C : xCx) (r : List Value) (hp : xHp) (x : Int32) (a0 : Value) : (xV k_Integer_bitCount C 33 [a0] (.int x :: r) hp) = (0 < 1 ∧ xNl [a0] 0 ∧ xV k_Integer_bitCount C 34 [.int x] r hp) := xVe _ _ _ _ _ _
theorem s_Integer_bitCount_34 (C : xCx) (r : List Value) (hp : xHp) (x : Int32) : (xV k_Integer_bitCount C 34 [.int x] r hp) = (xV k_Integer_bitCount C 35 [.int x] (.int x :: r) hp) := xVe _ _ _ _ _ _
theorem s_Integer_bitCount_35 (C : xCx) (r : List Value) (hp : xHp) (x : Int32) : (xV k_Integer_bitCount C 35 [.int x] r hp) = (xV k_Integer_bitCount C 36 [.int x] (.int x :: r) hp) := xVe _ _ _ _ _ _
theorem s_Integer_bitCount_36  (C : xCx) (L r : List Value) (hp : xHp) : (xV k_Integer_bitCount C 36 L (r) hp) = (xV k_Integer_bitCount C 38 L (.int (8) :: r) hp) := xVe _ _ _ _ _ _
theorem s_Integer_bitCount_38 (x y : Int32) (C : xCx) (L r : List Value) (hp : xHp) : (xV k_Integer_bitCount C 38 L (.int y :: .int x :: r) hp) = (xV k_Integer_bitCount C 39 L (.int ((x.toUInt32 >>> (y.toUInt32 &&& Int32.toUInt32 31)).toInt32) :: r) hp) := xVe _ _ _ _ _ _
theorem s_Integer_bitCount_39 (x y : Int32) (C : xCx) (L r : List Value) (hp : xHp) : (xV k_Integer_bitCount C 39 L (.int y :: .int x :: r) hp) = (xV k_Integer_bitCount C 40 L (.int (x + y) :: r) hp) := xVe _ _ _ _ _ _
theorem s_Integer_bitCount_40 (C : xCx) (r : List Value) (hp : xHp) (x : Int32) (a0 : Value) : (xV k_Integer_bitCount C 40 [a0] (.int x :: r) hp) = (0 < 1 ∧ xNl [a0] 0 ∧ xV k_Integer_bitCount C 41 [.int x] r hp) := xVe _ _ _ _ _ _
theorem s_Integer_bitCount_41 (C : xCx) (r : List Value) (hp : xHp) (x : Int32) : (xV k_Integer_bitCount C 41 [.int x] r hp) = (xV k_Integer_bitCount C 42 [.int x] (.int x :: r) hp) := xVe _ _ _ _ _ _
theorem s_Integer_bitCount_42 (C : xCx) (r : List Value) (hp : xHp) (x : Int32) : (xV k_Integer_bitCount C 42 [.int x] r hp) = (xV k_Integer_bitCount C 43 [.int x] (.int x :: r) hp) := xVe _ _ _ _ _ _
theorem s_Integer_bitCount_43  (C : xCx) (L r : List Value) (hp : xHp) : (xV k_Integer_bitCount C 43 L (r) hp) = (xV k_Integer_bitCount C 45 L (.int (16) :: r) hp) := xVe _ _ _ _ _ _
theorem s_Integer_bitCount_45 (x y : Int32) (C : xCx) (L r : List Value) (hp : xHp) : (xV k_Integer_bitCount C 45 L (.int y :: .int x :: r) hp) = (xV k_Integer_bitCount C 46 L (.int ((x.toUInt32 >>> (y.toUInt32 &&& Int32.toUInt32 31)).toInt32) :: r) hp) := xVe _ _ _ _ _ _
theorem s_Integer_bitCount_46 (x y : Int32) (C : xCx) (L r : List Value) (hp : xHp) : (xV k_Integer_bitCount C 46 L (.int y :: .int x :: r) hp) = (xV k_Integer_bitCount C 47 L (.int (x + y) :: r) hp) := xVe _ _ _ _ _ _
theorem s_Integer_bitCount_47 (C : xCx) (r : List Value) (hp : xHp) (x : Int32) (a0 : Value) : (xV k_Integer_bitCount C 47 [a0] (.int x :: r) hp) = (0 < 1 ∧ xNl [a0] 0 ∧ xV k_Integer_bitCount C 48 [.int x] r hp) := xVe _ _ _ _ _ _
theorem s_Integer_bitCount_48 (C : xCx) (r : List Value) (hp : xHp) (x : Int32) : (xV k_Integer_bitCount C 48 [.int x] r hp) = (xV k_Integer_bitCount C 49 [.int x] (.int x :: r) hp) := xVe _ _ _ _ _ _
theorem s_Integer_bitCount_49  (C : xCx) (L r : List Value) (hp : xHp) : (xV k_Integer_bitCount C 49 L (r) hp) = (xV k_Integer_bitCount C 51 L (.int (63) :: r) hp) := xVe _ _ _ _ _ _
theorem s_Integer_bitCount_51 (x y : Int32) (C : xCx) (L r : List Value) (hp : xHp) : (xV k_Integer_bitCount C 51 L (.int y :: .int x :: r) hp) = (xV k_Integer_bitCount C 52 L (.int (x &&& y) :: r) hp) := xVe _ _ _ _ _ _
theorem s_Integer_bitCount_52 (v : Int32) (l : Launch) (d b lo gz n0 s0 : Nat) (Po : Option Value → xHp → Prop) (L : List Value) (hp : xHp) : (xV k_Integer_bitCount (l, d, b, lo, gz, n0, s0, m_Integer_bitCount, Po) 52 L [.int v] hp) = (Po (some (.int v)) hp) := xVe _ _ _ _ _ _
def k_Past_shelve : List xEC := [
  (0, .aload_n 0, 1, 0, 0, 0, m_x),
  (1, .getfield 15, 4, 5, 1, 0, m_x),
  (4, .iload_n 1, 5, 0, 0, 0, m_x),
  (5, .invokestatic 30, 8, 0, 0, 0, m_Past_pick),
  (8, .astore_n 3, 9, 0, 0, 0, m_x),
  (9, .aload_n 3, 10, 0, 0, 0, m_x),
  (10, .ifnull 16, 13, 0, 26, 0, m_x),
  (13, .iload_n 1, 14, 0, 0, 0, m_x),
  (14, .ifCond .lt 12, 17, 0, 26, 0, m_x),
  (17, .iload_n 1, 18, 0, 0, 0, m_x),
  (18, .aload_n 0, 19, 0, 0, 0, m_x),
  (19, .getfield 18, 22, 5, 2, 0, m_x),
  (22, .arraylength, 23, 0, 0, 0, m_x),
  (23, .if_icmp .lt 5, 26, 0, 28, 0, m_x),
  (26, .iconst 0, 27, 0, 0, 0, m_x),
  (27, .ireturn, 28, 0, 0, 0, m_x),
  (28, .aload_n 3, 29, 0, 0, 0, m_x),
  (29, .aload_n 2, 30, 0, 0, 0, m_x),
  (30, .invokevirtual 34, 33, 3, 0, 0, m_Folk_copyFrom),
  (33, .aload_n 0, 34, 0, 0, 0, m_x),
  (34, .getfield 18, 37, 5, 2, 0, m_x),
  (37, .iload_n 1, 38, 0, 0, 0, m_x),
  (38, .iconst 1, 39, 0, 0, 0, m_x),
  (39, .bastore, 40, 0, 0, 0, m_x),
  (40, .iconst 1, 41, 0, 0, 0, m_x),
  (41, .ireturn, 42, 0, 0, 0, m_x)]
theorem dc_Past_shelve : ∀ E ∈ k_Past_shelve, xDc m_Past_shelve E := by decide +kernel
set_option maxRecDepth 20000 in
theorem ok_Past_shelve : ∀ E ∈ k_Past_shelve, xOk m_Past_shelve E := xok_of dc_Past_shelve (xfc trivial (xfc fl_Past_15 (xfc trivial (xfc ⟨ml_Past_30, kd_Past_pick⟩ (xfc trivial (xfc trivial (xfc (show ((10 : Nat) : Int) + (16) = ((26 : Nat) : Int) from by decide) (xfc trivial (xfc (show ((14 : Nat) : Int) + (12) = ((26 : Nat) : Int) from by decide) (xfc trivial (xfc trivial (xfc fl_Past_18 (xfc trivial (xfc (show ((23 : Nat) : Int) + (5) = ((28 : Nat) : Int) from by decide) (xfc trivial (xfc trivial (xfc trivial (xfc trivial (xfc ⟨ml_Past_34, kd_Folk_copyFrom⟩ (xfc trivial (xfc fl_Past_18 (xfc trivial (xfc trivial (xfc trivial (xfc trivial (xfc trivial (xfn)))))))))))))))))))))))))))
theorem s_Past_shelve_0 (C : xCx) (r : List Value) (hp : xHp) (x : Nat) (a1 a2 a3 : Value) : (xV k_Past_shelve C 0 [.ref x, a1, a2, a3] r hp) = (True ∧ xV k_Past_shelve C 1 [.ref x, a1, a2, a3] (.ref x :: r) hp) := xVe _ _ _ _ _ _
theorem s_Past_shelve_1 (a : Nat) (C : xCx) (L r : List Value) (hp : xHp) : (xV k_Past_shelve C 1 L (.ref a :: r) hp) = (xF hp a 5 1 (fun v => xV k_Past_shelve C 4 L (v :: r) hp)) := xVe _ _ _ _ _ _
theorem s_Past_shelve_4 (C : xCx) (r : List Value) (hp : xHp) (x : Int32) (a0 a2 a3 : Value) : (xV k_Past_shelve C 4 [a0, .int x, a2, a3] r hp) = (xV k_Past_shelve C 5 [a0, .int x, a2, a3] (.int x :: r) hp) := xVe _ _ _ _ _ _
theorem s_Past_shelve_5 (x0 : Nat) (x1 : Int32) (l : Launch) (d b lo gz n0 s0 : Nat) (Po : Option Value → xHp → Prop) (L r : List Value) (hp : xHp) : (xV k_Past_shelve (l, d + 1, b, lo, gz, n0, s0, m_Past_shelve, Po) 5 L (.int x1 :: .ref x0 :: r) hp) = (2 ≤ List.length (.int x1 :: .ref x0 :: r) ∧ xcs r 8 ∧ xMq l d b lo gz m_Past_pick [.ref x0, .int x1] hp (fun x hp' => xV k_Past_shelve (l, d + 1, b, lo, gz, n0, s0, m_Past_shelve, Po) 8 L (x :: r) hp')) := xVe _ _ _ _ _ _
theorem s_Past_shelve_8 (C : xCx) (r : List Value) (hp : xHp) (x : Nat) (a0 a1 a2 a3 : Value) : (xV k_Past_shelve C 8 [a0, a1, a2, a3] (.ref x :: r) hp) = (3 < 4 ∧ xNl [a0, a1, a2, a3] 3 ∧ xV k_Past_shelve C 9 [a0, a1, a2, .ref x] r hp) := xVe _ _ _ _ _ _
theorem s_Past_shelve_9 (C : xCx) (r : List Value) (hp : xHp) (x : Nat) (a0 a1 a2 : Value) : (xV k_Past_shelve C 9 [a0, a1, a2, .ref x] r hp) = (True ∧ xV k_Past_shelve C 10 [a0, a1, a2, .ref x] (.ref x :: r) hp) := xVe _ _ _ _ _ _
theorem s_Past_shelve_10n (C : xCx) (L r : List Value) (hp : xHp) : (xV k_Past_shelve C 10 L (.null :: r) hp) = (xV k_Past_shelve C 26 L r hp) := xVe _ _ _ _ _ _
theorem s_Past_shelve_10 (a : Nat) (C : xCx) (L r : List Value) (hp : xHp) : (xV k_Past_shelve C 10 L (.ref a :: r) hp) = (xV k_Past_shelve C 13 L r hp) := xVe _ _ _ _ _ _
theorem s_Past_shelve_13 (C : xCx) (r : List Value) (hp : xHp) (x : Int32) (a0 a2 a3 : Value) : (xV k_Past_shelve C 13 [a0, .int x, a2, a3] r hp) = (xV k_Past_shelve C 14 [a0, .int x, a2, a3] (.int x :: r) hp) := xVe _ _ _ _ _ _
theorem s_Past_shelve_14 (x : Int32) (C : xCx) (L r : List Value) (hp : xHp) : (xV k_Past_shelve C 14 L (.int x :: r) hp) = (((x < 0 → xV k_Past_shelve C 26 L r hp) ∧ (¬ x < 0 → xV k_Past_shelve C 17 L r hp))) := xVe _ _ _ _ _ _
theorem s_Past_shelve_17 (C : xCx) (r : List Value) (hp : xHp) (x : Int32) (a0 a2 a3 : Value) : (xV k_Past_shelve C 17 [a0, .int x, a2, a3] r hp) = (xV k_Past_shelve C 18 [a0, .int x, a2, a3] (.int x :: r) hp) := xVe _ _ _ _ _ _
theorem s_Past_shelve_18 (C : xCx) (r : List Value) (hp : xHp) (x : Nat) (a1 a2 a3 : Value) : (xV k_Past_shelve C 18 [.ref x, a1, a2, a3] r hp) = (True ∧ xV k_Past_shelve C 19 [.ref x, a1, a2, a3] (.ref x :: r) hp) := xVe _ _ _ _ _ _
theorem s_Past_shelve_19 (a : Nat) (C : xCx) (L r : List Value) (hp : xHp) : (xV k_Past_shelve C 19 L (.ref a :: r) hp) = (xF hp a 5 2 (fun v => xV k_Past_shelve C 22 L (v :: r) hp)) := xVe _ _ _ _ _ _
theorem s_Past_shelve_22 (a : Nat) (C : xCx) (L r : List Value) (hp : xHp) : (xV k_Past_shelve C 22 L (.ref a :: r) hp) = (xLn hp a (fun n => xV k_Past_shelve C 23 L (.int (Int32.ofNat n) :: r) hp)) := xVe _ _ _ _ _ _
theorem s_Past_shelve_23 (x y : Int32) (C : xCx) (L r : List Value) (hp : xHp) : (xV k_Past_shelve C 23 L (.int y :: .int x :: r) hp) = (((x < y → xV k_Past_shelve C 28 L r hp) ∧ (¬ x < y → xV k_Past_shelve C 26 L r hp))) := xVe _ _ _ _ _ _
theorem s_Past_shelve_26  (C : xCx) (L r : List Value) (hp : xHp) : (xV k_Past_shelve C 26 L (r) hp) = (xV k_Past_shelve C 27 L (.int (0) :: r) hp) := xVe _ _ _ _ _ _
theorem s_Past_shelve_27 (v : Int32) (l : Launch) (d b lo gz n0 s0 : Nat) (Po : Option Value → xHp → Prop) (L : List Value) (hp : xHp) : (xV k_Past_shelve (l, d, b, lo, gz, n0, s0, m_Past_shelve, Po) 27 L [.int v] hp) = ((v = 0 ∨ v = 1) ∧ Po (some (.int v)) hp) := xVe _ _ _ _ _ _
theorem s_Past_shelve_28 (C : xCx) (r : List Value) (hp : xHp) (x : Nat) (a0 a1 a2 : Value) : (xV k_Past_shelve C 28 [a0, a1, a2, .ref x] r hp) = (True ∧ xV k_Past_shelve C 29 [a0, a1, a2, .ref x] (.ref x :: r) hp) := xVe _ _ _ _ _ _
theorem s_Past_shelve_29 (C : xCx) (r : List Value) (hp : xHp) (x : Nat) (a0 a1 a3 : Value) : (xV k_Past_shelve C 29 [a0, a1, .ref x, a3] r hp) = (True ∧ xV k_Past_shelve C 30 [a0, a1, .ref x, a3] (.ref x :: r) hp) := xVe _ _ _ _ _ _
theorem s_Past_shelve_30 (x0 : Nat) (a : Nat) (l : Launch) (d b lo gz n0 s0 : Nat) (Po : Option Value → xHp → Prop) (L r : List Value) (hp : xHp) : (xV k_Past_shelve (l, d + 1, b, lo, gz, n0, s0, m_Past_shelve, Po) 30 L (.ref x0 :: .ref a :: r) hp) = (xO hp a 3 ∧ xcs r 8 ∧ xMv l d b lo gz m_Folk_copyFrom [.ref a, .ref x0] hp (fun hp' => xV k_Past_shelve (l, d + 1, b, lo, gz, n0, s0, m_Past_shelve, Po) 33 L r hp')) := xVe _ _ _ _ _ _
theorem s_Past_shelve_33 (C : xCx) (r : List Value) (hp : xHp) (x : Nat) (a1 a2 a3 : Value) : (xV k_Past_shelve C 33 [.ref x, a1, a2, a3] r hp) = (True ∧ xV k_Past_shelve C 34 [.ref x, a1, a2, a3] (.ref x :: r) hp) := xVe _ _ _ _ _ _
theorem s_Past_shelve_34 (a : Nat) (C : xCx) (L r : List Value) (hp : xHp) : (xV k_Past_shelve C 34 L (.ref a :: r) hp) = (xF hp a 5 2 (fun v => xV k_Past_shelve C 37 L (v :: r) hp)) := xVe _ _ _ _ _ _
theorem s_Past_shelve_37 (C : xCx) (r : List Value) (hp : xHp) (x : Int32) (a0 a2 a3 : Value) : (xV k_Past_shelve C 37 [a0, .int x, a2, a3] r hp) = (xV k_Past_shelve C 38 [a0, .int x, a2, a3] (.int x :: r) hp) := xVe _ _ _ _ _ _
theorem s_Past_shelve_38  (C : xCx) (L r : List Value) (hp : xHp) : (xV k_Past_shelve C 38 L (r) hp) = (xV k_Past_shelve C 39 L (.int (1) :: r) hp) := xVe _ _ _ _ _ _
theorem s_Past_shelve_39 (x i : Int32) (a : Nat) (C : xCx) (L r : List Value) (hp : xHp) : (xV k_Past_shelve C 39 L (.int x :: .int i :: .ref a :: r) hp) = (xAi hp a (fun ty n g => (ty = .byte ∨ ty = .boolean) ∧ vp_in i n ∧ xV k_Past_shelve C 40 L r (xup hp a (.inl (ty, n, .inl (upd g i.toNatClampNeg (vp_nar ty x))))))) := xVe _ _ _ _ _ _
theorem s_Past_shelve_40  (C : xCx) (L r : List Value) (hp : xHp) : (xV k_Past_shelve C 40 L (r) hp) = (xV k_Past_shelve C 41 L (.int (1) :: r) hp) := xVe _ _ _ _ _ _
theorem s_Past_shelve_41 (v : Int32) (l : Launch) (d b lo gz n0 s0 : Nat) (Po : Option Value → xHp → Prop) (L : List Value) (hp : xHp) : (xV k_Past_shelve (l, d, b, lo, gz, n0, s0, m_Past_shelve, Po) 41 L [.int v] hp) = ((v = 0 ∨ v = 1) ∧ Po (some (.int v)) hp) := xVe _ _ _ _ _ _
def k_Past_unshelveInto : List xEC := [
  (0, .aload_n 0, 1, 0, 0, 0, m_x),
  (1, .getfield 15, 4, 5, 1, 0, m_x),
  (4, .iload_n 1, 5, 0, 0, 0, m_x),
  (5, .invokestatic 30, 8, 0, 0, 0, m_Past_pick),
  (8, .astore_n 3, 9, 0, 0, 0, m_x),
  (9, .aload_n 3, 10, 0, 0, 0, m_x),
  (10, .ifnull 25, 13, 0, 35, 0, m_x),
  (13, .iload_n 1, 14, 0, 0, 0, m_x),
  (14, .ifCond .lt 21, 17, 0, 35, 0, m_x),
  (17, .iload_n 1, 18, 0, 0, 0, m_x),
  (18, .aload_n 0, 19, 0, 0, 0, m_x),
  (19, .getfield 18, 22, 5, 2, 0, m_x),
  (22, .arraylength, 23, 0, 0, 0, m_x),
  (23, .if_icmp .ge 12, 26, 0, 35, 0, m_x),
  (26, .aload_n 0, 27, 0, 0, 0, m_x),
  (27, .getfield 18, 30, 5, 2, 0, m_x),
  (30, .iload_n 1, 31, 0, 0, 0, m_x),
  (31, .baload, 32, 0, 0, 0, m_x),
  (32, .ifCond .ne 5, 35, 0, 37, 0, m_x),
  (35, .iconst 0, 36, 0, 0, 0, m_x),
  (36, .ireturn, 37, 0, 0, 0, m_x),
  (37, .aload_n 2, 38, 0, 0, 0, m_x),
  (38, .aload_n 3, 39, 0, 0, 0, m_x),
  (39, .invokevirtual 34, 42, 3, 0, 0, m_Folk_copyFrom),
  (42, .iconst 1, 43, 0, 0, 0, m_x),
  (43, .ireturn, 44, 0, 0, 0, m_x)]
theorem dc_Past_unshelveInto : ∀ E ∈ k_Past_unshelveInto, xDc m_Past_unshelveInto E := by decide +kernel
set_option maxRecDepth 20000 in
theorem ok_Past_unshelveInto : ∀ E ∈ k_Past_unshelveInto, xOk m_Past_unshelveInto E := xok_of dc_Past_unshelveInto (xfc trivial (xfc fl_Past_15 (xfc trivial (xfc ⟨ml_Past_30, kd_Past_pick⟩ (xfc trivial (xfc trivial (xfc (show ((10 : Nat) : Int) + (25) = ((35 : Nat) : Int) from by decide) (xfc trivial (xfc (show ((14 : Nat) : Int) + (21) = ((35 : Nat) : Int) from by decide) (xfc trivial (xfc trivial (xfc fl_Past_18 (xfc trivial (xfc (show ((23 : Nat) : Int) + (12) = ((35 : Nat) : Int) from by decide) (xfc trivial (xfc fl_Past_18 (xfc trivial (xfc trivial (xfc (show ((32 : Nat) : Int) + (5) = ((37 : Nat) : Int) from by decide) (xfc trivial (xfc trivial (xfc trivial (xfc trivial (xfc ⟨ml_Past_34, kd_Folk_copyFrom⟩ (xfc trivial (xfc trivial (xfn)))))))))))))))))))))))))))
theorem s_Past_unshelveInto_0 (C : xCx) (r : List Value) (hp : xHp) (x : Nat) (a1 a2 a3 : Value) : (xV k_Past_unshelveInto C 0 [.ref x, a1, a2, a3] r hp) = (True ∧ xV k_Past_unshelveInto C 1 [.ref x, a1, a2, a3] (.ref x :: r) hp) := xVe _ _ _ _ _ _
theorem s_Past_unshelveInto_1 (a : Nat) (C : xCx) (L r : List Value) (hp : xHp) : (xV k_Past_unshelveInto C 1 L (.ref a :: r) hp) = (xF hp a 5 1 (fun v => xV k_Past_unshelveInto C 4 L (v :: r) hp)) := xVe _ _ _ _ _ _
theorem s_Past_unshelveInto_4 (C : xCx) (r : List Value) (hp : xHp) (x : Int32) (a0 a2 a3 : Value) : (xV k_Past_unshelveInto C 4 [a0, .int x, a2, a3] r hp) = (xV k_Past_unshelveInto C 5 [a0, .int x, a2, a3] (.int x :: r) hp) := xVe _ _ _ _ _ _
theorem s_Past_unshelveInto_5 (x0 : Nat) (x1 : Int32) (l : Launch) (d b lo gz n0 s0 : Nat) (Po : Option Value → xHp → Prop) (L r : List Value) (hp : xHp) : (xV k_Past_unshelveInto (l, d + 1, b, lo, gz, n0, s0, m_Past_unshelveInto, Po) 5 L (.int x1 :: .ref x0 :: r) hp) = (2 ≤ List.length (.int x1 :: .ref x0 :: r) ∧ xcs r 8 ∧ xMq l d b lo gz m_Past_pick [.ref x0, .int x1] hp (fun x hp' => xV k_Past_unshelveInto (l, d + 1, b, lo, gz, n0, s0, m_Past_unshelveInto, Po) 8 L (x :: r) hp')) := xVe _ _ _ _ _ _
theorem s_Past_unshelveInto_8 (C : xCx) (r : List Value) (hp : xHp) (x : Nat) (a0 a1 a2 a3 : Value) : (xV k_Past_unshelveInto C 8 [a0, a1, a2, a3] (.ref x :: r) hp) = (3 < 4 ∧ xNl [a0, a1, a2, a3] 3 ∧ xV k_Past_unshelveInto C 9 [a0, a1, a2, .ref x] r hp) := xVe _ _ _ _ _ _
theorem s_Past_unshelveInto_9 (C : xCx) (r : List Value) (hp : xHp) (x : Nat) (a0 a1 a2 : Value) : (xV k_Past_unshelveInto C 9 [a0, a1, a2, .ref x] r hp) = (True ∧ xV k_Past_unshelveInto C 10 [a0, a1, a2, .ref x] (.ref x :: r) hp) := xVe _ _ _ _ _ _
theorem s_Past_unshelveInto_10n (C : xCx) (L r : List Value) (hp : xHp) : (xV k_Past_unshelveInto C 10 L (.null :: r) hp) = (xV k_Past_unshelveInto C 35 L r hp) := xVe _ _ _ _ _ _
theorem s_Past_unshelveInto_10 (a : Nat) (C : xCx) (L r : List Value) (hp : xHp) : (xV k_Past_unshelveInto C 10 L (.ref a :: r) hp) = (xV k_Past_unshelveInto C 13 L r hp) := xVe _ _ _ _ _ _
theorem s_Past_unshelveInto_13 (C : xCx) (r : List Value) (hp : xHp) (x : Int32) (a0 a2 a3 : Value) : (xV k_Past_unshelveInto C 13 [a0, .int x, a2, a3] r hp) = (xV k_Past_unshelveInto C 14 [a0, .int x, a2, a3] (.int x :: r) hp) := xVe _ _ _ _ _ _
theorem s_Past_unshelveInto_14 (x : Int32) (C : xCx) (L r : List Value) (hp : xHp) : (xV k_Past_unshelveInto C 14 L (.int x :: r) hp) = (((x < 0 → xV k_Past_unshelveInto C 35 L r hp) ∧ (¬ x < 0 → xV k_Past_unshelveInto C 17 L r hp))) := xVe _ _ _ _ _ _
theorem s_Past_unshelveInto_17 (C : xCx) (r : List Value) (hp : xHp) (x : Int32) (a0 a2 a3 : Value) : (xV k_Past_unshelveInto C 17 [a0, .int x, a2, a3] r hp) = (xV k_Past_unshelveInto C 18 [a0, .int x, a2, a3] (.int x :: r) hp) := xVe _ _ _ _ _ _
theorem s_Past_unshelveInto_18 (C : xCx) (r : List Value) (hp : xHp) (x : Nat) (a1 a2 a3 : Value) : (xV k_Past_unshelveInto C 18 [.ref x, a1, a2, a3] r hp) = (True ∧ xV k_Past_unshelveInto C 19 [.ref x, a1, a2, a3] (.ref x :: r) hp) := xVe _ _ _ _ _ _
theorem s_Past_unshelveInto_19 (a : Nat) (C : xCx) (L r : List Value) (hp : xHp) : (xV k_Past_unshelveInto C 19 L (.ref a :: r) hp) = (xF hp a 5 2 (fun v => xV k_Past_unshelveInto C 22 L (v :: r) hp)) := xVe _ _ _ _ _ _
theorem s_Past_unshelveInto_22 (a : Nat) (C : xCx) (L r : List Value) (hp : xHp) : (xV k_Past_unshelveInto C 22 L (.ref a :: r) hp) = (xLn hp a (fun n => xV k_Past_unshelveInto C 23 L (.int (Int32.ofNat n) :: r) hp)) := xVe _ _ _ _ _ _
theorem s_Past_unshelveInto_23 (x y : Int32) (C : xCx) (L r : List Value) (hp : xHp) : (xV k_Past_unshelveInto C 23 L (.int y :: .int x :: r) hp) = (((y ≤ x → xV k_Past_unshelveInto C 35 L r hp) ∧ (¬ y ≤ x → xV k_Past_unshelveInto C 26 L r hp))) := xVe _ _ _ _ _ _
theorem s_Past_unshelveInto_26 (C : xCx) (r : List Value) (hp : xHp) (x : Nat) (a1 a2 a3 : Value) : (xV k_Past_unshelveInto C 26 [.ref x, a1, a2, a3] r hp) = (True ∧ xV k_Past_unshelveInto C 27 [.ref x, a1, a2, a3] (.ref x :: r) hp) := xVe _ _ _ _ _ _
theorem s_Past_unshelveInto_27 (a : Nat) (C : xCx) (L r : List Value) (hp : xHp) : (xV k_Past_unshelveInto C 27 L (.ref a :: r) hp) = (xF hp a 5 2 (fun v => xV k_Past_unshelveInto C 30 L (v :: r) hp)) := xVe _ _ _ _ _ _
theorem s_Past_unshelveInto_30 (C : xCx) (r : List Value) (hp : xHp) (x : Int32) (a0 a2 a3 : Value) : (xV k_Past_unshelveInto C 30 [a0, .int x, a2, a3] r hp) = (xV k_Past_unshelveInto C 31 [a0, .int x, a2, a3] (.int x :: r) hp) := xVe _ _ _ _ _ _
theorem s_Past_unshelveInto_31 (i : Int32) (a : Nat) (C : xCx) (L r : List Value) (hp : xHp) : (xV k_Past_unshelveInto C 31 L (.int i :: .ref a :: r) hp) = (xAi hp a (fun ty n g => (ty = .byte ∨ ty = .boolean) ∧ vp_in i n ∧ xV k_Past_unshelveInto C 32 L (.int (g i.toNatClampNeg) :: r) hp)) := xVe _ _ _ _ _ _
theorem s_Past_unshelveInto_32 (x : Int32) (C : xCx) (L r : List Value) (hp : xHp) : (xV k_Past_unshelveInto C 32 L (.int x :: r) hp) = (((¬ x = 0 → xV k_Past_unshelveInto C 37 L r hp) ∧ (x = 0 → xV k_Past_unshelveInto C 35 L r hp))) := xVe _ _ _ _ _ _
theorem s_Past_unshelveInto_35  (C : xCx) (L r : List Value) (hp : xHp) : (xV k_Past_unshelveInto C 35 L (r) hp) = (xV k_Past_unshelveInto C 36 L (.int (0) :: r) hp) := xVe _ _ _ _ _ _
theorem s_Past_unshelveInto_36 (v : Int32) (l : Launch) (d b lo gz n0 s0 : Nat) (Po : Option Value → xHp → Prop) (L : List Value) (hp : xHp) : (xV k_Past_unshelveInto (l, d, b, lo, gz, n0, s0, m_Past_unshelveInto, Po) 36 L [.int v] hp) = ((v = 0 ∨ v = 1) ∧ Po (some (.int v)) hp) := xVe _ _ _ _ _ _
theorem s_Past_unshelveInto_37 (C : xCx) (r : List Value) (hp : xHp) (x : Nat) (a0 a1 a3 : Value) : (xV k_Past_unshelveInto C 37 [a0, a1, .ref x, a3] r hp) = (True ∧ xV k_Past_unshelveInto C 38 [a0, a1, .ref x, a3] (.ref x :: r) hp) := xVe _ _ _ _ _ _
theorem s_Past_unshelveInto_38 (C : xCx) (r : List Value) (hp : xHp) (x : Nat) (a0 a1 a2 : Value) : (xV k_Past_unshelveInto C 38 [a0, a1, a2, .ref x] r hp) = (True ∧ xV k_Past_unshelveInto C 39 [a0, a1, a2, .ref x] (.ref x :: r) hp) := xVe _ _ _ _ _ _
theorem s_Past_unshelveInto_39 (x0 : Nat) (a : Nat) (l : Launch) (d b lo gz n0 s0 : Nat) (Po : Option Value → xHp → Prop) (L r : List Value) (hp : xHp) : (xV k_Past_unshelveInto (l, d + 1, b, lo, gz, n0, s0, m_Past_unshelveInto, Po) 39 L (.ref x0 :: .ref a :: r) hp) = (xO hp a 3 ∧ xcs r 8 ∧ xMv l d b lo gz m_Folk_copyFrom [.ref a, .ref x0] hp (fun hp' => xV k_Past_unshelveInto (l, d + 1, b, lo, gz, n0, s0, m_Past_unshelveInto, Po) 42 L r hp')) := xVe _ _ _ _ _ _
theorem s_Past_unshelveInto_42  (C : xCx) (L r : List Value) (hp : xHp) : (xV k_Past_unshelveInto C 42 L (r) hp) = (xV k_Past_unshelveInto C 43 L (.int (1) :: r) hp) := xVe _ _ _ _ _ _
theorem s_Past_unshelveInto_43 (v : Int32) (l : Launch) (d b lo gz n0 s0 : Nat) (Po : Option Value → xHp → Prop) (L : List Value) (hp : xHp) : (xV k_Past_unshelveInto (l, d, b, lo, gz, n0, s0, m_Past_unshelveInto, Po) 43 L [.int v] hp) = ((v = 0 ∨ v = 1) ∧ Po (some (.int v)) hp) := xVe _ _ _ _ _ _
def k_Folk_sinsTogether : List xEC := [
  (0, .iconst 0, 1, 0, 0, 0, m_x),
  (1, .istore_n 1, 2, 0, 0, 0, m_x),
  (2, .iconst 0, 3, 0, 0, 0, m_x),
  (3, .istore_n 2, 4, 0, 0, 0, m_x),
  (4, .iload_n 2, 5, 0, 0, 0, m_x),
  (5, .aload_n 0, 6, 0, 0, 0, m_x),
  (6, .getfield 21, 9, 3, 3, 0, m_x),
  (9, .if_icmp .ge 20, 12, 0, 29, 0, m_x),
  (12, .iload_n 1, 13, 0, 0, 0, m_x),
  (13, .aload_n 0, 14, 0, 0, 0, m_x),
  (14, .getfield 18, 17, 3, 2, 0, m_x),
  (17, .iload_n 2, 18, 0, 0, 0, m_x),
  (18, .invokestatic 28, 21, 0, 0, 0, m_So_at),
  (21, .iadd, 22, 0, 0, 0, m_x),
  (22, .istore_n 1, 23, 0, 0, 0, m_x),
  (23, .iinc 2 1, 26, 0, 0, 0, m_x),
  (26, .goto (-22), 29, 0, 4, 0, m_x),
  (29, .iload_n 1, 30, 0, 0, 0, m_x),
  (30, .ireturn, 31, 0, 0, 0, m_x)]
theorem dc_Folk_sinsTogether : ∀ E ∈ k_Folk_sinsTogether, xDc m_Folk_sinsTogether E := by decide +kernel
set_option maxRecDepth 20000 in
theorem ok_Folk_sinsTogether : ∀ E ∈ k_Folk_sinsTogether, xOk m_Folk_sinsTogether E := xok_of dc_Folk_sinsTogether (xfc trivial (xfc trivial (xfc trivial (xfc trivial (xfc trivial (xfc trivial (xfc fl_Folk_21 (xfc (show ((9 : Nat) : Int) + (20) = ((29 : Nat) : Int) from by decide) (xfc trivial (xfc trivial (xfc fl_Folk_18 (xfc trivial (xfc ⟨ml_Folk_28, kd_So_at⟩ (xfc trivial (xfc trivial (xfc trivial (xfc (show ((26 : Nat) : Int) + (-22) = ((4 : Nat) : Int) from by decide) (xfc trivial (xfc trivial (xfn))))))))))))))))))))
theorem s_Folk_sinsTogether_0  (C : xCx) (L r : List Value) (hp : xHp) : (xV k_Folk_sinsTogether C 0 L (r) hp) = (xV k_Folk_sinsTogether C 1 L (.int (0) :: r) hp) := xVe _ _ _ _ _ _
theorem s_Folk_sinsTogether_1 (C : xCx) (r : List Value) (hp : xHp) (x : Int32) (a0 a1 a2 : Value) : (xV k_Folk_sinsTogether C 1 [a0, a1, a2] (.int x :: r) hp) = (1 < 3 ∧ xNl [a0, a1, a2] 1 ∧ xV k_Folk_sinsTogether C 2 [a0, .int x, a2] r hp) := xVe _ _ _ _ _ _
theorem s_Folk_sinsTogether_2  (C : xCx) (L r : List Value) (hp : xHp) : (xV k_Folk_sinsTogether C 2 L (r) hp) = (xV k_Folk_sinsTogether C 3 L (.int (0) :: r) hp) := xVe _ _ _ _ _ _
theorem s_Folk_sinsTogether_3 (C : xCx) (r : List Value) (hp : xHp) (x : Int32) (a0 a1 a2 : Value) : (xV k_Folk_sinsTogether C 3 [a0, a1, a2] (.int x :: r) hp) = (2 < 3 ∧ xNl [a0, a1, a2] 2 ∧ xV k_Folk_sinsTogether C 4 [a0, a1, .int x] r hp) := xVe _ _ _ _ _ _
theorem s_Folk_sinsTogether_4 (C : xCx) (r : List Value) (hp : xHp) (x : Int32) (a0 a1 : Value) : (xV k_Folk_sinsTogether C 4 [a0, a1, .int x] r hp) = (xV k_Folk_sinsTogether C 5 [a0, a1, .int x] (.int x :: r) hp) := xVe _ _ _ _ _ _
theorem s_Folk_sinsTogether_5 (C : xCx) (r : List Value) (hp : xHp) (x : Nat) (a1 a2 : Value) : (xV k_Folk_sinsTogether C 5 [.ref x, a1, a2] r hp) = (True ∧ xV k_Folk_sinsTogether C 6 [.ref x, a1, a2] (.ref x :: r) hp) := xVe _ _ _ _ _ _
theorem s_Folk_sinsTogether_6 (a : Nat) (C : xCx) (L r : List Value) (hp : xHp) : (xV k_Folk_sinsTogether C 6 L (.ref a :: r) hp) = (xF hp a 3 3 (fun v => xV k_Folk_sinsTogether C 9 L (v :: r) hp)) := xVe _ _ _ _ _ _
theorem s_Folk_sinsTogether_9 (x y : Int32) (C : xCx) (L r : List Value) (hp : xHp) : (xV k_Folk_sinsTogether C 9 L (.int y :: .int x :: r) hp) = (((y ≤ x → xV k_Folk_sinsTogether C 29 L r hp) ∧ (¬ y ≤ x → xV k_Folk_sinsTogether C 12 L r hp))) := xVe _ _ _ _ _ _
theorem s_Folk_sinsTogether_12 (C : xCx) (r : List Value) (hp : xHp) (x : Int32) (a0 a2 : Value) : (xV k_Folk_sinsTogether C 12 [a0, .int x, a2] r hp) = (xV k_Folk_sinsTogether C 13 [a0, .int x, a2] (.int x :: r) hp) := xVe _ _ _ _ _ _
theorem s_Folk_sinsTogether_13 (C : xCx) (r : List Value) (hp : xHp) (x : Nat) (a1 a2 : Value) : (xV k_Folk_sinsTogether C 13 [.ref x, a1, a2] r hp) = (True ∧ xV k_Folk_sinsTogether C 14 [.ref x, a1, a2] (.ref x :: r) hp) := xVe _ _ _ _ _ _
theorem s_Folk_sinsTogether_14 (a : Nat) (C : xCx) (L r : List Value) (hp : xHp) : (xV k_Folk_sinsTogether C 14 L (.ref a :: r) hp) = (xF hp a 3 2 (fun v => xV k_Folk_sinsTogether C 17 L (v :: r) hp)) := xVe _ _ _ _ _ _
theorem s_Folk_sinsTogether_17 (C : xCx) (r : List Value) (hp : xHp) (x : Int32) (a0 a1 : Value) : (xV k_Folk_sinsTogether C 17 [a0, a1, .int x] r hp) = (xV k_Folk_sinsTogether C 18 [a0, a1, .int x] (.int x :: r) hp) := xVe _ _ _ _ _ _
theorem s_Folk_sinsTogether_18 (x0 : Nat) (x1 : Int32) (l : Launch) (d b lo gz n0 s0 : Nat) (Po : Option Value → xHp → Prop) (L r : List Value) (hp : xHp) : (xV k_Folk_sinsTogether (l, d + 1, b, lo, gz, n0, s0, m_Folk_sinsTogether, Po) 18 L (.int x1 :: .ref x0 :: r) hp) = (2 ≤ List.length (.int x1 :: .ref x0 :: r) ∧ xcs r 8 ∧ xMi l d b lo gz m_So_at [.ref x0, .int x1] hp (fun x hp' => xV k_Folk_sinsTogether (l, d + 1, b, lo, gz, n0, s0, m_Folk_sinsTogether, Po) 21 L (.int x :: r) hp')) := xVe _ _ _ _ _ _
theorem s_Folk_sinsTogether_21 (x y : Int32) (C : xCx) (L r : List Value) (hp : xHp) : (xV k_Folk_sinsTogether C 21 L (.int y :: .int x :: r) hp) = (xV k_Folk_sinsTogether C 22 L (.int (x + y) :: r) hp) := xVe _ _ _ _ _ _
theorem s_Folk_sinsTogether_22 (C : xCx) (r : List Value) (hp : xHp) (x : Int32) (a0 a1 a2 : Value) : (xV k_Folk_sinsTogether C 22 [a0, a1, a2] (.int x :: r) hp) = (1 < 3 ∧ xNl [a0, a1, a2] 1 ∧ xV k_Folk_sinsTogether C 23 [a0, .int x, a2] r hp) := xVe _ _ _ _ _ _
theorem s_Folk_sinsTogether_23 (C : xCx) (r : List Value) (hp : xHp) (x : Int32) (a0 a1 : Value) : (xV k_Folk_sinsTogether C 23 [a0, a1, .int x] r hp) = (xNl [a0, a1, .int x] 2 ∧ xV k_Folk_sinsTogether C 26 [a0, a1, .int (x + (1))] r hp) := xVe _ _ _ _ _ _
theorem s_Folk_sinsTogether_26 (C : xCx) (L r : List Value) (hp : xHp) : (xV k_Folk_sinsTogether C 26 L r hp) = (xV k_Folk_sinsTogether C 4 L r hp) := xVe _ _ _ _ _ _
theorem s_Folk_sinsTogether_29 (C : xCx) (r : List Value) (hp : xHp) (x : Int32) (a0 a2 : Value) : (xV k_Folk_sinsTogether C 29 [a0, .int x, a2] r hp) = (xV k_Folk_sinsTogether C 30 [a0, .int x, a2] (.int x :: r) hp) := xVe _ _ _ _ _ _
theorem s_Folk_sinsTogether_30 (v : Int32) (l : Launch) (d b lo gz n0 s0 : Nat) (Po : Option Value → xHp → Prop) (L : List Value) (hp : xHp) : (xV k_Folk_sinsTogether (l, d, b, lo, gz, n0, s0, m_Folk_sinsTogether, Po) 30 L [.int v] hp) = (Po (some (.int v)) hp) := xVe _ _ _ _ _ _
def k_Row_size : List xEC := [
  (0, .aload_n 0, 1, 0, 0, 0, m_x),
  (1, .getfield 13, 4, 7, 1, 0, m_x),
  (4, .ireturn, 5, 0, 0, 0, m_x)]
theorem dc_Row_size : ∀ E ∈ k_Row_size, xDc m_Row_size E := by decide +kernel
set_option maxRecDepth 20000 in
theorem ok_Row_size : ∀ E ∈ k_Row_size, xOk m_Row_size E := xok_of dc_Row_size (xfc trivial (xfc fl_Row_13 (xfc trivial (xfn))))
theorem s_Row_size_0 (C : xCx) (r : List Value) (hp : xHp) (x : Nat) : (xV k_Row_size C 0 [.ref x] r hp) = (True ∧ xV k_Row_size C 1 [.ref x] (.ref x :: r) hp) := xVe _ _ _ _ _ _
theorem s_Row_size_1 (a : Nat) (C : xCx) (L r : List Value) (hp : xHp) : (xV k_Row_size C 1 L (.ref a :: r) hp) = (xF hp a 7 1 (fun v => xV k_Row_size C 4 L (v :: r) hp)) := xVe _ _ _ _ _ _
theorem s_Row_size_4 (v : Int32) (l : Launch) (d b lo gz n0 s0 : Nat) (Po : Option Value → xHp → Prop) (L : List Value) (hp : xHp) : (xV k_Row_size (l, d, b, lo, gz, n0, s0, m_Row_size, Po) 4 L [.int v] hp) = (Po (some (.int v)) hp) := xVe _ _ _ _ _ _
def k_Folk_bitsAt : List xEC := [
  (0, .iconst 0, 1, 0, 0, 0, m_x),
  (1, .istore_n 2, 2, 0, 0, 0, m_x),
  (2, .iconst 0, 3, 0, 0, 0, m_x),
  (3, .istore_n 3, 4, 0, 0, 0, m_x),
  (4, .iload_n 3, 5, 0, 0, 0, m_x),
  (5, .aload_n 0, 6, 0, 0, 0, m_x),
  (6, .getfield 21, 9, 3, 3, 0, m_x),
  (9, .if_icmp .ge 31, 12, 0, 40, 0, m_x),
  (12, .iload_n 2, 13, 0, 0, 0, m_x),
  (13, .aload_n 0, 14, 0, 0, 0, m_x),
  (14, .getfield 15, 17, 3, 1, 0, m_x),
  (17, .iload_n 3, 18, 0, 0, 0, m_x),
  (18, .invokestatic 28, 21, 0, 0, 0, m_So_at),
  (21, .iload_n 1, 22, 0, 0, 0, m_x),
  (22, .if_icmp .ne 9, 25, 0, 31, 0, m_x),
  (25, .iconst 1, 26, 0, 0, 0, m_x),
  (26, .iload_n 3, 27, 0, 0, 0, m_x),
  (27, .ishl, 28, 0, 0, 0, m_x),
  (28, .goto 4, 31, 0, 32, 0, m_x),
  (31, .iconst 0, 32, 0, 0, 0, m_x),
  (32, .ior, 33, 0, 0, 0, m_x),
  (33, .istore_n 2, 34, 0, 0, 0, m_x),
  (34, .iinc 3 1, 37, 0, 0, 0, m_x),
  (37, .goto (-33), 40, 0, 4, 0, m_x),
  (40, .iload_n 2, 41, 0, 0, 0, m_x),
  (41, .ireturn, 42, 0, 0, 0, m_x)]
theorem dc_Folk_bitsAt : ∀ E ∈ k_Folk_bitsAt, xDc m_Folk_bitsAt E := by decide +kernel
set_option maxRecDepth 20000 in
theorem ok_Folk_bitsAt : ∀ E ∈ k_Folk_bitsAt, xOk m_Folk_bitsAt E := xok_of dc_Folk_bitsAt (xfc trivial (xfc trivial (xfc trivial (xfc trivial (xfc trivial (xfc trivial (xfc fl_Folk_21 (xfc (show ((9 : Nat) : Int) + (31) = ((40 : Nat) : Int) from by decide) (xfc trivial (xfc trivial (xfc fl_Folk_15 (xfc trivial (xfc ⟨ml_Folk_28, kd_So_at⟩ (xfc trivial (xfc (show ((22 : Nat) : Int) + (9) = ((31 : Nat) : Int) from by decide) (xfc trivial (xfc trivial (xfc trivial (xfc (show ((28 : Nat) : Int) + (4) = ((32 : Nat) : Int) from by decide) (xfc trivial (xfc trivial (xfc trivial (xfc trivial (xfc (show ((37 : Nat) : Int) + (-33) = ((4 : Nat) : Int) from by decide) (xfc trivial (xfc trivial (xfn)))))))))))))))))))))))))))
theorem s_Folk_bitsAt_0  (C : xCx) (L r : List Value) (hp : xHp) : (xV k_Folk_bitsAt C 0 L (r) hp) = (xV k_Folk_bitsAt C 1 L (.int (0) :: r) hp) := xVe _ _ _ _ _ _
theorem s_Folk_bitsAt_1 (C : xCx) (r : List Value) (hp : xHp) (x : Int32) (a0 a1 a2 a3 : Value) : (xV k_Folk_bitsAt C 1 [a0, a1, a2, a3] (.int x :: r) hp) = (2 < 4 ∧ xNl [a0, a1, a2, a3] 2 ∧ xV k_Folk_bitsAt C 2 [a0, a1, .int x, a3] r hp) := xVe _ _ _ _ _ _
theorem s_Folk_bitsAt_2  (C : xCx) (L r : List Value) (hp : xHp) : (xV k_Folk_bitsAt C 2 L (r) hp) = (xV k_Folk_bitsAt C 3 L (.int (0) :: r) hp) := xVe _ _ _ _ _ _
theorem s_Folk_bitsAt_3 (C : xCx) (r : List Value) (hp : xHp) (x : Int32) (a0 a1 a2 a3 : Value) : (xV k_Folk_bitsAt C 3 [a0, a1, a2, a3] (.int x :: r) hp) = (3 < 4 ∧ xNl [a0, a1, a2, a3] 3 ∧ xV k_Folk_bitsAt C 4 [a0, a1, a2, .int x] r hp) := xVe _ _ _ _ _ _
theorem s_Folk_bitsAt_4 (C : xCx) (r : List Value) (hp : xHp) (x : Int32) (a0 a1 a2 : Value) : (xV k_Folk_bitsAt C 4 [a0, a1, a2, .int x] r hp) = (xV k_Folk_bitsAt C 5 [a0, a1, a2, .int x] (.int x :: r) hp) := xVe _ _ _ _ _ _
theorem s_Folk_bitsAt_5 (C : xCx) (r : List Value) (hp : xHp) (x : Nat) (a1 a2 a3 : Value) : (xV k_Folk_bitsAt C 5 [.ref x, a1, a2, a3] r hp) = (True ∧ xV k_Folk_bitsAt C 6 [.ref x, a1, a2, a3] (.ref x :: r) hp) := xVe _ _ _ _ _ _
theorem s_Folk_bitsAt_6 (a : Nat) (C : xCx) (L r : List Value) (hp : xHp) : (xV k_Folk_bitsAt C 6 L (.ref a :: r) hp) = (xF hp a 3 3 (fun v => xV k_Folk_bitsAt C 9 L (v :: r) hp)) := xVe _ _ _ _ _ _
theorem s_Folk_bitsAt_9 (x y : Int32) (C : xCx) (L r : List Value) (hp : xHp) : (xV k_Folk_bitsAt C 9 L (.int y :: .int x :: r) hp) = (((y ≤ x → xV k_Folk_bitsAt C 40 L r hp) ∧ (¬ y ≤ x → xV k_Folk_bitsAt C 12 L r hp))) := xVe _ _ _ _ _ _
theorem s_Folk_bitsAt_12 (C : xCx) (r : List Value) (hp : xHp) (x : Int32) (a0 a1 a3 : Value) : (xV k_Folk_bitsAt C 12 [a0, a1, .int x, a3] r hp) = (xV k_Folk_bitsAt C 13 [a0, a1, .int x, a3] (.int x :: r) hp) := xVe _ _ _ _ _ _
theorem s_Folk_bitsAt_13 (C : xCx) (r : List Value) (hp : xHp) (x : Nat) (a1 a2 a3 : Value) : (xV k_Folk_bitsAt C 13 [.ref x, a1, a2, a3] r hp) = (True ∧ xV k_Folk_bitsAt C 14 [.ref x, a1, a2, a3] (.ref x :: r) hp) := xVe _ _ _ _ _ _
theorem s_Folk_bitsAt_14 (a : Nat) (C : xCx) (L r : List Value) (hp : xHp) : (xV k_Folk_bitsAt C 14 L (.ref a :: r) hp) = (xF hp a 3 1 (fun v => xV k_Folk_bitsAt C 17 L (v :: r) hp)) := xVe _ _ _ _ _ _
theorem s_Folk_bitsAt_17 (C : xCx) (r : List Value) (hp : xHp) (x : Int32) (a0 a1 a2 : Value) : (xV k_Folk_bitsAt C 17 [a0, a1, a2, .int x] r hp) = (xV k_Folk_bitsAt C 18 [a0, a1, a2, .int x] (.int x :: r) hp) := xVe _ _ _ _ _ _
theorem s_Folk_bitsAt_18 (x0 : Nat) (x1 : Int32) (l : Launch) (d b lo gz n0 s0 : Nat) (Po : Option Value → xHp → Prop) (L r : List Value) (hp : xHp) : (xV k_Folk_bitsAt (l, d + 1, b, lo, gz, n0, s0, m_Folk_bitsAt, Po) 18 L (.int x1 :: .ref x0 :: r) hp) = (2 ≤ List.length (.int x1 :: .ref x0 :: r) ∧ xcs r 8 ∧ xMi l d b lo gz m_So_at [.ref x0, .int x1] hp (fun x hp' => xV k_Folk_bitsAt (l, d + 1, b, lo, gz, n0, s0, m_Folk_bitsAt, Po) 21 L (.int x :: r) hp')) := xVe _ _ _ _ _ _
theorem s_Folk_bitsAt_21 (C : xCx) (r : List Value) (hp : xHp) (x : Int32) (a0 a2 a3 : Value) : (xV k_Folk_bitsAt C 21 [a0, .int x, a2, a3] r hp) = (xV k_Folk_bitsAt C 22 [a0, .int x, a2, a3] (.int x :: r) hp) := xVe _ _ _ _ _ _
theorem s_Folk_bitsAt_22 (x y : Int32) (C : xCx) (L r : List Value) (hp : xHp) : (xV k_Folk_bitsAt C 22 L (.int y :: .int x :: r) hp) = (((¬ x = y → xV k_Folk_bitsAt C 31 L r hp) ∧ (x = y → xV k_Folk_bitsAt C 25 L r hp))) := xVe _ _ _ _ _ _
theorem s_Folk_bitsAt_25  (C : xCx) (L r : List Value) (hp : xHp) : (xV k_Folk_bitsAt C 25 L (r) hp) = (xV k_Folk_bitsAt C 26 L (.int (1) :: r) hp) := xVe _ _ _ _ _ _
theorem s_Folk_bitsAt_26 (C : xCx) (r : List Value) (hp : xHp) (x : Int32) (a0 a1 a2 : Value) : (xV k_Folk_bitsAt C 26 [a0, a1, a2, .int x] r hp) = (xV k_Folk_bitsAt C 27 [a0, a1, a2, .int x] (.int x :: r) hp) := xVe _ _ _ _ _ _
theorem s_Folk_bitsAt_27 (x y : Int32) (C : xCx) (L r : List Value) (hp : xHp) : (xV k_Folk_bitsAt C 27 L (.int y :: .int x :: r) hp) = (xV k_Folk_bitsAt C 28 L (.int (x <<< (y &&& 31)) :: r) hp) := xVe _ _ _ _ _ _
theorem s_Folk_bitsAt_28 (C : xCx) (L r : List Value) (hp : xHp) : (xV k_Folk_bitsAt C 28 L r hp) = (xV k_Folk_bitsAt C 32 L r hp) := xVe _ _ _ _ _ _
theorem s_Folk_bitsAt_31  (C : xCx) (L r : List Value) (hp : xHp) : (xV k_Folk_bitsAt C 31 L (r) hp) = (xV k_Folk_bitsAt C 32 L (.int (0) :: r) hp) := xVe _ _ _ _ _ _
theorem s_Folk_bitsAt_32 (x y : Int32) (C : xCx) (L r : List Value) (hp : xHp) : (xV k_Folk_bitsAt C 32 L (.int y :: .int x :: r) hp) = (xV k_Folk_bitsAt C 33 L (.int (x ||| y) :: r) hp) := xVe _ _ _ _ _ _
theorem s_Folk_bitsAt_33 (C : xCx) (r : List Value) (hp : xHp) (x : Int32) (a0 a1 a2 a3 : Value) : (xV k_Folk_bitsAt C 33 [a0, a1, a2, a3] (.int x :: r) hp) = (2 < 4 ∧ xNl [a0, a1, a2, a3] 2 ∧ xV k_Folk_bitsAt C 34 [a0, a1, .int x, a3] r hp) := xVe _ _ _ _ _ _
theorem s_Folk_bitsAt_34 (C : xCx) (r : List Value) (hp : xHp) (x : Int32) (a0 a1 a2 : Value) : (xV k_Folk_bitsAt C 34 [a0, a1, a2, .int x] r hp) = (xNl [a0, a1, a2, .int x] 3 ∧ xV k_Folk_bitsAt C 37 [a0, a1, a2, .int (x + (1))] r hp) := xVe _ _ _ _ _ _
theorem s_Folk_bitsAt_37 (C : xCx) (L r : List Value) (hp : xHp) : (xV k_Folk_bitsAt C 37 L r hp) = (xV k_Folk_bitsAt C 4 L r hp) := xVe _ _ _ _ _ _
theorem s_Folk_bitsAt_40 (C : xCx) (r : List Value) (hp : xHp) (x : Int32) (a0 a1 a3 : Value) : (xV k_Folk_bitsAt C 40 [a0, a1, .int x, a3] r hp) = (xV k_Folk_bitsAt C 41 [a0, a1, .int x, a3] (.int x :: r) hp) := xVe _ _ _ _ _ _
theorem s_Folk_bitsAt_41 (v : Int32) (l : Launch) (d b lo gz n0 s0 : Nat) (Po : Option Value → xHp → Prop) (L : List Value) (hp : xHp) : (xV k_Folk_bitsAt (l, d, b, lo, gz, n0, s0, m_Folk_bitsAt, Po) 41 L [.int v] hp) = (Po (some (.int v)) hp) := xVe _ _ _ _ _ _
def k_Folk_agesAt : List xEC := [
  (0, .iconst 0, 1, 0, 0, 0, m_x),
  (1, .istore_n 2, 2, 0, 0, 0, m_x),
  (2, .iconst 0, 3, 0, 0, 0, m_x),
  (3, .istore_n 3, 4, 0, 0, 0, m_x),
  (4, .iload_n 3, 5, 0, 0, 0, m_x),
  (5, .aload_n 0, 6, 0, 0, 0, m_x),
  (6, .getfield 21, 9, 3, 3, 0, m_x),
  (9, .if_icmp .ge 36, 12, 0, 45, 0, m_x),
  (12, .iload_n 2, 13, 0, 0, 0, m_x),
  (13, .aload_n 0, 14, 0, 0, 0, m_x),
  (14, .getfield 15, 17, 3, 1, 0, m_x),
  (17, .iload_n 3, 18, 0, 0, 0, m_x),
  (18, .invokestatic 28, 21, 0, 0, 0, m_So_at),
  (21, .iload_n 1, 22, 0, 0, 0, m_x),
  (22, .if_icmp .ne 14, 25, 0, 36, 0, m_x),
  (25, .aload_n 0, 26, 0, 0, 0, m_x),
  (26, .getfield 9, 29, 3, 0, 0, m_x),
  (29, .iload_n 3, 30, 0, 0, 0, m_x),
  (30, .invokestatic 28, 33, 0, 0, 0, m_So_at),
  (33, .goto 4, 36, 0, 37, 0, m_x),
  (36, .iconst 0, 37, 0, 0, 0, m_x),
  (37, .iadd, 38, 0, 0, 0, m_x),
  (38, .istore_n 2, 39, 0, 0, 0, m_x),
  (39, .iinc 3 1, 42, 0, 0, 0, m_x),
  (42, .goto (-38), 45, 0, 4, 0, m_x),
  (45, .iload_n 2, 46, 0, 0, 0, m_x),
  (46, .ireturn, 47, 0, 0, 0, m_x)]
theorem dc_Folk_agesAt : ∀ E ∈ k_Folk_agesAt, xDc m_Folk_agesAt E := by decide +kernel
set_option maxRecDepth 20000 in
theorem ok_Folk_agesAt : ∀ E ∈ k_Folk_agesAt, xOk m_Folk_agesAt E := xok_of dc_Folk_agesAt (xfc trivial (xfc trivial (xfc trivial (xfc trivial (xfc trivial (xfc trivial (xfc fl_Folk_21 (xfc (show ((9 : Nat) : Int) + (36) = ((45 : Nat) : Int) from by decide) (xfc trivial (xfc trivial (xfc fl_Folk_15 (xfc trivial (xfc ⟨ml_Folk_28, kd_So_at⟩ (xfc trivial (xfc (show ((22 : Nat) : Int) + (14) = ((36 : Nat) : Int) from by decide) (xfc trivial (xfc fl_Folk_9 (xfc trivial (xfc ⟨ml_Folk_28, kd_So_at⟩ (xfc (show ((33 : Nat) : Int) + (4) = ((37 : Nat) : Int) from by decide) (xfc trivial (xfc trivial (xfc trivial (xfc trivial (xfc (show ((42 : Nat) : Int) + (-38) = ((4 : Nat) : Int) from by decide) (xfc trivial (xfc trivial (xfn))))))))))))))))))))))))))))
theorem s_Folk_agesAt_0  (C : xCx) (L r : List Value) (hp : xHp) : (xV k_Folk_agesAt C 0 L (r) hp) = (xV k_Folk_agesAt C 1 L (.int (0) :: r) hp) := xVe _ _ _ _ _ _
theorem s_Folk_agesAt_1 (C : xCx) (r : List Value) (hp : xHp) (x : Int32) (a0 a1 a2 a3 : Value) : (xV k_Folk_agesAt C 1 [a0, a1, a2, a3] (.int x :: r) hp) = (2 < 4 ∧ xNl [a0, a1, a2, a3] 2 ∧ xV k_Folk_agesAt C 2 [a0, a1, .int x, a3] r hp) := xVe _ _ _ _ _ _
theorem s_Folk_agesAt_2  (C : xCx) (L r : List Value) (hp : xHp) : (xV k_Folk_agesAt C 2 L (r) hp) = (xV k_Folk_agesAt C 3 L (.int (0) :: r) hp) := xVe _ _ _ _ _ _
theorem s_Folk_agesAt_3 (C : xCx) (r : List Value) (hp : xHp) (x : Int32) (a0 a1 a2 a3 : Value) : (xV k_Folk_agesAt C 3 [a0, a1, a2, a3] (.int x :: r) hp) = (3 < 4 ∧ xNl [a0, a1, a2, a3] 3 ∧ xV k_Folk_agesAt C 4 [a0, a1, a2, .int x] r hp) := xVe _ _ _ _ _ _
theorem s_Folk_agesAt_4 (C : xCx) (r : List Value) (hp : xHp) (x : Int32) (a0 a1 a2 : Value) : (xV k_Folk_agesAt C 4 [a0, a1, a2, .int x] r hp) = (xV k_Folk_agesAt C 5 [a0, a1, a2, .int x] (.int x :: r) hp) := xVe _ _ _ _ _ _
theorem s_Folk_agesAt_5 (C : xCx) (r : List Value) (hp : xHp) (x : Nat) (a1 a2 a3 : Value) : (xV k_Folk_agesAt C 5 [.ref x, a1, a2, a3] r hp) = (True ∧ xV k_Folk_agesAt C 6 [.ref x, a1, a2, a3] (.ref x :: r) hp) := xVe _ _ _ _ _ _
theorem s_Folk_agesAt_6 (a : Nat) (C : xCx) (L r : List Value) (hp : xHp) : (xV k_Folk_agesAt C 6 L (.ref a :: r) hp) = (xF hp a 3 3 (fun v => xV k_Folk_agesAt C 9 L (v :: r) hp)) := xVe _ _ _ _ _ _
theorem s_Folk_agesAt_9 (x y : Int32) (C : xCx) (L r : List Value) (hp : xHp) : (xV k_Folk_agesAt C 9 L (.int y :: .int x :: r) hp) = (((y ≤ x → xV k_Folk_agesAt C 45 L r hp) ∧ (¬ y ≤ x → xV k_Folk_agesAt C 12 L r hp))) := xVe _ _ _ _ _ _
theorem s_Folk_agesAt_12 (C : xCx) (r : List Value) (hp : xHp) (x : Int32) (a0 a1 a3 : Value) : (xV k_Folk_agesAt C 12 [a0, a1, .int x, a3] r hp) = (xV k_Folk_agesAt C 13 [a0, a1, .int x, a3] (.int x :: r) hp) := xVe _ _ _ _ _ _
theorem s_Folk_agesAt_13 (C : xCx) (r : List Value) (hp : xHp) (x : Nat) (a1 a2 a3 : Value) : (xV k_Folk_agesAt C 13 [.ref x, a1, a2, a3] r hp) = (True ∧ xV k_Folk_agesAt C 14 [.ref x, a1, a2, a3] (.ref x :: r) hp) := xVe _ _ _ _ _ _
theorem s_Folk_agesAt_14 (a : Nat) (C : xCx) (L r : List Value) (hp : xHp) : (xV k_Folk_agesAt C 14 L (.ref a :: r) hp) = (xF hp a 3 1 (fun v => xV k_Folk_agesAt C 17 L (v :: r) hp)) := xVe _ _ _ _ _ _
theorem s_Folk_agesAt_17 (C : xCx) (r : List Value) (hp : xHp) (x : Int32) (a0 a1 a2 : Value) : (xV k_Folk_agesAt C 17 [a0, a1, a2, .int x] r hp) = (xV k_Folk_agesAt C 18 [a0, a1, a2, .int x] (.int x :: r) hp) := xVe _ _ _ _ _ _
theorem s_Folk_agesAt_18 (x0 : Nat) (x1 : Int32) (l : Launch) (d b lo gz n0 s0 : Nat) (Po : Option Value → xHp → Prop) (L r : List Value) (hp : xHp) : (xV k_Folk_agesAt (l, d + 1, b, lo, gz, n0, s0, m_Folk_agesAt, Po) 18 L (.int x1 :: .ref x0 :: r) hp) = (2 ≤ List.length (.int x1 :: .ref x0 :: r) ∧ xcs r 8 ∧ xMi l d b lo gz m_So_at [.ref x0, .int x1] hp (fun x hp' => xV k_Folk_agesAt (l, d + 1, b, lo, gz, n0, s0, m_Folk_agesAt, Po) 21 L (.int x :: r) hp')) := xVe _ _ _ _ _ _
theorem s_Folk_agesAt_21 (C : xCx) (r : List Value) (hp : xHp) (x : Int32) (a0 a2 a3 : Value) : (xV k_Folk_agesAt C 21 [a0, .int x, a2, a3] r hp) = (xV k_Folk_agesAt C 22 [a0, .int x, a2, a3] (.int x :: r) hp) := xVe _ _ _ _ _ _
theorem s_Folk_agesAt_22 (x y : Int32) (C : xCx) (L r : List Value) (hp : xHp) : (xV k_Folk_agesAt C 22 L (.int y :: .int x :: r) hp) = (((¬ x = y → xV k_Folk_agesAt C 36 L r hp) ∧ (x = y → xV k_Folk_agesAt C 25 L r hp))) := xVe _ _ _ _ _ _
theorem s_Folk_agesAt_25 (C : xCx) (r : List Value) (hp : xHp) (x : Nat) (a1 a2 a3 : Value) : (xV k_Folk_agesAt C 25 [.ref x, a1, a2, a3] r hp) = (True ∧ xV k_Folk_agesAt C 26 [.ref x, a1, a2, a3] (.ref x :: r) hp) := xVe _ _ _ _ _ _
theorem s_Folk_agesAt_26 (a : Nat) (C : xCx) (L r : List Value) (hp : xHp) : (xV k_Folk_agesAt C 26 L (.ref a :: r) hp) = (xF hp a 3 0 (fun v => xV k_Folk_agesAt C 29 L (v :: r) hp)) := xVe _ _ _ _ _ _
theorem s_Folk_agesAt_29 (C : xCx) (r : List Value) (hp : xHp) (x : Int32) (a0 a1 a2 : Value) : (xV k_Folk_agesAt C 29 [a0, a1, a2, .int x] r hp) = (xV k_Folk_agesAt C 30 [a0, a1, a2, .int x] (.int x :: r) hp) := xVe _ _ _ _ _ _
theorem s_Folk_agesAt_30 (x0 : Nat) (x1 : Int32) (l : Launch) (d b lo gz n0 s0 : Nat) (Po : Option Value → xHp → Prop) (L r : List Value) (hp : xHp) : (xV k_Folk_agesAt (l, d + 1, b, lo, gz, n0, s0, m_Folk_agesAt, Po) 30 L (.int x1 :: .ref x0 :: r) hp) = (2 ≤ List.length (.int x1 :: .ref x0 :: r) ∧ xcs r 8 ∧ xMi l d b lo gz m_So_at [.ref x0, .int x1] hp (fun x hp' => xV k_Folk_agesAt (l, d + 1, b, lo, gz, n0, s0, m_Folk_agesAt, Po) 33 L (.int x :: r) hp')) := xVe _ _ _ _ _ _
theorem s_Folk_agesAt_33 (C : xCx) (L r : List Value) (hp : xHp) : (xV k_Folk_agesAt C 33 L r hp) = (xV k_Folk_agesAt C 37 L r hp) := xVe _ _ _ _ _ _
theorem s_Folk_agesAt_36  (C : xCx) (L r : List Value) (hp : xHp) : (xV k_Folk_agesAt C 36 L (r) hp) = (xV k_Folk_agesAt C 37 L (.int (0) :: r) hp) := xVe _ _ _ _ _ _
theorem s_Folk_agesAt_37 (x y : Int32) (C : xCx) (L r : List Value) (hp : xHp) : (xV k_Folk_agesAt C 37 L (.int y :: .int x :: r) hp) = (xV k_Folk_agesAt C 38 L (.int (x + y) :: r) hp) := xVe _ _ _ _ _ _
theorem s_Folk_agesAt_38 (C : xCx) (r : List Value) (hp : xHp) (x : Int32) (a0 a1 a2 a3 : Value) : (xV k_Folk_agesAt C 38 [a0, a1, a2, a3] (.int x :: r) hp) = (2 < 4 ∧ xNl [a0, a1, a2, a3] 2 ∧ xV k_Folk_agesAt C 39 [a0, a1, .int x, a3] r hp) := xVe _ _ _ _ _ _
theorem s_Folk_agesAt_39 (C : xCx) (r : List Value) (hp : xHp) (x : Int32) (a0 a1 a2 : Value) : (xV k_Folk_agesAt C 39 [a0, a1, a2, .int x] r hp) = (xNl [a0, a1, a2, .int x] 3 ∧ xV k_Folk_agesAt C 42 [a0, a1, a2, .int (x + (1))] r hp) := xVe _ _ _ _ _ _
theorem s_Folk_agesAt_42 (C : xCx) (L r : List Value) (hp : xHp) : (xV k_Folk_agesAt C 42 L r hp) = (xV k_Folk_agesAt C 4 L r hp) := xVe _ _ _ _ _ _
theorem s_Folk_agesAt_45 (C : xCx) (r : List Value) (hp : xHp) (x : Int32) (a0 a1 a3 : Value) : (xV k_Folk_agesAt C 45 [a0, a1, .int x, a3] r hp) = (xV k_Folk_agesAt C 46 [a0, a1, .int x, a3] (.int x :: r) hp) := xVe _ _ _ _ _ _
theorem s_Folk_agesAt_46 (v : Int32) (l : Launch) (d b lo gz n0 s0 : Nat) (Po : Option Value → xHp → Prop) (L : List Value) (hp : xHp) : (xV k_Folk_agesAt (l, d, b, lo, gz, n0, s0, m_Folk_agesAt, Po) 46 L [.int v] hp) = (Po (some (.int v)) hp) := xVe _ _ _ _ _ _
def k_Row_number : List xEC := [
  (0, .iload_n 1, 1, 0, 0, 0, m_x),
  (1, .ifCond .lt 21, 4, 0, 22, 0, m_x),
  (4, .iload_n 1, 5, 0, 0, 0, m_x),
  (5, .aload_n 0, 6, 0, 0, 0, m_x),
  (6, .getfield 7, 9, 7, 0, 0, m_x),
  (9, .arraylength, 10, 0, 0, 0, m_x),
  (10, .if_icmp .ge 12, 13, 0, 22, 0, m_x),
  (13, .aload_n 0, 14, 0, 0, 0, m_x),
  (14, .getfield 7, 17, 7, 0, 0, m_x),
  (17, .iload_n 1, 18, 0, 0, 0, m_x),
  (18, .laload, 19, 0, 0, 0, m_x),
  (19, .goto 4, 22, 0, 23, 0, m_x),
  (22, .lconst 0, 23, 0, 0, 0, m_x),
  (23, .lreturn, 24, 0, 0, 0, m_x)]
theorem dc_Row_number : ∀ E ∈ k_Row_number, xDc m_Row_number E := by decide +kernel
set_option maxRecDepth 20000 in
theorem ok_Row_number : ∀ E ∈ k_Row_number, xOk m_Row_number E := xok_of dc_Row_number (xfc trivial (xfc (show ((1 : Nat) : Int) + (21) = ((22 : Nat) : Int) from by decide) (xfc trivial (xfc trivial (xfc fl_Row_7 (xfc trivial (xfc (show ((10 : Nat) : Int) + (12) = ((22 : Nat) : Int) from by decide) (xfc trivial (xfc fl_Row_7 (xfc trivial (xfc trivial (xfc (show ((19 : Nat) : Int) + (4) = ((23 : Nat) : Int) from by decide) (xfc trivial (xfc trivial (xfn)))))))))))))))
theorem s_Row_number_0 (C : xCx) (r : List Value) (hp : xHp) (x : Int32) (a0 : Value) : (xV k_Row_number C 0 [a0, .int x] r hp) = (xV k_Row_number C 1 [a0, .int x] (.int x :: r) hp) := xVe _ _ _ _ _ _
theorem s_Row_number_1 (x : Int32) (C : xCx) (L r : List Value) (hp : xHp) : (xV k_Row_number C 1 L (.int x :: r) hp) = (((x < 0 → xV k_Row_number C 22 L r hp) ∧ (¬ x < 0 → xV k_Row_number C 4 L r hp))) := xVe _ _ _ _ _ _
theorem s_Row_number_4 (C : xCx) (r : List Value) (hp : xHp) (x : Int32) (a0 : Value) : (xV k_Row_number C 4 [a0, .int x] r hp) = (xV k_Row_number C 5 [a0, .int x] (.int x :: r) hp) := xVe _ _ _ _ _ _
theorem s_Row_number_5 (C : xCx) (r : List Value) (hp : xHp) (x : Nat) (a1 : Value) : (xV k_Row_number C 5 [.ref x, a1] r hp) = (True ∧ xV k_Row_number C 6 [.ref x, a1] (.ref x :: r) hp) := xVe _ _ _ _ _ _
theorem s_Row_number_6 (a : Nat) (C : xCx) (L r : List Value) (hp : xHp) : (xV k_Row_number C 6 L (.ref a :: r) hp) = (xF hp a 7 0 (fun v => xV k_Row_number C 9 L (v :: r) hp)) := xVe _ _ _ _ _ _
theorem s_Row_number_9 (a : Nat) (C : xCx) (L r : List Value) (hp : xHp) : (xV k_Row_number C 9 L (.ref a :: r) hp) = (xLn hp a (fun n => xV k_Row_number C 10 L (.int (Int32.ofNat n) :: r) hp)) := xVe _ _ _ _ _ _
theorem s_Row_number_10 (x y : Int32) (C : xCx) (L r : List Value) (hp : xHp) : (xV k_Row_number C 10 L (.int y :: .int x :: r) hp) = (((y ≤ x → xV k_Row_number C 22 L r hp) ∧ (¬ y ≤ x → xV k_Row_number C 13 L r hp))) := xVe _ _ _ _ _ _
theorem s_Row_number_13 (C : xCx) (r : List Value) (hp : xHp) (x : Nat) (a1 : Value) : (xV k_Row_number C 13 [.ref x, a1] r hp) = (True ∧ xV k_Row_number C 14 [.ref x, a1] (.ref x :: r) hp) := xVe _ _ _ _ _ _
theorem s_Row_number_14 (a : Nat) (C : xCx) (L r : List Value) (hp : xHp) : (xV k_Row_number C 14 L (.ref a :: r) hp) = (xF hp a 7 0 (fun v => xV k_Row_number C 17 L (v :: r) hp)) := xVe _ _ _ _ _ _
theorem s_Row_number_17 (C : xCx) (r : List Value) (hp : xHp) (x : Int32) (a0 : Value) : (xV k_Row_number C 17 [a0, .int x] r hp) = (xV k_Row_number C 18 [a0, .int x] (.int x :: r) hp) := xVe _ _ _ _ _ _
theorem s_Row_number_18 (i : Int32) (a : Nat) (C : xCx) (L r : List Value) (hp : xHp) : (xV k_Row_number C 18 L (.int i :: .ref a :: r) hp) = (xAl hp a (fun n g => vp_in i n ∧ xV k_Row_number C 19 L (.long (g i.toNatClampNeg) :: r) hp)) := xVe _ _ _ _ _ _
theorem s_Row_number_19 (C : xCx) (L r : List Value) (hp : xHp) : (xV k_Row_number C 19 L r hp) = (xV k_Row_number C 23 L r hp) := xVe _ _ _ _ _ _
theorem s_Row_number_22  (C : xCx) (L r : List Value) (hp : xHp) : (xV k_Row_number C 22 L (r) hp) = (xV k_Row_number C 23 L (.long 0 :: r) hp) := xVe _ _ _ _ _ _
theorem s_Row_number_23 (v : Int64) (l : Launch) (d b lo gz n0 s0 : Nat) (Po : Option Value → xHp → Prop) (L : List Value) (hp : xHp) : (xV k_Row_number (l, d, b, lo, gz, n0, s0, m_Row_number, Po) 23 L [.long v] hp) = (Po (some (.long v)) hp) := xVe _ _ _ _ _ _
