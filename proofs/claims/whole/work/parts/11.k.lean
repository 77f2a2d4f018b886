theorem fl_Rule_11 : xFl "SunnyOnes$Rule" 11 8 1 := ⟨("SunnyOnes$Rule", F_Rule, 5), rfl, by decide, wg1 93 (by decide +kernel) rfl⟩
theorem fl_Rule_15 : xFl "SunnyOnes$Rule" 15 8 2 := ⟨("SunnyOnes$Rule", F_Rule, 5), rfl, by decide, wg1 94 (by decide +kernel) rfl⟩
theorem fl_Rule_18 : xFl "SunnyOnes$Rule" 18 8 0 := ⟨("SunnyOnes$Rule", F_Rule, 5), rfl, by decide, wg1 92 (by decide +kernel) rfl⟩
theorem ml_Rule_22 : xLk "SunnyOnes$Rule" 22 m_Rule_beUsual := Or.inl (wg1 84 (by decide +kernel) rfl)
def k_Rule_new : List xEC := [
  (0, .aload_n 0, 1, 0, 0, 0, m_x),
  (1, .invokespecial 3, 4, 0, 0, 1, m_x),
  (4, .aload_n 0, 5, 0, 0, 0, m_x),
  (5, .bipush 40, 7, 0, 0, 0, m_x),
  (7, .newarray .int, 9, 0, 0, 0, m_x),
  (9, .putfield 11, 12, 8, 1, 0, m_x),
  (12, .aload_n 0, 13, 0, 0, 0, m_x),
  (13, .bipush 40, 15, 0, 0, 0, m_x),
  (15, .newarray .int, 17, 0, 0, 0, m_x),
  (17, .putfield 15, 20, 8, 2, 0, m_x),
  (20, .aload_n 0, 21, 0, 0, 0, m_x),
  (21, .aload_n 1, 22, 0, 0, 0, m_x),
  (22, .putfield 18, 25, 8, 0, 0, m_x),
  (25, .aload_n 0, 26, 0, 0, 0, m_x),
  (26, .invokevirtual 22, 29, 8, 0, 0, m_Rule_beUsual),
  (29, .return_, 30, 0, 0, 0, m_x)]
theorem dc_Rule_new : ∀ E ∈ k_Rule_new, xDc m_Rule_new E := by decide +kernel
set_option maxRecDepth 20000 in
theorem ok_Rule_new : ∀ E ∈ k_Rule_new, xOk m_Rule_new E := xok_of dc_Rule_new (xfc trivial (xfc ⟨wg1 83 (by decide +kernel) rfl, wg1 26 (by decide +kernel) rfl, wg1 27 (by decide +kernel) rfl⟩ (xfc trivial (xfc trivial (xfc ⟨wg1 41 (by decide +kernel) rfl, by unfold xAty; decide⟩ (xfc ⟨fl_Rule_11, fun q h f => by cases h; exact ⟨rfl, rfl⟩⟩ (xfc trivial (xfc trivial (xfc ⟨wg1 41 (by decide +kernel) rfl, by unfold xAty; decide⟩ (xfc ⟨fl_Rule_15, fun q h f => by cases h; exact ⟨rfl, rfl⟩⟩ (xfc trivial (xfc trivial (xfc ⟨fl_Rule_18, fun q h f => by cases h; exact ⟨rfl, rfl⟩⟩ (xfc trivial (xfc ⟨ml_Rule_22, kd_Rule_beUsual⟩ (xfc trivial (xfn)))))))))))))))))
theorem s_Rule_new_0 (C : xCx) (r : List Value) (hp : xHp) (x : Nat) (a1 : Value) : (xV k_Rule_new C 0 [.ref x, a1] r hp) = (True ∧ xV k_Rule_new C 1 [.ref x, a1] (.ref x :: r) hp) := xVe _ _ _ _ _ _
theorem s_Rule_new_1 (a : Nat) (l : Launch) (d b lo gz n0 s0 : Nat) (Po : Option Value → xHp → Prop) (L r : List Value) (hp : xHp) : (xV k_Rule_new (l, d + 1, b, lo, gz, n0, s0, m_Rule_new, Po) 1 L (.ref a :: r) hp) = (xcs r 8 ∧ xV k_Rule_new (l, d + 1, b, lo, gz, n0, s0, m_Rule_new, Po) 4 L r hp) := xVe _ _ _ _ _ _
theorem s_Rule_new_4 (C : xCx) (r : List Value) (hp : xHp) (x : Nat) (a1 : Value) : (xV k_Rule_new C 4 [.ref x, a1] r hp) = (True ∧ xV k_Rule_new C 5 [.ref x, a1] (.ref x :: r) hp) := xVe _ _ _ _ _ _
theorem s_Rule_new_5  (C : xCx) (L r : List Value) (hp : xHp) : (xV k_Rule_new C 5 L (r) hp) = (xV k_Rule_new C 7 L (.int (40) :: r) hp) := xVe _ _ _ _ _ _
theorem s_Rule_new_7 (n : Int32) (l : Launch) (d b lo gz n0 s0 : Nat) (Po : Option Value → xHp → Prop) (L r : List Value) (hp : xHp) : (xV k_Rule_new (l, d, b, lo, gz, n0, s0, m_Rule_new, Po) 7 L (.int n :: r) hp) = (¬ n < 0 ∧ n.toNatClampNeg ≤ 10000 ∧ (gz = 0 ∧ hp.2.1 + 1 ≤ n0 + 2 ∧ hp.2.2 + n.toNatClampNeg ≤ s0 + 80) ∧ xV k_Rule_new (l, d, b, lo, gz, n0, s0, m_Rule_new, Po) 9 L (.ref hp.2.1 :: r) (va_up hp.1 hp.2.1 (.inl (.int, xZero .int n.toNatClampNeg)), hp.2.1 + 1, hp.2.2 + n.toNatClampNeg)) := xVe _ _ _ _ _ _
theorem s_Rule_new_9 (x a : Nat) (C : xCx) (L r : List Value) (hp : xHp) : (xV k_Rule_new C 9 L (.ref x :: .ref a :: r) hp) = (True ∧ xPf hp a 8 1 (.ref x) (fun hp' => xV k_Rule_new C 12 L r hp')) := xVe _ _ _ _ _ _
theorem s_Rule_new_12 (C : xCx) (r : List Value) (hp : xHp) (x : Nat) (a1 : Value) : (xV k_Rule_new C 12 [.ref x, a1] r hp) = (True ∧ xV k_Rule_new C 13 [.ref x, a1] (.ref x :: r) hp) := xVe _ _ _ _ _ _
theorem s_Rule_new_13  (C : xCx) (L r : List Value) (hp : xHp) : (xV k_Rule_new C 13 L (r) hp) = (xV k_Rule_new C 15 L (.int (40) :: r) hp) := xVe _ _ _ _ _ _
theorem s_Rule_new_15 (n : Int32) (l : Launch) (d b lo gz n0 s0 : Nat) (Po : Option Value → xHp → Prop) (L r : List Value) (hp : xHp) : (xV k_Rule_new (l, d, b, lo, gz, n0, s0, m_Rule_new, Po) 15 L (.int n :: r) hp) = (¬ n < 0 ∧ n.toNatClampNeg ≤ 10000 ∧ (gz = 0 ∧ hp.2.1 + 1 ≤ n0 + 2 ∧ hp.2.2 + n.toNatClampNeg ≤ s0 + 80) ∧ xV k_Rule_new (l, d, b, lo, gz, n0, s0, m_Rule_new, Po) 17 L (.ref hp.2.1 :: r) (va_up hp.1 hp.2.1 (.inl (.int, xZero .int n.toNatClampNeg)), hp.2.1 + 1, hp.2.2 + n.toNatClampNeg)) := xVe _ _ _ _ _ _
theorem s_Rule_new_17 (x a : Nat) (C : xCx) (L r : List Value) (hp : xHp) : (xV k_Rule_new C 17 L (.ref x :: .ref a :: r) hp) = (True ∧ xPf hp a 8 2 (.ref x) (fun hp' => xV k_Rule_new C 20 L r hp')) := xVe _ _ _ _ _ _
theorem s_Rule_new_20 (C : xCx) (r : List Value) (hp : xHp) (x : Nat) (a1 : Value) : (xV k_Rule_new C 20 [.ref x, a1] r hp) = (True ∧ xV k_Rule_new C 21 [.ref x, a1] (.ref x :: r) hp) := xVe _ _ _ _ _ _
theorem s_Rule_new_21 (C : xCx) (r : List Value) (hp : xHp) (x : Nat) (a0 : Value) : (xV k_Rule_new C 21 [a0, .ref x] r hp) = (True ∧ xV k_Rule_new C 22 [a0, .ref x] (.ref x :: r) hp) := xVe _ _ _ _ _ _
theorem s_Rule_new_22 (x a : Nat) (C : xCx) (L r : List Value) (hp : xHp) : (xV k_Rule_new C 22 L (.ref x :: .ref a :: r) hp) = (True ∧ xPf hp a 8 0 (.ref x) (fun hp' => xV k_Rule_new C 25 L r hp')) := xVe _ _ _ _ _ _
theorem s_Rule_new_25 (C : xCx) (r : List Value) (hp : xHp) (x : Nat) (a1 : Value) : (xV k_Rule_new C 25 [.ref x, a1] r hp) = (True ∧ xV k_Rule_new C 26 [.ref x, a1] (.ref x :: r) hp) := xVe _ _ _ _ _ _
theorem s_Rule_new_26 (a : Nat) (l : Launch) (d b lo gz n0 s0 : Nat) (Po : Option Value → xHp → Prop) (L r : List Value) (hp : xHp) : (xV k_Rule_new (l, d + 1, b, lo, gz, n0, s0, m_Rule_new, Po) 26 L (.ref a :: r) hp) = (xO hp a 8 ∧ xcs r 8 ∧ xMv l d b lo gz m_Rule_beUsual [.ref a] hp (fun hp' => xV k_Rule_new (l, d + 1, b, lo, gz, n0, s0, m_Rule_new, Po) 29 L r hp')) := xVe _ _ _ _ _ _
theorem s_Rule_new_29 (l : Launch) (d b lo gz n0 s0 : Nat) (Po : Option Value → xHp → Prop) (L : List Value) (hp : xHp) : (xV k_Rule_new (l, d, b, lo, gz, n0, s0, m_Rule_new, Po) 29 L [] hp) = (hp.2.1 = n0 + 2 ∧ hp.2.2 = s0 + 80 ∧ Po (none) hp) := xVe _ _ _ _ _ _
theorem fl_Rule_25 : xFl "SunnyOnes$Rule" 25 8 3 := ⟨("SunnyOnes$Rule", F_Rule, 5), rfl, by decide, wg1 95 (by decide +kernel) rfl⟩
theorem ml_Rule_50 : xLk "SunnyOnes$Rule" 50 m_Rule_emit := Or.inl (wg1 88 (by decide +kernel) rfl)
def k_Rule_beUsual : List xEC := [
  (0, .aload_n 0, 1, 0, 0, 0, m_x),
  (1, .iconst 0, 2, 0, 0, 0, m_x),
  (2, .putfield 25, 5, 8, 3, 0, m_x),
  (5, .aload_n 0, 6, 0, 0, 0, m_x),
  (6, .iconst (-1), 7, 0, 0, 0, m_x),
  (7, .invokevirtual 50, 10, 8, 0, 0, m_Rule_emit),
  (10, .aload_n 0, 11, 0, 0, 0, m_x),
  (11, .bipush (-2), 13, 0, 0, 0, m_x),
  (13, .invokevirtual 50, 16, 8, 0, 0, m_Rule_emit),
  (16, .aload_n 0, 17, 0, 0, 0, m_x),
  (17, .bipush (-16), 19, 0, 0, 0, m_x),
  (19, .invokevirtual 50, 22, 8, 0, 0, m_Rule_emit),
  (22, .aload_n 0, 23, 0, 0, 0, m_x),
  (23, .bipush 9, 25, 0, 0, 0, m_x),
  (25, .invokevirtual 50, 28, 8, 0, 0, m_Rule_emit),
  (28, .aload_n 0, 29, 0, 0, 0, m_x),
  (29, .bipush (-17), 31, 0, 0, 0, m_x),
  (31, .invokevirtual 50, 34, 8, 0, 0, m_Rule_emit),
  (34, .return_, 35, 0, 0, 0, m_x)]
theorem dc_Rule_beUsual : ∀ E ∈ k_Rule_beUsual, xDc m_Rule_beUsual E := by decide +kernel
set_option maxRecDepth 20000 in
theorem ok_Rule_beUsual : ∀ E ∈ k_Rule_beUsual, xOk m_Rule_beUsual E := xok_of dc_Rule_beUsual (xfc trivial (xfc trivial (xfc ⟨fl_Rule_25, fun q h f => by cases h; exact absurd f (by decide)⟩ (xfc trivial (xfc trivial (xfc ⟨ml_Rule_50, kd_Rule_emit⟩ (xfc trivial (xfc trivial (xfc ⟨ml_Rule_50, kd_Rule_emit⟩ (xfc trivial (xfc trivial (xfc ⟨ml_Rule_50, kd_Rule_emit⟩ (xfc trivial (xfc trivial (xfc ⟨ml_Rule_50, kd_Rule_emit⟩ (xfc trivial (xfc trivial (xfc ⟨ml_Rule_50, kd_Rule_emit⟩ (xfc trivial (xfn))))))))))))))))))))
theorem s_Rule_beUsual_0 (C : xCx) (r : List Value) (hp : xHp) (x : Nat) : (xV k_Rule_beUsual C 0 [.ref x] r hp) = (True ∧ xV k_Rule_beUsual C 1 [.ref x] (.ref x :: r) hp) := xVe _ _ _ _ _ _
theorem s_Rule_beUsual_1  (C : xCx) (L r : List Value) (hp : xHp) : (xV k_Rule_beUsual C 1 L (r) hp) = (xV k_Rule_beUsual C 2 L (.int (0) :: r) hp) := xVe _ _ _ _ _ _
theorem s_Rule_beUsual_2 (x : Int32) (a : Nat) (C : xCx) (L r : List Value) (hp : xHp) : (xV k_Rule_beUsual C 2 L (.int x :: .ref a :: r) hp) = (True ∧ xPf hp a 8 3 (.int x) (fun hp' => xV k_Rule_beUsual C 5 L r hp')) := xVe _ _ _ _ _ _
theorem s_Rule_beUsual_5 (C : xCx) (r : List Value) (hp : xHp) (x : Nat) : (xV k_Rule_beUsual C 5 [.ref x] r hp) = (True ∧ xV k_Rule_beUsual C 6 [.ref x] (.ref x :: r) hp) := xVe _ _ _ _ _ _
theorem s_Rule_beUsual_6  (C : xCx) (L r : List Value) (hp : xHp) : (xV k_Rule_beUsual C 6 L (r) hp) = (xV k_Rule_beUsual C 7 L (.int (-1) :: r) hp) := xVe _ _ _ _ _ _
theorem s_Rule_beUsual_7 (x0 : Int32) (a : Nat) (l : Launch) (d b lo gz n0 s0 : Nat) (Po : Option Value → xHp → Prop) (L r : List Value) (hp : xHp) : (xV k_Rule_beUsual (l, d + 1, b, lo, gz, n0, s0, m_Rule_beUsual, Po) 7 L (.int x0 :: .ref a :: r) hp) = (xO hp a 8 ∧ xcs r 8 ∧ xMv l d b lo gz m_Rule_emit [.ref a, .int x0] hp (fun hp' => xV k_Rule_beUsual (l, d + 1, b, lo, gz, n0, s0, m_Rule_beUsual, Po) 10 L r hp')) := xVe _ _ _ _ _ _
theorem s_Rule_beUsual_10 (C : xCx) (r : List Value) (hp : xHp) (x : Nat) : (xV k_Rule_beUsual C 10 [.ref x] r hp) = (True ∧ xV k_Rule_beUsual C 11 [.ref x] (.ref x :: r) hp) := xVe _ _ _ _ _ _
theorem s_Rule_beUsual_11  (C : xCx) (L r : List Value) (hp : xHp) : (xV k_Rule_beUsual C 11 L (r) hp) = (xV k_Rule_beUsual C 13 L (.int (-2) :: r) hp) := xVe _ _ _ _ _ _
theorem s_Rule_beUsual_13 (x0 : Int32) (a : Nat) (l : Launch) (d b lo gz n0 s0 : Nat) (Po : Option Value → xHp → Prop) (L r : List Value) (hp : xHp) : (xV k_Rule_beUsual (l, d + 1, b, lo, gz, n0, s0, m_Rule_beUsual, Po) 13 L (.int x0 :: .ref a :: r) hp) = (xO hp a 8 ∧ xcs r 8 ∧ xMv l d b lo gz m_Rule_emit [.ref a, .int x0] hp (fun hp' => xV k_Rule_beUsual (l, d + 1, b, lo, gz, n0, s0, m_Rule_beUsual, Po) 16 L r hp')) := xVe _ _ _ _ _ _
theorem s_Rule_beUsual_16 (C : xCx) (r : List Value) (hp : xHp) (x : Nat) : (xV k_Rule_beUsual C 16 [.ref x] r hp) = (True ∧ xV k_Rule_beUsual C 17 [.ref x] (.ref x :: r) hp) := xVe _ _ _ _ _ _
theorem s_Rule_beUsual_17  (C : xCx) (L r : List Value) (hp : xHp) : (xV k_Rule_beUsual C 17 L (r) hp) = (xV k_Rule_beUsual C 19 L (.int (-16) :: r) hp) := xVe _ _ _ _ _ _
theorem s_Rule_beUsual_19 (x0 : Int32) (a : Nat) (l : Launch) (d b lo gz n0 s0 : Nat) (Po : Option Value → xHp → Prop) (L r : List Value) (hp : xHp) : (xV k_Rule_beUsual (l, d + 1, b, lo, gz, n0, s0, m_Rule_beUsual, Po) 19 L (.int x0 :: .ref a :: r) hp) = (xO hp a 8 ∧ xcs r 8 ∧ xMv l d b lo gz m_Rule_emit [.ref a, .int x0] hp (fun hp' => xV k_Rule_beUsual (l, d + 1, b, lo, gz, n0, s0, m_Rule_beUsual, Po) 22 L r hp')) := xVe _ _ _ _ _ _
theorem s_Rule_beUsual_22 (C : xCx) (r : List Value) (hp : xHp) (x : Nat) : (xV k_Rule_beUsual C 22 [.ref x] r hp) = (True ∧ xV k_Rule_beUsual C 23 [.ref x] (.ref x :: r) hp) := xVe _ _ _ _ _ _
theorem s_Rule_beUsual_23  (C : xCx) (L r : List Value) (hp : xHp) : (xV k_Rule_beUsual C 23 L (r) hp) = (xV k_Rule_beUsual C 25 L (.int (9) :: r) hp) := xVe _ _ _ _ _ _
theorem s_Rule_beUsual_25 (x0 : Int32) (a : Nat) (l : Launch) (d b lo gz n0 s0 : Nat) (Po : Option Value → xHp → Prop) (L r : List Value) (hp : xHp) : (xV k_Rule_beUsual (l, d + 1, b, lo, gz, n0, s0, m_Rule_beUsual, Po) 25 L (.int x0 :: .ref a :: r) hp) = (xO hp a 8 ∧ xcs r 8 ∧ xMv l d b lo gz m_Rule_emit [.ref a, .int x0] hp (fun hp' => xV k_Rule_beUsual (l, d + 1, b, lo, gz, n0, s0, m_Rule_beUsual, Po) 28 L r hp')) := xVe _ _ _ _ _ _
theorem s_Rule_beUsual_28 (C : xCx) (r : List Value) (hp : xHp) (x : Nat) : (xV k_Rule_beUsual C 28 [.ref x] r hp) = (True ∧ xV k_Rule_beUsual C 29 [.ref x] (.ref x :: r) hp) := xVe _ _ _ _ _ _
theorem s_Rule_beUsual_29  (C : xCx) (L r : List Value) (hp : xHp) : (xV k_Rule_beUsual C 29 L (r) hp) = (xV k_Rule_beUsual C 31 L (.int (-17) :: r) hp) := xVe _ _ _ _ _ _
theorem s_Rule_beUsual_31 (x0 : Int32) (a : Nat) (l : Launch) (d b lo gz n0 s0 : Nat) (Po : Option Value → xHp → Prop) (L r : List Value) (hp : xHp) : (xV k_Rule_beUsual (l, d + 1, b, lo, gz, n0, s0, m_Rule_beUsual, Po) 31 L (.int x0 :: .ref a :: r) hp) = (xO hp a 8 ∧ xcs r 8 ∧ xMv l d b lo gz m_Rule_emit [.ref a, .int x0] hp (fun hp' => xV k_Rule_beUsual (l, d + 1, b, lo, gz, n0, s0, m_Rule_beUsual, Po) 34 L r hp')) := xVe _ _ _ _ _ _
theorem s_Rule_beUsual_34 (l : Launch) (d b lo gz n0 s0 : Nat) (Po : Option Value → xHp → Prop) (L : List Value) (hp : xHp) : (xV k_Rule_beUsual (l, d, b, lo, gz, n0, s0, m_Rule_beUsual, Po) 34 L [] hp) = (Po (none) hp) := xVe _ _ _ _ _ _
def k_Rule_emit : List xEC := [
  (0, .aload_n 0, 1, 0, 0, 0, m_x),
  (1, .getfield 25, 4, 8, 3, 0, m_x),
  (4, .ifCond .lt 35, 7, 0, 39, 0, m_x),
  (7, .aload_n 0, 8, 0, 0, 0, m_x),
  (8, .getfield 25, 11, 8, 3, 0, m_x),
  (11, .aload_n 0, 12, 0, 0, 0, m_x),
  (12, .getfield 11, 15, 8, 1, 0, m_x),
  (15, .arraylength, 16, 0, 0, 0, m_x),
  (16, .if_icmp .ge 23, 19, 0, 39, 0, m_x),
  (19, .aload_n 0, 20, 0, 0, 0, m_x),
  (20, .getfield 11, 23, 8, 1, 0, m_x),
  (23, .aload_n 0, 24, 0, 0, 0, m_x),
  (24, .getfield 25, 27, 8, 3, 0, m_x),
  (27, .iload_n 1, 28, 0, 0, 0, m_x),
  (28, .iastore, 29, 0, 0, 0, m_x),
  (29, .aload_n 0, 30, 0, 0, 0, m_x),
  (30, .dup, 31, 0, 0, 0, m_x),
  (31, .getfield 25, 34, 8, 3, 0, m_x),
  (34, .iconst 1, 35, 0, 0, 0, m_x),
  (35, .iadd, 36, 0, 0, 0, m_x),
  (36, .putfield 25, 39, 8, 3, 0, m_x),
  (39, .return_, 40, 0, 0, 0, m_x)]
theorem dc_Rule_emit : ∀ E ∈ k_Rule_emit, xDc m_Rule_emit E := by decide +kernel
set_option maxRecDepth 20000 in
theorem ok_Rule_emit : ∀ E ∈ k_Rule_emit, xOk m_Rule_emit E := xok_of dc_Rule_emit (xfc trivial (xfc fl_Rule_25 (xfc (show ((4 : Nat) : Int) + (35) = ((39 : Nat) : Int) from by decide) (xfc trivial (xfc fl_Rule_25 (xfc trivial (xfc fl_Rule_11 (xfc trivial (xfc (show ((16 : Nat) : Int) + (23) = ((39 : Nat) : Int) from by decide) (xfc trivial (xfc fl_Rule_11 (xfc trivial (xfc fl_Rule_25 (xfc trivial (xfc trivial (xfc trivial (xfc trivial (xfc fl_Rule_25 (xfc trivial (xfc trivial (xfc ⟨fl_Rule_25, fun q h f => by cases h; exact absurd f (by decide)⟩ (xfc trivial (xfn)))))))))))))))))))))))
theorem s_Rule_emit_0 (C : xCx) (r : List Value) (hp : xHp) (x : Nat) (a1 : Value) : (xV k_Rule_emit C 0 [.ref x, a1] r hp) = (True ∧ xV k_Rule_emit C 1 [.ref x, a1] (.ref x :: r) hp) := xVe _ _ _ _ _ _
theorem s_Rule_emit_1 (a : Nat) (C : xCx) (L r : List Value) (hp : xHp) : (xV k_Rule_emit C 1 L (.ref a :: r) hp) = (xF hp a 8 3 (fun v => xV k_Rule_emit C 4 L (v :: r) hp)) := xVe _ _ _ _ _ _
theorem s_Rule_emit_4 (x : Int32) (C : xCx) (L r : List Value) (hp : xHp) : (xV k_Rule_emit C 4 L (.int x :: r) hp) = (((x < 0 → xV k_Rule_emit C 39 L r hp) ∧ (¬ x < 0 → xV k_Rule_emit C 7 L r hp))) := xVe _ _ _ _ _ _
theorem s_Rule_emit_7 (C : xCx) (r : List Value) (hp : xHp) (x : Nat) (a1 : Value) : (xV k_Rule_emit C 7 [.ref x, a1] r hp) = (True ∧ xV k_Rule_emit C 8 [.ref x, a1] (.ref x :: r) hp) := xVe _ _ _ _ _ _
theorem s_Rule_emit_8 (a : Nat) (C : xCx) (L r : List Value) (hp : xHp) : (xV k_Rule_emit C 8 L (.ref a :: r) hp) = (xF hp a 8 3 (fun v => xV k_Rule_emit C 11 L (v :: r) hp)) := xVe _ _ _ _ _ _
theorem s_Rule_emit_11 (C : xCx) (r : List Value) (hp : xHp) (x : Nat) (a1 : Value) : (xV k_Rule_emit C 11 [.ref x, a1] r hp) = (True ∧ xV k_Rule_emit C 12 [.ref x, a1] (.ref x :: r) hp) := xVe _ _ _ _ _ _
theorem s_Rule_emit_12 (a : Nat) (C : xCx) (L r : List Value) (hp : xHp) : (xV k_Rule_emit C 12 L (.ref a :: r) hp) = (xF hp a 8 1 (fun v => xV k_Rule_emit C 15 L (v :: r) hp)) := xVe _ _ _ _ _ _
theorem s_Rule_emit_15 (a : Nat) (C : xCx) (L r : List Value) (hp : xHp) : (xV k_Rule_emit C 15 L (.ref a :: r) hp) = (xLn hp a (fun n => xV k_Rule_emit C 16 L (.int (Int32.ofNat n) :: r) hp)) := xVe _ _ _ _ _ _
theorem s_Rule_emit_16 (x y : Int32) (C : xCx) (L r : List Value) (hp : xHp) : (xV k_Rule_emit C 16 L (.int y :: .int x :: r) hp) = (((y ≤ x → xV k_Rule_emit C 39 L r hp) ∧ (¬ y ≤ x → xV k_Rule_emit C 19 L r hp))) := xVe _ _ _ _ _ _
theorem s_Rule_emit_19 (C : xCx) (r : List Value) (hp : xHp) (x : Nat) (a1 : Value) : (xV k_Rule_emit C 19 [.ref x, a1] r hp) = (True ∧ xV k_Rule_emit C 20 [.ref x, a1] (.ref x :: r) hp) := xVe _ _ _ _ _ _
theorem s_Rule_emit_20 (a : Nat) (C : xCx) (L r : List Value) (hp : xHp) : (xV k_Rule_emit C 20 L (.ref a :: r) hp) = (xF hp a 8 1 (fun v => xV k_Rule_emit C 23 L (v :: r) hp)) := xVe _ _ _ _ _ _
theorem s_Rule_emit_23 (C : xCx) (r : List Value) (hp : xHp) (x : Nat) (a1 : Value) : (xV k_Rule_emit C 23 [.ref x, a1] r hp) = (True ∧ xV k_Rule_emit C 24 [.ref x, a1] (.ref x :: r) hp) := xVe _ _ _ _ _ _
theorem s_Rule_emit_24 (a : Nat) (C : xCx) (L r : List Value) (hp : xHp) : (xV k_Rule_emit C 24 L (.ref a :: r) hp) = (xF hp a 8 3 (fun v => xV k_Rule_emit C 27 L (v :: r) hp)) := xVe _ _ _ _ _ _
theorem s_Rule_emit_27 (C : xCx) (r : List Value) (hp : xHp) (x : Int32) (a0 : Value) : (xV k_Rule_emit C 27 [a0, .int x] r hp) = (xV k_Rule_emit C 28 [a0, .int x] (.int x :: r) hp) := xVe _ _ _ _ _ _
theorem s_Rule_emit_28 (x i : Int32) (a : Nat) (C : xCx) (L r : List Value) (hp : xHp) : (xV k_Rule_emit C 28 L (.int x :: .int i :: .ref a :: r) hp) = (xAi hp a (fun ty n g => ty = .int ∧ vp_in i n ∧ xV k_Rule_emit C 29 L r (xup hp a (.inl (.int, n, .inl (upd g i.toNatClampNeg x)))))) := xVe _ _ _ _ _ _
theorem s_Rule_emit_29 (C : xCx) (r : List Value) (hp : xHp) (x : Nat) (a1 : Value) : (xV k_Rule_emit C 29 [.ref x, a1] r hp) = (True ∧ xV k_Rule_emit C 30 [.ref x, a1] (.ref x :: r) hp) := xVe _ _ _ _ _ _
theorem s_Rule_emit_30 (v : Value) (C : xCx) (L r : List Value) (hp : xHp) : (xV k_Rule_emit C 30 L (v :: r) hp) = (v.category = 1 ∧ xV k_Rule_emit C 31 L (v :: v :: r) hp) := xVe _ _ _ _ _ _
theorem s_Rule_emit_31 (a : Nat) (C : xCx) (L r : List Value) (hp : xHp) : (xV k_Rule_emit C 31 L (.ref a :: r) hp) = (xF hp a 8 3 (fun v => xV k_Rule_emit C 34 L (v :: r) hp)) := xVe _ _ _ _ _ _
theorem s_Rule_emit_34  (C : xCx) (L r : List Value) (hp : xHp) : (xV k_Rule_emit C 34 L (r) hp) = (xV k_Rule_emit C 35 L (.int (1) :: r) hp) := xVe _ _ _ _ _ _
theorem s_Rule_emit_35 (x y : Int32) (C : xCx) (L r : List Value) (hp : xHp) : (xV k_Rule_emit C 35 L (.int y :: .int x :: r) hp) = (xV k_Rule_emit C 36 L (.int (x + y) :: r) hp) := xVe _ _ _ _ _ _
theorem s_Rule_emit_36 (x : Int32) (a : Nat) (C : xCx) (L r : List Value) (hp : xHp) : (xV k_Rule_emit C 36 L (.int x :: .ref a :: r) hp) = (True ∧ xPf hp a 8 3 (.int x) (fun hp' => xV k_Rule_emit C 39 L r hp')) := xVe _ _ _ _ _ _
theorem s_Rule_emit_39 (l : Launch) (d b lo gz n0 s0 : Nat) (Po : Option Value → xHp → Prop) (L : List Value) (hp : xHp) : (xV k_Rule_emit (l, d, b, lo, gz, n0, s0, m_Rule_emit, Po) 39 L [] hp) = (Po (none) hp) := xVe _ _ _ _ _ _
theorem fl_Sun_11 : xFl "SunnyOnes$Sun" 11 9 2 := ⟨("SunnyOnes$Sun", F_Sun, 3), rfl, by decide, wg1 116 (by decide +kernel) rfl⟩
theorem fl_Sun_17 : xFl "SunnyOnes$Sun" 17 9 0 := ⟨("SunnyOnes$Sun", F_Sun, 3), rfl, by decide, wg1 114 (by decide +kernel) rfl⟩
theorem fl_Sun_21 : xFl "SunnyOnes$Sun" 21 9 1 := ⟨("SunnyOnes$Sun", F_Sun, 3), rfl, by decide, wg1 115 (by decide +kernel) rfl⟩
def k_Sun_new : List xEC := [
  (0, .aload_n 0, 1, 0, 0, 0, m_x),
  (1, .invokespecial 3, 4, 0, 0, 1, m_x),
  (4, .aload_n 0, 5, 0, 0, 0, m_x),
  (5, .bipush 7, 7, 0, 0, 0, m_x),
  (7, .newarray .int, 9, 0, 0, 0, m_x),
  (9, .putfield 11, 12, 9, 2, 0, m_x),
  (12, .aload_n 0, 13, 0, 0, 0, m_x),
  (13, .aload_n 1, 14, 0, 0, 0, m_x),
  (14, .putfield 17, 17, 9, 0, 0, m_x),
  (17, .aload_n 0, 18, 0, 0, 0, m_x),
  (18, .aload_n 2, 19, 0, 0, 0, m_x),
  (19, .putfield 21, 22, 9, 1, 0, m_x),
  (22, .return_, 23, 0, 0, 0, m_x)]
theorem dc_Sun_new : ∀ E ∈ k_Sun_new, xDc m_Sun_new E := by decide +kernel
set_option maxRecDepth 20000 in
theorem ok_Sun_new : ∀ E ∈ k_Sun_new, xOk m_Sun_new E := xok_of dc_Sun_new (xfc trivial (xfc ⟨wg1 113 (by decide +kernel) rfl, wg1 26 (by decide +kernel) rfl, wg1 27 (by decide +kernel) rfl⟩ (xfc trivial (xfc trivial (xfc ⟨wg1 41 (by decide +kernel) rfl, by unfold xAty; decide⟩ (xfc ⟨fl_Sun_11, fun q h f => by cases h; exact ⟨rfl, rfl⟩⟩ (xfc trivial (xfc trivial (xfc ⟨fl_Sun_17, fun q h f => by cases h; exact ⟨rfl, rfl⟩⟩ (xfc trivial (xfc trivial (xfc ⟨fl_Sun_21, fun q h f => by cases h; exact ⟨rfl, rfl⟩⟩ (xfc trivial (xfn))))))))))))))
theorem s_Sun_new_0 (C : xCx) (r : List Value) (hp : xHp) (x : Nat) (a1 a2 : Value) : (xV k_Sun_new C 0 [.ref x, a1, a2] r hp) = (True ∧ xV k_Sun_new C 1 [.ref x, a1, a2] (.ref x :: r) hp) := xVe _ _ _ _ _ _
theorem s_Sun_new_1 (a : Nat) (l : Launch) (d b lo gz n0 s0 : Nat) (Po : Option Value → xHp → Prop) (L r : List Value) (hp : xHp) : (xV k_Sun_new (l, d + 1, b, lo, gz, n0, s0, m_Sun_new, Po) 1 L (.ref a :: r) hp) = (xcs r 8 ∧ xV k_Sun_new (l, d + 1, b, lo, gz, n0, s0, m_Sun_new, Po) 4 L r hp) := xVe _ _ _ _ _ _
theorem s_Sun_new_4 (C : xCx) (r : List Value) (hp : xHp) (x : Nat) (a1 a2 : Value) : (xV k_Sun_new C 4 [.ref x, a1, a2] r hp) = (True ∧ xV k_Sun_new C 5 [.ref x, a1, a2] (.ref x :: r) hp) := xVe _ _ _ _ _ _
theorem s_Sun_new_5  (C : xCx) (L r : List Value) (hp : xHp) : (xV k_Sun_new C 5 L (r) hp) = (xV k_Sun_new C 7 L (.int (7) :: r) hp) := xVe _ _ _ _ _ _
theorem s_Sun_new_7 (n : Int32) (l : Launch) (d b lo gz n0 s0 : Nat) (Po : Option Value → xHp → Prop) (L r : List Value) (hp : xHp) : (xV k_Sun_new (l, d, b, lo, gz, n0, s0, m_Sun_new, Po) 7 L (.int n :: r) hp) = (¬ n < 0 ∧ n.toNatClampNeg ≤ 10000 ∧ (gz = 0 ∧ hp.2.1 + 1 ≤ n0 + 1 ∧ hp.2.2 + n.toNatClampNeg ≤ s0 + 7) ∧ xV k_Sun_new (l, d, b, lo, gz, n0, s0, m_Sun_new, Po) 9 L (.ref hp.2.1 :: r) (va_up hp.1 hp.2.1 (.inl (.int, xZero .int n.toNatClampNeg)), hp.2.1 + 1, hp.2.2 + n.toNatClampNeg)) := xVe _ _ _ _ _ _
theorem s_Sun_new_9 (x a : Nat) (C : xCx) (L r : List Value) (hp : xHp) : (xV k_Sun_new C 9 L (.ref x :: .ref a :: r) hp) = (True ∧ xPf hp a 9 2 (.ref x) (fun hp' => xV k_Sun_new C 12 L r hp')) := xVe _ _ _ _ _ _
theorem s_Sun_new_12 (C : xCx) (r : List Value) (hp : xHp) (x : Nat) (a1 a2 : Value) : (xV k_Sun_new C 12 [.ref x, a1, a2] r hp) = (True ∧ xV k_Sun_new C 13 [.ref x, a1, a2] (.ref x :: r) hp) := xVe _ _ _ _ _ _
theorem s_Sun_new_13 (C : xCx) (r : List Value) (hp : xHp) (x : Nat) (a0 a2 : Value) : (xV k_Sun_new C 13 [a0, .ref x, a2] r hp) = (True ∧ xV k_Sun_new C 14 [a0, .ref x, a2] (.ref x :: r) hp) := xVe _ _ _ _ _ _
theorem s_Sun_new_14 (x a : Nat) (C : xCx) (L r : List Value) (hp : xHp) : (xV k_Sun_new C 14 L (.ref x :: .ref a :: r) hp) = (True ∧ xPf hp a 9 0 (.ref x) (fun hp' => xV k_Sun_new C 17 L r hp')) := xVe _ _ _ _ _ _
theorem s_Sun_new_17 (C : xCx) (r : List Value) (hp : xHp) (x : Nat) (a1 a2 : Value) : (xV k_Sun_new C 17 [.ref x, a1, a2] r hp) = (True ∧ xV k_Sun_new C 18 [.ref x, a1, a2] (.ref x :: r) hp) := xVe _ _ _ _ _ _
theorem s_Sun_new_18 (C : xCx) (r : List Value) (hp : xHp) (x : Nat) (a0 a1 : Value) : (xV k_Sun_new C 18 [a0, a1, .ref x] r hp) = (True ∧ xV k_Sun_new C 19 [a0, a1, .ref x] (.ref x :: r) hp) := xVe _ _ _ _ _ _
theorem s_Sun_new_19 (x a : Nat) (C : xCx) (L r : List Value) (hp : xHp) : (xV k_Sun_new C 19 L (.ref x :: .ref a :: r) hp) = (True ∧ xPf hp a 9 1 (.ref x) (fun hp' => xV k_Sun_new C 22 L r hp')) := xVe _ _ _ _ _ _
theorem s_Sun_new_22 (l : Launch) (d b lo gz n0 s0 : Nat) (Po : Option Value → xHp → Prop) (L : List Value) (hp : xHp) : (xV k_Sun_new (l, d, b, lo, gz, n0, s0, m_Sun_new, Po) 22 L [] hp) = (hp.2.1 = n0 + 1 ∧ hp.2.2 = s0 + 7 ∧ Po (none) hp) := xVe _ _ _ _ _ _
theorem fl_Walk_11 : xFl "SunnyOnes$Walk" 11 11 3 := ⟨("SunnyOnes$Walk", F_Walk, 9), rfl, by decide, wg1 203 (by decide +kernel) rfl⟩
theorem fl_Walk_15 : xFl "SunnyOnes$Walk" 15 11 4 := ⟨("SunnyOnes$Walk", F_Walk, 9), rfl, by decide, wg1 204 (by decide +kernel) rfl⟩
theorem fl_Walk_18 : xFl "SunnyOnes$Walk" 18 11 0 := ⟨("SunnyOnes$Walk", F_Walk, 9), rfl, by decide, wg1 200 (by decide +kernel) rfl⟩
theorem fl_Walk_22 : xFl "SunnyOnes$Walk" 22 11 1 := ⟨("SunnyOnes$Walk", F_Walk, 9), rfl, by decide, wg1 201 (by decide +kernel) rfl⟩
theorem fl_Walk_26 : xFl "SunnyOnes$Walk" 26 11 2 := ⟨("SunnyOnes$Walk", F_Walk, 9), rfl, by decide, wg1 202 (by decide +kernel) rfl⟩
def k_Walk_new : List xEC := [
  (0, .aload_n 0, 1, 0, 0, 0, m_x),
  (1, .invokespecial 3, 4, 0, 0, 1, m_x),
  (4, .aload_n 0, 5, 0, 0, 0, m_x),
  (5, .iconst 4, 6, 0, 0, 0, m_x),
  (6, .newarray .int, 8, 0, 0, 0, m_x),
  (8, .putfield 11, 11, 11, 3, 0, m_x),
  (11, .aload_n 0, 12, 0, 0, 0, m_x),
  (12, .iconst 4, 13, 0, 0, 0, m_x),
  (13, .newarray .int, 15, 0, 0, 0, m_x),
  (15, .putfield 15, 18, 11, 4, 0, m_x),
  (18, .aload_n 0, 19, 0, 0, 0, m_x),
  (19, .aload_n 1, 20, 0, 0, 0, m_x),
  (20, .putfield 18, 23, 11, 0, 0, m_x),
  (23, .aload_n 0, 24, 0, 0, 0, m_x),
  (24, .aload_n 2, 25, 0, 0, 0, m_x),
  (25, .putfield 22, 28, 11, 1, 0, m_x),
  (28, .aload_n 0, 29, 0, 0, 0, m_x),
  (29, .aload_n 3, 30, 0, 0, 0, m_x),
  (30, .putfield 26, 33, 11, 2, 0, m_x),
  (33, .return_, 34, 0, 0, 0, m_x)]
theorem dc_Walk_new : ∀ E ∈ k_Walk_new, xDc m_Walk_new E := by decide +kernel
set_option maxRecDepth 20000 in
theorem ok_Walk_new : ∀ E ∈ k_Walk_new, xOk m_Walk_new E := xok_of dc_Walk_new (xfc trivial (xfc ⟨wg1 199 (by decide +kernel) rfl, wg1 26 (by decide +kernel) rfl, wg1 27 (by decide +kernel) rfl⟩ (xfc trivial (xfc trivial (xfc ⟨wg1 41 (by decide +kernel) rfl, by unfold xAty; decide⟩ (xfc ⟨fl_Walk_11, fun q h f => by cases h; exact ⟨rfl, rfl⟩⟩ (xfc trivial (xfc trivial (xfc ⟨wg1 41 (by decide +kernel) rfl, by unfold xAty; decide⟩ (xfc ⟨fl_Walk_15, fun q h f => by cases h; exact ⟨rfl, rfl⟩⟩ (xfc trivial (xfc trivial (xfc ⟨fl_Walk_18, fun q h f => by cases h; exact ⟨rfl, rfl⟩⟩ (xfc trivial (xfc trivial (xfc ⟨fl_Walk_22, fun q h f => by cases h; exact ⟨rfl, rfl⟩⟩ (xfc trivial (xfc trivial (xfc ⟨fl_Walk_26, fun q h f => by cases h; exact ⟨rfl, rfl⟩⟩ (xfc trivial (xfn)))))))))))))))))))))
theorem s_Walk_new_0 (C : xCx) (r : List Value) (hp : xHp) (x : Nat) (a1 a2 a3 : Value) : (xV k_Walk_new C 0 [.ref x, a1, a2, a3] r hp) = (True ∧ xV k_Walk_new C 1 [.ref x, a1, a2, a3] (.ref x :: r) hp) := xVe _ _ _ _ _ _
theorem s_Walk_new_1 (a : Nat) (l : Launch) (d b lo gz n0 s0 : Nat) (Po : Option Value → xHp → Prop) (L r : List Value) (hp : xHp) : (xV k_Walk_new (l, d + 1, b, lo, gz, n0, s0, m_Walk_new, Po) 1 L (.ref a :: r) hp) = (xcs r 8 ∧ xV k_Walk_new (l, d + 1, b, lo, gz, n0, s0, m_Walk_new, Po) 4 L r hp) := xVe _ _ _ _ _ _
theorem s_Walk_new_4 (C : xCx) (r : List Value) (hp : xHp) (x : Nat) (a1 a2 a3 : Value) : (xV k_Walk_new C 4 [.ref x, a1, a2, a3] r hp) = (True ∧ xV k_Walk_new C 5 [.ref x, a1, a2, a3] (.ref x :: r) hp) := xVe _ _ _ _ _ _
theorem s_Walk_new_5  (C : xCx) (L r : List Value) (hp : xHp) : (xV k_Walk_new C 5 L (r) hp) = (xV k_Walk_new C 6 L (.int (4) :: r) hp) := xVe _ _ _ _ _ _
theorem s_Walk_new_6 (n : Int32) (l : Launch) (d b lo gz n0 s0 : Nat) (Po : Option Value → xHp → Prop) (L r : List Value) (hp : xHp) : (xV k_Walk_new (l, d, b, lo, gz, n0, s0, m_Walk_new, Po) 6 L (.int n :: r) hp) = (¬ n < 0 ∧ n.toNatClampNeg ≤ 10000 ∧ (gz = 0 ∧ hp.2.1 + 1 ≤ n0 + 2 ∧ hp.2.2 + n.toNatClampNeg ≤ s0 + 8) ∧ xV k_Walk_new (l, d, b, lo, gz, n0, s0, m_Walk_new, Po) 8 L (.ref hp.2.1 :: r) (va_up hp.1 hp.2.1 (.inl (.int, xZero .int n.toNatClampNeg)), hp.2.1 + 1, hp.2.2 + n.toNatClampNeg)) := xVe _ _ _ _ _ _
theorem s_Walk_new_8 (x a : Nat) (C : xCx) (L r : List Value) (hp : xHp) : (xV k_Walk_new C 8 L (.ref x :: .ref a :: r) hp) = (True ∧ xPf hp a 11 3 (.ref x) (fun hp' => xV k_Walk_new C 11 L r hp')) := xVe _ _ _ _ _ _
theorem s_Walk_new_11 (C : xCx) (r : List Value) (hp : xHp) (x : Nat) (a1 a2 a3 : Value) : (xV k_Walk_new C 11 [.ref x, a1, a2, a3] r hp) = (True ∧ xV k_Walk_new C 12 [.ref x, a1, a2, a3] (.ref x :: r) hp) := xVe _ _ _ _ _ _
theorem s_Walk_new_12  (C : xCx) (L r : List Value) (hp : xHp) : (xV k_Walk_new C 12 L (r) hp) = (xV k_Walk_new C 13 L (.int (4) :: r) hp) := xVe _ _ _ _ _ _
theorem s_Walk_new_13 (n : Int32) (l : Launch) (d b lo gz n0 s0 : Nat) (Po : Option Value → xHp → Prop) (L r : List Value) (hp : xHp) : (xV k_Walk_new (l, d, b, lo, gz, n0, s0, m_Walk_new, Po) 13 L (.int n :: r) hp) = (¬ n < 0 ∧ n.toNatClampNeg ≤ 10000 ∧ (gz = 0 ∧ hp.2.1 + 1 ≤ n0 + 2 ∧ hp.2.2 + n.toNatClampNeg ≤ s0 + 8) ∧ xV k_Walk_new (l, d, b, lo, gz, n0, s0, m_Walk_new, Po) 15 L (.ref hp.2.1 :: r) (va_up hp.1 hp.2.1 (.inl (.int, xZero .int n.toNatClampNeg)), hp.2.1 + 1, hp.2.2 + n.toNatClampNeg)) := xVe _ _ _ _ _ _
theorem s_Walk_new_15 (x a : Nat) (C : xCx) (L r : List Value) (hp : xHp) : (xV k_Walk_new C 15 L (.ref x :: .ref a :: r) hp) = (True ∧ xPf hp a 11 4 (.ref x) (fun hp' => xV k_Walk_new C 18 L r hp')) := xVe _ _ _ _ _ _
theorem s_Walk_new_18 (C : xCx) (r : List Value) (hp : xHp) (x : Nat) (a1 a2 a3 : Value) : (xV k_Walk_new C 18 [.ref x, a1, a2, a3] r hp) = (True ∧ xV k_Walk_new C 19 [.ref x, a1, a2, a3] (.ref x :: r) hp) := xVe _ _ _ _ _ _
theorem s_Walk_new_19 (C : xCx) (r : List Value) (hp : xHp) (x : Nat) (a0 a2 a3 : Value) : (xV k_Walk_new C 19 [a0, .ref x, a2, a3] r hp) = (True ∧ xV k_Walk_new C 20 [a0, .ref x, a2, a3] (.ref x :: r) hp) := xVe _ _ _ _ _ _
theorem s_Walk_new_20 (x a : Nat) (C : xCx) (L r : List Value) (hp : xHp) : (xV k_Walk_new C 20 L (.ref x :: .ref a :: r) hp) = (True ∧ xPf hp a 11 0 (.ref x) (fun hp' => xV k_Walk_new C 23 L r hp')) := xVe _ _ _ _ _ _
theorem s_Walk_new_23 (C : xCx) (r : List Value) (hp : xHp) (x : Nat) (a1 a2 a3 : Value) : (xV k_Walk_new C 23 [.ref x, a1, a2, a3] r hp) = (True ∧ xV k_Walk_new C 24 [.ref x, a1, a2, a3] (.ref x :: r) hp) := xVe _ _ _ _ _ _
theorem s_Walk_new_24 (C : xCx) (r : List Value) (hp : xHp) (x : Nat) (a0 a1 a3 : Value) : (xV k_Walk_new C 24 [a0, a1, .ref x, a3] r hp) = (True ∧ xV k_Walk_new C 25 [a0, a1, .ref x, a3] (.ref x :: r) hp) := xVe _ _ _ _ _ _
theorem s_Walk_new_25 (x a : Nat) (C : xCx) (L r : List Value) (hp : xHp) : (xV k_Walk_new C 25 L (.ref x :: .ref a :: r) hp) = (True ∧ xPf hp a 11 1 (.ref x) (fun hp' => xV k_Walk_new C 28 L r hp')) := xVe _ _ _ _ _ _
theorem s_Walk_new_28 (C : xCx) (r : List Value) (hp : xHp) (x : Nat) (a1 a2 a3 : Value) : (xV k_Walk_new C 28 [.ref x, a1, a2, a3] r hp) = (True ∧ xV k_Walk_new C 29 [.ref x, a1, a2, a3] (.ref x :: r) hp) := xVe _ _ _ _ _ _
theorem s_Walk_new_29 (C : xCx) (r : List Value) (hp : xHp) (x : Nat) (a0 a1 a2 : Value) : (xV k_Walk_new C 29 [a0, a1, a2, .ref x] r hp) = (True ∧ xV k_Walk_new C 30 [a0, a1, a2, .ref x] (.ref x :: r) hp) := xVe _ _ _ _ _ _
theorem s_Walk_new_30 (x a : Nat) (C : xCx) (L r : List Value) (hp : xHp) : (xV k_Walk_new C 30 L (.ref x :: .ref a :: r) hp) = (True ∧ xPf hp a 11 2 (.ref x) (fun hp' => xV k_Walk_new C 33 L r hp')) := xVe _ _ _ _ _ _
theorem s_Walk_new_33 (l : Launch) (d b lo gz n0 s0 : Nat) (Po : Option Value → xHp → Prop) (L : List Value) (hp : xHp) : (xV k_Walk_new (l, d, b, lo, gz, n0, s0, m_Walk_new, Po) 33 L [] hp) = (hp.2.1 = n0 + 2 ∧ hp.2.2 = s0 + 8 ∧ Po (none) hp) := xVe _ _ _ _ _ _
theorem fl_Rooms_9 : xFl "SunnyOnes$Rooms" 9 6 2 := ⟨("SunnyOnes$Rooms", F_Rooms, 9), rfl, by decide, wg1 236 (by decide +kernel) rfl⟩
theorem fl_Rooms_15 : xFl "SunnyOnes$Rooms" 15 6 3 := ⟨("SunnyOnes$Rooms", F_Rooms, 9), rfl, by decide, wg1 237 (by decide +kernel) rfl⟩
theorem fl_Rooms_18 : xFl "SunnyOnes$Rooms" 18 6 4 := ⟨("SunnyOnes$Rooms", F_Rooms, 9), rfl, by decide, wg1 238 (by decide +kernel) rfl⟩
theorem fl_Rooms_21 : xFl "SunnyOnes$Rooms" 21 6 0 := ⟨("SunnyOnes$Rooms", F_Rooms, 9), rfl, by decide, wg1 234 (by decide +kernel) rfl⟩
theorem fl_Rooms_25 : xFl "SunnyOnes$Rooms" 25 6 1 := ⟨("SunnyOnes$Rooms", F_Rooms, 9), rfl, by decide, wg1 235 (by decide +kernel) rfl⟩
def k_Rooms_new : List xEC := [
  (0, .aload_n 0, 1, 0, 0, 0, m_x),
  (1, .invokespecial 3, 4, 0, 0, 1, m_x),
  (4, .aload_n 0, 5, 0, 0, 0, m_x),
  (5, .bipush 42, 7, 0, 0, 0, m_x),
  (7, .newarray .int, 9, 0, 0, 0, m_x),
  (9, .putfield 9, 12, 6, 2, 0, m_x),
  (12, .aload_n 0, 13, 0, 0, 0, m_x),
  (13, .bipush 7, 15, 0, 0, 0, m_x),
  (15, .newarray .int, 17, 0, 0, 0, m_x),
  (17, .putfield 15, 20, 6, 3, 0, m_x),
  (20, .aload_n 0, 21, 0, 0, 0, m_x),
  (21, .bipush 7, 23, 0, 0, 0, m_x),
  (23, .newarray .int, 25, 0, 0, 0, m_x),
  (25, .putfield 18, 28, 6, 4, 0, m_x),
  (28, .aload_n 0, 29, 0, 0, 0, m_x),
  (29, .aload_n 1, 30, 0, 0, 0, m_x),
  (30, .putfield 21, 33, 6, 0, 0, m_x),
  (33, .aload_n 0, 34, 0, 0, 0, m_x),
  (34, .aload_n 2, 35, 0, 0, 0, m_x),
  (35, .putfield 25, 38, 6, 1, 0, m_x),
  (38, .return_, 39, 0, 0, 0, m_x)]
theorem dc_Rooms_new : ∀ E ∈ k_Rooms_new, xDc m_Rooms_new E := by decide +kernel
set_option maxRecDepth 20000 in
theorem ok_Rooms_new : ∀ E ∈ k_Rooms_new, xOk m_Rooms_new E := xok_of dc_Rooms_new (xfc trivial (xfc ⟨wg1 233 (by decide +kernel) rfl, wg1 26 (by decide +kernel) rfl, wg1 27 (by decide +kernel) rfl⟩ (xfc trivial (xfc trivial (xfc ⟨wg1 41 (by decide +kernel) rfl, by unfold xAty; decide⟩ (xfc ⟨fl_Rooms_9, fun q h f => by cases h; exact ⟨rfl, rfl⟩⟩ (xfc trivial (xfc trivial (xfc ⟨wg1 41 (by decide +kernel) rfl, by unfold xAty; decide⟩ (xfc ⟨fl_Rooms_15, fun q h f => by cases h; exact ⟨rfl, rfl⟩⟩ (xfc trivial (xfc trivial (xfc ⟨wg1 41 (by decide +kernel) rfl, by unfold xAty; decide⟩ (xfc ⟨fl_Rooms_18, fun q h f => by cases h; exact ⟨rfl, rfl⟩⟩ (xfc trivial (xfc trivial (xfc ⟨fl_Rooms_21, fun q h f => by cases h; exact ⟨rfl, rfl⟩⟩ (xfc trivial (xfc trivial (xfc ⟨fl_Rooms_25, fun q h f => by cases h; exact ⟨rfl, rfl⟩⟩ (xfc trivial (xfn))))))))))))))))))))))
theorem s_Rooms_new_0 (C : xCx) (r : List Value) (hp : xHp) (x : Nat) (a1 a2 : Value) : (xV k_Rooms_new C 0 [.ref x, a1, a2] r hp) = (True ∧ xV k_Rooms_new C 1 [.ref x, a1, a2] (.ref x :: r) hp) := xVe _ _ _ _ _ _
theorem s_Rooms_new_1 (a : Nat) (l : Launch) (d b lo gz n0 s0 : Nat) (Po : Option Value → xHp → Prop) (L r : List Value) (hp : xHp) : (xV k_Rooms_new (l, d + 1, b, lo, gz, n0, s0, m_Rooms_new, Po) 1 L (.ref a :: r) hp) = (xcs r 8 ∧ xV k_Rooms_new (l, d + 1, b, lo, gz, n0, s0, m_Rooms_new, Po) 4 L r hp) := xVe _ _ _ _ _ _
theorem s_Rooms_new_4 (C : xCx) (r : List Value) (hp : xHp) (x : Nat) (a1 a2 : Value) : (xV k_Rooms_new C 4 [.ref x, a1, a2] r hp) = (True ∧ xV k_Rooms_new C 5 [.ref x, a1, a2] (.ref x :: r) hp) := xVe _ _ _ _ _ _
theorem s_Rooms_new_5  (C : xCx) (L r : List Value) (hp : xHp) : (xV k_Rooms_new C 5 L (r) hp) = (xV k_Rooms_new C 7 L (.int (42) :: r) hp) := xVe _ _ _ _ _ _
theorem s_Rooms_new_7 (n : Int32) (l : Launch) (d b lo gz n0 s0 : Nat) (Po : Option Value → xHp → Prop) (L r : List Value) (hp : xHp) : (xV k_Rooms_new (l, d, b, lo, gz, n0, s0, m_Rooms_new, Po) 7 L (.int n :: r) hp) = (¬ n < 0 ∧ n.toNatClampNeg ≤ 10000 ∧ (gz = 0 ∧ hp.2.1 + 1 ≤ n0 + 3 ∧ hp.2.2 + n.toNatClampNeg ≤ s0 + 56) ∧ xV k_Rooms_new (l, d, b, lo, gz, n0, s0, m_Rooms_new, Po) 9 L (.ref hp.2.1 :: r) (va_up hp.1 hp.2.1 (.inl (.int, xZero .int n.toNatClampNeg)), hp.2.1 + 1, hp.2.2 + n.toNatClampNeg)) := xVe _ _ _ _ _ _
theorem s_Rooms_new_9 (x a : Nat) (C : xCx) (L r : List Value) (hp : xHp) : (xV k_Rooms_new C 9 L (.ref x :: .ref a :: r) hp) = (True ∧ xPf hp a 6 2 (.ref x) (fun hp' => xV k_Rooms_new C 12 L r hp')) := xVe _ _ _ _ _ _
theorem s_Rooms_new_12 (C : xCx) (r : List Value) (hp : xHp) (x : Nat) (a1 a2 : Value) : (xV k_Rooms_new C 12 [.ref x, a1, a2] r hp) = (True ∧ xV k_Rooms_new C 13 [.ref x, a1, a2] (.ref x :: r) hp) := xVe _ _ _ _ _ _
theorem s_Rooms_new_13  (C : xCx) (L r : List Value) (hp : xHp) : (xV k_Rooms_new C 13 L (r) hp) = (xV k_Rooms_new C 15 L (.int (7) :: r) hp) := xVe _ _ _ _ _ _
theorem s_Rooms_new_15 (n : Int32) (l : Launch) (d b lo gz n0 s0 : Nat) (Po : Option Value → xHp → Prop) (L r : List Value) (hp : xHp) : (xV k_Rooms_new (l, d, b, lo, gz, n0, s0, m_Rooms_new, Po) 15 L (.int n :: r) hp) = (¬ n < 0 ∧ n.toNatClampNeg ≤ 10000 ∧ (gz = 0 ∧ hp.2.1 + 1 ≤ n0 + 3 ∧ hp.2.2 + n.toNatClampNeg ≤ s0 + 56) ∧ xV k_Rooms_new (l, d, b, lo, gz, n0, s0, m_Rooms_new, Po) 17 L (.ref hp.2.1 :: r) (va_up hp.1 hp.2.1 (.inl (.int, xZero .int n.toNatClampNeg)), hp.2.1 + 1, hp.2.2 + n.toNatClampNeg)) := xVe _ _ _ _ _ _
theorem s_Rooms_new_17 (x a : Nat) (C : xCx) (L r : List Value) (hp : xHp) : (xV k_Rooms_new C 17 L (.ref x :: .ref a :: r) hp) = (True ∧ xPf hp a 6 3 (.ref x) (fun hp' => xV k_Rooms_new C 20 L r hp')) := xVe _ _ _ _ _ _
theorem s_Rooms_new_20 (C : xCx) (r : List Value) (hp : xHp) (x : Nat) (a1 a2 : Value) : (xV k_Rooms_new C 20 [.ref x, a1, a2] r hp) = (True ∧ xV k_Rooms_new C 21 [.ref x, a1, a2] (.ref x :: r) hp) := xVe _ _ _ _ _ _
theorem s_Rooms_new_21  (C : xCx) (L r : List Value) (hp : xHp) : (xV k_Rooms_new C 21 L (r) hp) = (xV k_Rooms_new C 23 L (.int (7) :: r) hp) := xVe _ _ _ _ _ _
theorem s_Rooms_new_23 (n : Int32) (l : Launch) (d b lo gz n0 s0 : Nat) (Po : Option Value → xHp → Prop) (L r : List Value) (hp : xHp) : (xV k_Rooms_new (l, d, b, lo, gz, n0, s0, m_Rooms_new, Po) 23 L (.int n :: r) hp) = (¬ n < 0 ∧ n.toNatClampNeg ≤ 10000 ∧ (gz = 0 ∧ hp.2.1 + 1 ≤ n0 + 3 ∧ hp.2.2 + n.toNatClampNeg ≤ s0 + 56) ∧ xV k_Rooms_new (l, d, b, lo, gz, n0, s0, m_Rooms_new, Po) 25 L (.ref hp.2.1 :: r) (va_up hp.1 hp.2.1 (.inl (.int, xZero .int n.toNatClampNeg)), hp.2.1 + 1, hp.2.2 + n.toNatClampNeg)) := xVe _ _ _ _ _ _
theorem s_Rooms_new_25 (x a : Nat) (C : xCx) (L r : List Value) (hp : xHp) : (xV k_Rooms_new C 25 L (.ref x :: .ref a :: r) hp) = (True ∧ xPf hp a 6 4 (.ref x) (fun hp' => xV k_Rooms_new C 28 L r hp')) := xVe _ _ _ _ _ _
theorem s_Rooms_new_28 (C : xCx) (r : List Value) (hp : xHp) (x : Nat) (a1 a2 : Value) : (xV k_Rooms_new C 28 [.ref x, a1, a2] r hp) = (True ∧ xV k_Rooms_new C 29 [.ref x, a1, a2] (.ref x :: r) hp) := xVe _ _ _ _ _ _
theorem s_Rooms_new_29 (C : xCx) (r : List Value) (hp : xHp) (x : Nat) (a0 a2 : Value) : (xV k_Rooms_new C 29 [a0, .ref x, a2] r hp) = (True ∧ xV k_Rooms_new C 30 [a0, .ref x, a2] (.ref x :: r) hp) := xVe _ _ _ _ _ _
theorem s_Rooms_new_30 (x a : Nat) (C : xCx) (L r : List Value) (hp : xHp) : (xV k_Rooms_new C 30 L (.ref x :: .ref a :: r) hp) = (True ∧ xPf hp a 6 0 (.ref x) (fun hp' => xV k_Rooms_new C 33 L r hp')) := xVe _ _ _ _ _ _
theorem s_Rooms_new_33 (C : xCx) (r : List Value) (hp : xHp) (x : Nat) (a1 a2 : Value) : (xV k_Rooms_new C 33 [.ref x, a1, a2] r hp) = (True ∧ xV k_Rooms_new C 34 [.ref x, a1, a2] (.ref x :: r) hp) := xVe _ _ _ _ _ _
theorem s_Rooms_new_34 (C : xCx) (r : List Value) (hp : xHp) (x : Nat) (a0 a1 : Value) : (xV k_Rooms_new C 34 [a0, a1, .ref x] r hp) = (True ∧ xV k_Rooms_new C 35 [a0, a1, .ref x] (.ref x :: r) hp) := xVe _ _ _ _ _ _
theorem s_Rooms_new_35 (x a : Nat) (C : xCx) (L r : List Value) (hp : xHp) : (xV k_Rooms_new C 35 L (.ref x :: .ref a :: r) hp) = (True ∧ xPf hp a 6 1 (.ref x) (fun hp' => xV k_Rooms_new C 38 L r hp')) := xVe _ _ _ _ _ _
theorem s_Rooms_new_38 (l : Launch) (d b lo gz n0 s0 : Nat) (Po : Option Value → xHp → Prop) (L : List Value) (hp : xHp) : (xV k_Rooms_new (l, d, b, lo, gz, n0, s0, m_Rooms_new, Po) 38 L [] hp) = (hp.2.1 = n0 + 3 ∧ hp.2.2 = s0 + 56 ∧ Po (none) hp) := xVe _ _ _ _ _ _
theorem fl_Chance_7 : xFl "SunnyOnes$Chance" 7 1 0 := ⟨("SunnyOnes$Chance", F_Chance, 5), rfl, by decide, wg2 28 (by decide +kernel) rfl⟩
theorem fl_Chance_13 : xFl "SunnyOnes$Chance" 13 1 1 := ⟨("SunnyOnes$Chance", F_Chance, 5), rfl, by decide, wg2 29 (by decide +kernel) rfl⟩
def k_Chance_new : List xEC := [
  (0, .aload_n 0, 1, 0, 0, 0, m_x),
  (1, .invokespecial 1, 4, 0, 0, 1, m_x),
  (4, .aload_n 0, 5, 0, 0, 0, m_x),
  (5, .aload_n 1, 6, 0, 0, 0, m_x),
  (6, .putfield 7, 9, 1, 0, 0, m_x),
  (9, .aload_n 0, 10, 0, 0, 0, m_x),
  (10, .aload_n 2, 11, 0, 0, 0, m_x),
  (11, .putfield 13, 14, 1, 1, 0, m_x),
  (14, .return_, 15, 0, 0, 0, m_x)]
theorem dc_Chance_new : ∀ E ∈ k_Chance_new, xDc m_Chance_new E := by decide +kernel
set_option maxRecDepth 20000 in
theorem ok_Chance_new : ∀ E ∈ k_Chance_new, xOk m_Chance_new E := xok_of dc_Chance_new (xfc trivial (xfc ⟨wg2 27 (by decide +kernel) rfl, wg1 26 (by decide +kernel) rfl, wg1 27 (by decide +kernel) rfl⟩ (xfc trivial (xfc trivial (xfc ⟨fl_Chance_7, fun q h f => by cases h; exact ⟨rfl, rfl⟩⟩ (xfc trivial (xfc trivial (xfc ⟨fl_Chance_13, fun q h f => by cases h; exact ⟨rfl, rfl⟩⟩ (xfc trivial (xfn))))))))))
theorem s_Chance_new_0 (C : xCx) (r : List Value) (hp : xHp) (x : Nat) (a1 a2 : Value) : (xV k_Chance_new C 0 [.ref x, a1, a2] r hp) = (True ∧ xV k_Chance_new C 1 [.ref x, a1, a2] (.ref x :: r) hp) := xVe _ _ _ _ _ _
theorem s_Chance_new_1 (a : Nat) (l : Launch) (d b lo gz n0 s0 : Nat) (Po : Option Value → xHp → Prop) (L r : List Value) (hp : xHp) : (xV k_Chance_new (l, d + 1, b, lo, gz, n0, s0, m_Chance_new, Po) 1 L (.ref a :: r) hp) = (xcs r 8 ∧ xV k_Chance_new (l, d + 1, b, lo, gz, n0, s0, m_Chance_new, Po) 4 L r hp) := xVe _ _ _ _ _ _
theorem s_Chance_new_4 (C : xCx) (r : List Value) (hp : xHp) (x : Nat) (a1 a2 : Value) : (xV k_Chance_new C 4 [.ref x, a1, a2] r hp) = (True ∧ xV k_Chance_new C 5 [.ref x, a1, a2] (.ref x :: r) hp) := xVe _ _ _ _ _ _
theorem s_Chance_new_5 (C : xCx) (r : List Value) (hp : xHp) (x : Nat) (a0 a2 : Value) : (xV k_Chance_new C 5 [a0, .ref x, a2] r hp) = (True ∧ xV k_Chance_new C 6 [a0, .ref x, a2] (.ref x :: r) hp) := xVe _ _ _ _ _ _
theorem s_Chance_new_6 (x a : Nat) (C : xCx) (L r : List Value) (hp : xHp) : (xV k_Chance_new C 6 L (.ref x :: .ref a :: r) hp) = (True ∧ xPf hp a 1 0 (.ref x) (fun hp' => xV k_Chance_new C 9 L r hp')) := xVe _ _ _ _ _ _
theorem s_Chance_new_9 (C : xCx) (r : List Value) (hp : xHp) (x : Nat) (a1 a2 : Value) : (xV k_Chance_new C 9 [.ref x, a1, a2] r hp) = (True ∧ xV k_Chance_new C 10 [.ref x, a1, a2] (.ref x :: r) hp) := xVe _ _ _ _ _ _
theorem s_Chance_new_10 (C : xCx) (r : List Value) (hp : xHp) (x : Nat) (a0 a1 : Value) : (xV k_Chance_new C 10 [a0, a1, .ref x] r hp) = (True ∧ xV k_Chance_new C 11 [a0, a1, .ref x] (.ref x :: r) hp) := xVe _ _ _ _ _ _
theorem s_Chance_new_11 (x a : Nat) (C : xCx) (L r : List Value) (hp : xHp) : (xV k_Chance_new C 11 L (.ref x :: .ref a :: r) hp) = (True ∧ xPf hp a 1 1 (.ref x) (fun hp' => xV k_Chance_new C 14 L r hp')) := xVe _ _ _ _ _ _
theorem s_Chance_new_14 (l : Launch) (d b lo gz n0 s0 : Nat) (Po : Option Value → xHp → Prop) (L : List Value) (hp : xHp) : (xV k_Chance_new (l, d, b, lo, gz, n0, s0, m_Chance_new, Po) 14 L [] hp) = (Po (none) hp) := xVe _ _ _ _ _ _
theorem fl_Rule_37 : xFl "SunnyOnes$Rule" 37 8 4 := ⟨("SunnyOnes$Rule", F_Rule, 5), rfl, by decide, wg1 96 (by decide +kernel) rfl⟩
theorem ml_Rule_40 : xLk "SunnyOnes$Rule" 40 m_Text_length := Or.inl (wg2 204 (by decide +kernel) rfl)
theorem ml_Rule_46 : xLk "SunnyOnes$Rule" 46 m_Rule_comparison := Or.inl (wg2 205 (by decide +kernel) rfl)
def k_Rule_read : List xEC := [
  (0, .aload_n 0, 1, 0, 0, 0, m_x),
  (1, .iconst 0, 2, 0, 0, 0, m_x),
  (2, .putfield 25, 5, 8, 3, 0, m_x),
  (5, .aload_n 0, 6, 0, 0, 0, m_x),
  (6, .iconst 0, 7, 0, 0, 0, m_x),
  (7, .putfield 37, 10, 8, 4, 0, m_x),
  (10, .aload_n 0, 11, 0, 0, 0, m_x),
  (11, .getfield 18, 14, 8, 0, 0, m_x),
  (14, .invokevirtual 40, 17, 10, 0, 0, m_Text_length),
  (17, .ifCond .ne 9, 20, 0, 26, 0, m_x),
  (20, .aload_n 0, 21, 0, 0, 0, m_x),
  (21, .invokevirtual 22, 24, 8, 0, 0, m_Rule_beUsual),
  (24, .iconst (-1), 25, 0, 0, 0, m_x),
  (25, .ireturn, 26, 0, 0, 0, m_x),
  (26, .aload_n 0, 27, 0, 0, 0, m_x),
  (27, .iconst 0, 28, 0, 0, 0, m_x),
  (28, .invokevirtual 46, 31, 8, 0, 0, m_Rule_comparison),
  (31, .ifCond .eq 21, 34, 0, 52, 0, m_x),
  (34, .aload_n 0, 35, 0, 0, 0, m_x),
  (35, .getfield 37, 38, 8, 4, 0, m_x),
  (38, .aload_n 0, 39, 0, 0, 0, m_x),
  (39, .getfield 18, 42, 8, 0, 0, m_x),
  (42, .invokevirtual 40, 45, 10, 0, 0, m_Text_length),
  (45, .if_icmp .ne 7, 48, 0, 52, 0, m_x),
  (48, .iconst (-1), 49, 0, 0, 0, m_x),
  (49, .goto 7, 52, 0, 56, 0, m_x),
  (52, .aload_n 0, 53, 0, 0, 0, m_x),
  (53, .getfield 37, 56, 8, 4, 0, m_x),
  (56, .ireturn, 57, 0, 0, 0, m_x)]
theorem dc_Rule_read : ∀ E ∈ k_Rule_read, xDc m_Rule_read E := by decide +kernel
set_option maxRecDepth 20000 in
theorem ok_Rule_read : ∀ E ∈ k_Rule_read, xOk m_Rule_read E := xok_of dc_Rule_read (xfc trivial (xfc trivial (xfc ⟨fl_Rule_25, fun q h f => by cases h; exact absurd f (by decide)⟩ (xfc trivial (xfc trivial (xfc ⟨fl_Rule_37, fun q h f => by cases h; exact absurd f (by decide)⟩ (xfc trivial (xfc fl_Rule_18 (xfc ⟨ml_Rule_40, kd_Text_length⟩ (xfc (show ((17 : Nat) : Int) + (9) = ((26 : Nat) : Int) from by decide) (xfc trivial (xfc ⟨ml_Rule_22, kd_Rule_beUsual⟩ (xfc trivial (xfc trivial (xfc trivial (xfc trivial (xfc ⟨ml_Rule_46, kd_Rule_comparison⟩ (xfc (show ((31 : Nat) : Int) + (21) = ((52 : Nat) : Int) from by decide) (xfc trivial (xfc fl_Rule_37 (xfc trivial (xfc fl_Rule_18 (xfc ⟨ml_Rule_40, kd_Text_length⟩ (xfc (show ((45 : Nat) : Int) + (7) = ((52 : Nat) : Int) from by decide) (xfc trivial (xfc (show ((49 : Nat) : Int) + (7) = ((56 : Nat) : Int) from by decide) (xfc trivial (xfc fl_Rule_37 (xfc trivial (xfn))))))))))))))))))))))))))))))
theorem s_Rule_read_0 (C : xCx) (r : List Value) (hp : xHp) (x : Nat) : (xV k_Rule_read C 0 [.ref x] r hp) = (True ∧ xV k_Rule_read C 1 [.ref x] (.ref x :: r) hp) := xVe _ _ _ _ _ _
theorem s_Rule_read_1  (C : xCx) (L r : List Value) (hp : xHp) : (xV k_Rule_read C 1 L (r) hp) = (xV k_Rule_read C 2 L (.int (0) :: r) hp) := xVe _ _ _ _ _ _
theorem s_Rule_read_2 (x : Int32) (a : Nat) (C : xCx) (L r : List Value) (hp : xHp) : (xV k_Rule_read C 2 L (.int x :: .ref a :: r) hp) = (True ∧ xPf hp a 8 3 (.int x) (fun hp' => xV k_Rule_read C 5 L r hp')) := xVe _ _ _ _ _ _
theorem s_Rule_read_5 (C : xCx) (r : List Value) (hp : xHp) (x : Nat) : (xV k_Rule_read C 5 [.ref x] r hp) = (True ∧ xV k_Rule_read C 6 [.ref x] (.ref x :: r) hp) := xVe _ _ _ _ _ _
theorem s_Rule_read_6  (C : xCx) (L r : List Value) (hp : xHp) : (xV k_Rule_read C 6 L (r) hp) = (xV k_Rule_read C 7 L (.int (0) :: r) hp) := xVe _ _ _ _ _ _
theorem s_Rule_read_7 (x : Int32) (a : Nat) (C : xCx) (L r : List Value) (hp : xHp) : (xV k_Rule_read C 7 L (.int x :: .ref a :: r) hp) = (True ∧ xPf hp a 8 4 (.int x) (fun hp' => xV k_Rule_read C 10 L r hp')) := xVe _ _ _ _ _ _
theorem s_Rule_read_10 (C : xCx) (r : List Value) (hp : xHp) (x : Nat) : (xV k_Rule_read C 10 [.ref x] r hp) = (True ∧ xV k_Rule_read C 11 [.ref x] (.ref x :: r) hp) := xVe _ _ _ _ _ _
theorem s_Rule_read_11 (a : Nat) (C : xCx) (L r : List Value) (hp : xHp) : (xV k_Rule_read C 11 L (.ref a :: r) hp) = (xF hp a 8 0 (fun v => xV k_Rule_read C 14 L (v :: r) hp)) := xVe _ _ _ _ _ _
theorem s_Rule_read_14 (a : Nat) (l : Launch) (d b lo gz n0 s0 : Nat) (Po : Option Value → xHp → Prop) (L r : List Value) (hp : xHp) : (xV k_Rule_read (l, d + 1, b, lo, gz, n0, s0, m_Rule_read, Po) 14 L (.ref a :: r) hp) = (xO hp a 10 ∧ xcs r 8 ∧ xMi l d b lo gz m_Text_length [.ref a] hp (fun x hp' => xV k_Rule_read (l, d + 1, b, lo, gz, n0, s0, m_Rule_read, Po) 17 L (.int x :: r) hp')) := xVe _ _ _ _ _ _
theorem s_Rule_read_17 (x : Int32) (C : xCx) (L r : List Value) (hp : xHp) : (xV k_Rule_read C 17 L (.int x :: r) hp) = (((¬ x = 0 → xV k_Rule_read C 26 L r hp) ∧ (x = 0 → xV k_Rule_read C 20 L r hp))) := xVe _ _ _ _ _ _
theorem s_Rule_read_20 (C : xCx) (r : List Value) (hp : xHp) (x : Nat) : (xV k_Rule_read C 20 [.ref x] r hp) = (True ∧ xV k_Rule_read C 21 [.ref x] (.ref x :: r) hp) := xVe _ _ _ _ _ _
theorem s_Rule_read_21 (a : Nat) (l : Launch) (d b lo gz n0 s0 : Nat) (Po : Option Value → xHp → Prop) (L r : List Value) (hp : xHp) : (xV k_Rule_read (l, d + 1, b, lo, gz, n0, s0, m_Rule_read, Po) 21 L (.ref a :: r) hp) = (xO hp a 8 ∧ xcs r 8 ∧ xMv l d b lo gz m_Rule_beUsual [.ref a] hp (fun hp' => xV k_Rule_read (l, d + 1, b, lo, gz, n0, s0, m_Rule_read, Po) 24 L r hp')) := xVe _ _ _ _ _ _
theorem s_Rule_read_24  (C : xCx) (L r : List Value) (hp : xHp) : (xV k_Rule_read C 24 L (r) hp) = (xV k_Rule_read C 25 L (.int (-1) :: r) hp) := xVe _ _ _ _ _ _
theorem s_Rule_read_25 (v : Int32) (l : Launch) (d b lo gz n0 s0 : Nat) (Po : Option Value → xHp → Prop) (L : List Value) (hp : xHp) : (xV k_Rule_read (l, d, b, lo, gz, n0, s0, m_Rule_read, Po) 25 L [.int v] hp) = (Po (some (.int v)) hp) := xVe _ _ _ _ _ _
theorem s_Rule_read_26 (C : xCx) (r : List Value) (hp : xHp) (x : Nat) : (xV k_Rule_read C 26 [.ref x] r hp) = (True ∧ xV k_Rule_read C 27 [.ref x] (.ref x :: r) hp) := xVe _ _ _ _ _ _
theorem s_Rule_read_27  (C : xCx) (L r : List Value) (hp : xHp) : (xV k_Rule_read C 27 L (r) hp) = (xV k_Rule_read C 28 L (.int (0) :: r) hp) := xVe _ _ _ _ _ _
theorem s_Rule_read_28 (x0 : Int32) (a : Nat) (l : Launch) (d b lo gz n0 s0 : Nat) (Po : Option Value → xHp → Prop) (L r : List Value) (hp : xHp) : (xV k_Rule_read (l, d + 1, b, lo, gz, n0, s0, m_Rule_read, Po) 28 L (.int x0 :: .ref a :: r) hp) = (xO hp a 8 ∧ xcs r 8 ∧ xMi l d b lo gz m_Rule_comparison [.ref a, .int x0] hp (fun x hp' => xV k_Rule_read (l, d + 1, b, lo, gz, n0, s0, m_Rule_read, Po) 31 L (.int x :: r) hp')) := xVe _ _ _ _ _ _
theorem s_Rule_read_31 (x : Int32) (C : xCx) (L r : List Value) (hp : xHp) : (xV k_Rule_read C 31 L (.int x :: r) hp) = (((x = 0 → xV k_Rule_read C 52 L r hp) ∧ (¬ x = 0 → xV k_Rule_read C 34 L r hp))) := xVe _ _ _ _ _ _
theorem s_Rule_read_34 (C : xCx) (r : List Value) (hp : xHp) (x : Nat) : (xV k_Rule_read C 34 [.ref x] r hp) = (True ∧ xV k_Rule_read C 35 [.ref x] (.ref x :: r) hp) := xVe _ _ _ _ _ _
theorem s_Rule_read_35 (a : Nat) (C : xCx) (L r : List Value) (hp : xHp) : (xV k_Rule_read C 35 L (.ref a :: r) hp) = (xF hp a 8 4 (fun v => xV k_Rule_read C 38 L (v :: r) hp)) := xVe _ _ _ _ _ _
theorem s_Rule_read_38 (C : xCx) (r : List Value) (hp : xHp) (x : Nat) : (xV k_Rule_read C 38 [.ref x] r hp) = (True ∧ xV k_Rule_read C 39 [.ref x] (.ref x :: r) hp) := xVe _ _ _ _ _ _
theorem s_Rule_read_39 (a : Nat) (C : xCx) (L r : List Value) (hp : xHp) : (xV k_Rule_read C 39 L (.ref a :: r) hp) = (xF hp a 8 0 (fun v => xV k_Rule_read C 42 L (v :: r) hp)) := xVe _ _ _ _ _ _
theorem s_Rule_read_42 (a : Nat) (l : Launch) (d b lo gz n0 s0 : Nat) (Po : Option Value → xHp → Prop) (L r : List Value) (hp : xHp) : (xV k_Rule_read (l, d + 1, b, lo, gz, n0, s0, m_Rule_read, Po) 42 L (.ref a :: r) hp) = (xO hp a 10 ∧ xcs r 8 ∧ xMi l d b lo gz m_Text_length [.ref a] hp (fun x hp' => xV k_Rule_read (l, d + 1, b, lo, gz, n0, s0, m_Rule_read, Po) 45 L (.int x :: r) hp')) := xVe _ _ _ _ _ _
theorem s_Rule_read_45 (x y : Int32) (C : xCx) (L r : List Value) (hp : xHp) : (xV k_Rule_read C 45 L (.int y :: .int x :: r) hp) = (((¬ x = y → xV k_Rule_read C 52 L r hp) ∧ (x = y → xV k_Rule_read C 48 L r hp))) := xVe _ _ _ _ _ _
theorem s_Rule_read_48  (C : xCx) (L r : List Value) (hp : xHp) : (xV k_Rule_read C 48 L (r) hp) = (xV k_Rule_read C 49 L (.int (-1) :: r) hp) := xVe _ _ _ _ _ _
theorem s_Rule_read_49 (C : xCx) (L r : List Value) (hp : xHp) : (xV k_Rule_read C 49 L r hp) = (xV k_Rule_read C 56 L r hp) := xVe _ _ _ _ _ _
theorem s_Rule_read_52 (C : xCx) (r : List Value) (hp : xHp) (x : Nat) : (xV k_Rule_read C 52 [.ref x] r hp) = (True ∧ xV k_Rule_read C 53 [.ref x] (.ref x :: r) hp) := xVe _ _ _ _ _ _
theorem s_Rule_read_53 (a : Nat) (C : xCx) (L r : List Value) (hp : xHp) : (xV k_Rule_read C 53 L (.ref a :: r) hp) = (xF hp a 8 4 (fun v => xV k_Rule_read C 56 L (v :: r) hp)) := xVe _ _ _ _ _ _
theorem s_Rule_read_56 (v : Int32) (l : Launch) (d b lo gz n0 s0 : Nat) (Po : Option Value → xHp → Prop) (L : List Value) (hp : xHp) : (xV k_Rule_read (l, d, b, lo, gz, n0, s0, m_Rule_read, Po) 56 L [.int v] hp) = (Po (some (.int v)) hp) := xVe _ _ _ _ _ _
theorem ml_Rule_57 : xLk "SunnyOnes$Rule" 57 m_Rule_sum := Or.inl (wg2 209 (by decide +kernel) rfl)
theorem ml_Rule_60 : xLk "SunnyOnes$Rule" 60 m_Rule_look := Or.inl (wg2 221 (by decide +kernel) rfl)
def k_Rule_comparison : List xEC := [
  (0, .aload_n 0, 1, 0, 0, 0, m_x),
  (1, .iload_n 1, 2, 0, 0, 0, m_x),
  (2, .invokevirtual 57, 5, 8, 0, 0, m_Rule_sum),
  (5, .ifCond .ne 5, 8, 0, 10, 0, m_x),
  (8, .iconst 0, 9, 0, 0, 0, m_x),
  (9, .ireturn, 10, 0, 0, 0, m_x),
  (10, .aload_n 0, 11, 0, 0, 0, m_x),
  (11, .invokevirtual 60, 14, 8, 0, 0, m_Rule_look),
  (14, .istore_n 2, 15, 0, 0, 0, m_x),
  (15, .iload_n 2, 16, 0, 0, 0, m_x),
  (16, .bipush 60, 18, 0, 0, 0, m_x),
  (18, .if_icmp .eq 17, 21, 0, 35, 0, m_x),
  (21, .iload_n 2, 22, 0, 0, 0, m_x),
  (22, .bipush 62, 24, 0, 0, 0, m_x),
  (24, .if_icmp .eq 11, 27, 0, 35, 0, m_x),
  (27, .iload_n 2, 28, 0, 0, 0, m_x),
  (28, .bipush 61, 30, 0, 0, 0, m_x),
  (30, .if_icmp .eq 5, 33, 0, 35, 0, m_x),
  (33, .iconst 1, 34, 0, 0, 0, m_x),
  (34, .ireturn, 35, 0, 0, 0, m_x),
  (35, .aload_n 0, 36, 0, 0, 0, m_x),
  (36, .dup, 37, 0, 0, 0, m_x),
  (37, .getfield 37, 40, 8, 4, 0, m_x),
  (40, .iconst 1, 41, 0, 0, 0, m_x),
  (41, .iadd, 42, 0, 0, 0, m_x),
  (42, .putfield 37, 45, 8, 4, 0, m_x),
  (45, .aload_n 0, 46, 0, 0, 0, m_x),
  (46, .iload_n 1, 47, 0, 0, 0, m_x),
  (47, .invokevirtual 57, 50, 8, 0, 0, m_Rule_sum),
  (50, .ifCond .ne 5, 53, 0, 55, 0, m_x),
  (53, .iconst 0, 54, 0, 0, 0, m_x),
  (54, .ireturn, 55, 0, 0, 0, m_x),
  (55, .aload_n 0, 56, 0, 0, 0, m_x),
  (56, .iload_n 2, 57, 0, 0, 0, m_x),
  (57, .bipush 60, 59, 0, 0, 0, m_x),
  (59, .if_icmp .ne 8, 62, 0, 67, 0, m_x),
  (62, .bipush (-11), 64, 0, 0, 0, m_x),
  (64, .goto 16, 67, 0, 80, 0, m_x),
  (67, .iload_n 2, 68, 0, 0, 0, m_x),
  (68, .bipush 62, 70, 0, 0, 0, m_x),
  (70, .if_icmp .ne 8, 73, 0, 78, 0, m_x),
  (73, .bipush (-12), 75, 0, 0, 0, m_x),
  (75, .goto 5, 78, 0, 80, 0, m_x),
  (78, .bipush (-13), 80, 0, 0, 0, m_x),
  (80, .invokevirtual 50, 83, 8, 0, 0, m_Rule_emit),
  (83, .iconst 1, 84, 0, 0, 0, m_x),
  (84, .ireturn, 85, 0, 0, 0, m_x)]
theorem dc_Rule_comparison : ∀ E ∈ k_Rule_comparison, xDc m_Rule_comparison E := by decide +kernel
set_option maxRecDepth 20000 in
theorem ok_Rule_comparison : ∀ E ∈ k_Rule_comparison, xOk m_Rule_comparison E := xok_of dc_Rule_comparison (xfc trivial (xfc trivial (xfc ⟨ml_Rule_57, kd_Rule_sum⟩ (xfc (show ((5 : Nat) : Int) + (5) = ((10 : Nat) : Int) from by decide) (xfc trivial (xfc trivial (xfc trivial (xfc ⟨ml_Rule_60, kd_Rule_look⟩ (xfc trivial (xfc trivial (xfc trivial (xfc (show ((18 : Nat) : Int) + (17) = ((35 : Nat) : Int) from by decide) (xfc trivial (xfc trivial (xfc (show ((24 : Nat) : Int) + (11) = ((35 : Nat) : Int) from by decide) (xfc trivial (xfc trivial (xfc (show ((30 : Nat) : Int) + (5) = ((35 : Nat) : Int) from by decide) (xfc trivial (xfc trivial (xfc trivial (xfc trivial (xfc fl_Rule_37 (xfc trivial (xfc trivial (xfc ⟨fl_Rule_37, fun q h f => by cases h; exact absurd f (by decide)⟩ (xfc trivial (xfc trivial (xfc ⟨ml_Rule_57, kd_Rule_sum⟩ (xfc (show ((50 : Nat) : Int) + (5) = ((55 : Nat) : Int) from by decide) (xfc trivial (xfc trivial (xfc trivial (xfc trivial (xfc trivial (xfc (show ((59 : Nat) : Int) + (8) = ((67 : Nat) : Int) from by decide) (xfc trivial (xfc (show ((64 : Nat) : Int) + (16) = ((80 : Nat) : Int) from by decide) (xfc trivial (xfc trivial (xfc (show ((70 : Nat) : Int) + (8) = ((78 : Nat) : Int) from by decide) (xfc trivial (xfc (show ((75 : Nat) : Int) + (5) = ((80 : Nat) : Int) from by decide) (xfc trivial (xfc ⟨ml_Rule_50, kd_Rule_emit⟩ (xfc trivial (xfc trivial (xfn))))))))))))))))))))))))))))))))))))))))))))))))
theorem s_Rule_comparison_0 (C : xCx) (r : List Value) (hp : xHp) (x : Nat) (a1 a2 : Value) : (xV k_Rule_comparison C 0 [.ref x, a1, a2] r hp) = (True ∧ xV k_Rule_comparison C 1 [.ref x, a1, a2] (.ref x :: r) hp) := xVe _ _ _ _ _ _
theorem s_Rule_comparison_1 (C : xCx) (r : List Value) (hp : xHp) (x : Int32) (a0 a2 : Value) : (xV k_Rule_comparison C 1 [a0, .int x, a2] r hp) = (xV k_Rule_comparison C 2 [a0, .int x, a2] (.int x :: r) hp) := xVe _ _ _ _ _ _
theorem s_Rule_comparison_2 (x0 : Int32) (a : Nat) (l : Launch) (d b lo gz n0 s0 : Nat) (Po : Option Value → xHp → Prop) (L r : List Value) (hp : xHp) : (xV k_Rule_comparison (l, d + 1, b, lo, gz, n0, s0, m_Rule_comparison, Po) 2 L (.int x0 :: .ref a :: r) hp) = (xO hp a 8 ∧ xcs r 8 ∧ xMi l d b lo gz m_Rule_sum [.ref a, .int x0] hp (fun x hp' => xV k_Rule_comparison (l, d + 1, b, lo, gz, n0, s0, m_Rule_comparison, Po) 5 L (.int x :: r) hp')) := xVe _ _ _ _ _ _
theorem s_Rule_comparison_5 (x : Int32) (C : xCx) (L r : List Value) (hp : xHp) : (xV k_Rule_comparison C 5 L (.int x :: r) hp) = (((¬ x = 0 → xV k_Rule_comparison C 10 L r hp) ∧ (x = 0 → xV k_Rule_comparison C 8 L r hp))) := xVe _ _ _ _ _ _
theorem s_Rule_comparison_8  (C : xCx) (L r : List Value) (hp : xHp) : (xV k_Rule_comparison C 8 L (r) hp) = (xV k_Rule_comparison C 9 L (.int (0) :: r) hp) := xVe _ _ _ _ _ _
theorem s_Rule_comparison_9 (v : Int32) (l : Launch) (d b lo gz n0 s0 : Nat) (Po : Option Value → xHp → Prop) (L : List Value) (hp : xHp) : (xV k_Rule_comparison (l, d, b, lo, gz, n0, s0, m_Rule_comparison, Po) 9 L [.int v] hp) = ((v = 0 ∨ v = 1) ∧ Po (some (.int v)) hp) := xVe _ _ _ _ _ _
theorem s_Rule_comparison_10 (C : xCx) (r : List Value) (hp : xHp) (x : Nat) (a1 a2 : Value) : (xV k_Rule_comparison C 10 [.ref x, a1, a2] r hp) = (True ∧ xV k_Rule_comparison C 11 [.ref x, a1, a2] (.ref x :: r) hp) := xVe _ _ _ _ _ _
theorem s_Rule_comparison_11 (a : Nat) (l : Launch) (d b lo gz n0 s0 : Nat) (Po : Option Value → xHp → Prop) (L r : List Value) (hp : xHp) : (xV k_Rule_comparison (l, d + 1, b, lo, gz, n0, s0, m_Rule_comparison, Po) 11 L (.ref a :: r) hp) = (xO hp a 8 ∧ xcs r 8 ∧ xMi l d b lo gz m_Rule_look [.ref a] hp (fun x hp' => xV k_Rule_comparison (l, d + 1, b, lo, gz, n0, s0, m_Rule_comparison, Po) 14 L (.int x :: r) hp')) := xVe _ _ _ _ _ _
theorem s_Rule_comparison_14 (C : xCx) (r : List Value) (hp : xHp) (x : Int32) (a0 a1 a2 : Value) : (xV k_Rule_comparison C 14 [a0, a1, a2] (.int x :: r) hp) = (2 < 3 ∧ xNl [a0, a1, a2] 2 ∧ xV k_Rule_comparison C 15 [a0, a1, .int x] r hp) := xVe _ _ _ _ _ _
theorem s_Rule_comparison_15 (C : xCx) (r : List Value) (hp : xHp) (x : Int32) (a0 a1 : Value) : (xV k_Rule_comparison C 15 [a0, a1, .int x] r hp) = (xV k_Rule_comparison C 16 [a0, a1, .int x] (.int x :: r) hp) := xVe _ _ _ _ _ _
theorem s_Rule_comparison_16  (C : xCx) (L r : List Value) (hp : xHp) : (xV k_Rule_comparison C 16 L (r) hp) = (xV k_Rule_comparison C 18 L (.int (60) :: r) hp) := xVe _ _ _ _ _ _
theorem s_Rule_comparison_18 (x y : Int32) (C : xCx) (L r : List Value) (hp : xHp) : (xV k_Rule_comparison C 18 L (.int y :: .int x :: r) hp) = (((x = y → xV k_Rule_comparison C 35 L r hp) ∧ (¬ x = y → xV k_Rule_comparison C 21 L r hp))) := xVe _ _ _ _ _ _
theorem s_Rule_comparison_21 (C : xCx) (r : List Value) (hp : xHp) (x : Int32) (a0 a1 : Value) : (xV k_Rule_comparison C 21 [a0, a1, .int x] r hp) = (xV k_Rule_comparison C 22 [a0, a1, .int x] (.int x :: r) hp) := xVe _ _ _ _ _ _
theorem s_Rule_comparison_22  (C : xCx) (L r : List Value) (hp : xHp) : (xV k_Rule_comparison C 22 L (r) hp) = (xV k_Rule_comparison C 24 L (.int (62) :: r) hp) := xVe _ _ _ _ _ _
theorem s_Rule_comparison_24 (x y : Int32) (C : xCx) (L r : List Value) (hp : xHp) : (xV k_Rule_comparison C 24 L (.int y :: .int x :: r) hp) = (((x = y → xV k_Rule_comparison C 35 L r hp) ∧ (¬ x = y → xV k_Rule_comparison C 27 L r hp))) := xVe _ _ _ _ _ _
theorem s_Rule_comparison_27 (C : xCx) (r : List Value) (hp : xHp) (x : Int32) (a0 a1 : Value) : (xV k_Rule_comparison C 27 [a0, a1, .int x] r hp) = (xV k_Rule_comparison C 28 [a0, a1, .int x] (.int x :: r) hp) := xVe _ _ _ _ _ _
theorem s_Rule_comparison_28  (C : xCx) (L r : List Value) (hp : xHp) : (xV k_Rule_comparison C 28 L (r) hp) = (xV k_Rule_comparison C 30 L (.int (61) :: r) hp) := xVe _ _ _ _ _ _
theorem s_Rule_comparison_30 (x y : Int32) (C : xCx) (L r : List Value) (hp : xHp) : (xV k_Rule_comparison C 30 L (.int y :: .int x :: r) hp) = (((x = y → xV k_Rule_comparison C 35 L r hp) ∧ (¬ x = y → xV k_Rule_comparison C 33 L r hp))) := xVe _ _ _ _ _ _
theorem s_Rule_comparison_33  (C : xCx) (L r : List Value) (hp : xHp) : (xV k_Rule_comparison C 33 L (r) hp) = (xV k_Rule_comparison C 34 L (.int (1) :: r) hp) := xVe _ _ _ _ _ _
theorem s_Rule_comparison_34 (v : Int32) (l : Launch) (d b lo gz n0 s0 : Nat) (Po : Option Value → xHp → Prop) (L : List Value) (hp : xHp) : (xV k_Rule_comparison (l, d, b, lo, gz, n0, s0, m_Rule_comparison, Po) 34 L [.int v] hp) = ((v = 0 ∨ v = 1) ∧ Po (some (.int v)) hp) := xVe _ _ _ _ _ _
theorem s_Rule_comparison_35 (C : xCx) (r : List Value) (hp : xHp) (x : Nat) (a1 a2 : Value) : (xV k_Rule_comparison C 35 [.ref x, a1, a2] r hp) = (True ∧ xV k_Rule_comparison C 36 [.ref x, a1, a2] (.ref x :: r) hp) := xVe _ _ _ _ _ _
theorem s_Rule_comparison_36 (v : Value) (C : xCx) (L r : List Value) (hp : xHp) : (xV k_Rule_comparison C 36 L (v :: r) hp) = (v.category = 1 ∧ xV k_Rule_comparison C 37 L (v :: v :: r) hp) := xVe _ _ _ _ _ _
theorem s_Rule_comparison_37 (a : Nat) (C : xCx) (L r : List Value) (hp : xHp) : (xV k_Rule_comparison C 37 L (.ref a :: r) hp) = (xF hp a 8 4 (fun v => xV k_Rule_comparison C 40 L (v :: r) hp)) := xVe _ _ _ _ _ _
theorem s_Rule_comparison_40  (C : xCx) (L r : List Value) (hp : xHp) : (xV k_Rule_comparison C 40 L (r) hp) = (xV k_Rule_comparison C 41 L (.int (1) :: r) hp) := xVe _ _ _ _ _ _
theorem s_Rule_comparison_41 (x y : Int32) (C : xCx) (L r : List Value) (hp : xHp) : (xV k_Rule_comparison C 41 L (.int y :: .int x :: r) hp) = (xV k_Rule_comparison C 42 L (.int (x + y) :: r) hp) := xVe _ _ _ _ _ _
theorem s_Rule_comparison_42 (x : Int32) (a : Nat) (C : xCx) (L r : List Value) (hp : xHp) : (xV k_Rule_comparison C 42 L (.int x :: .ref a :: r) hp) = (True ∧ xPf hp a 8 4 (.int x) (fun hp' => xV k_Rule_comparison C 45 L r hp')) := xVe _ _ _ _ _ _
theorem s_Rule_comparison_45 (C : xCx) (r : List Value) (hp : xHp) (x : Nat) (a1 a2 : Value) : (xV k_Rule_comparison C 45 [.ref x, a1, a2] r hp) = (True ∧ xV k_Rule_comparison C 46 [.ref x, a1, a2] (.ref x :: r) hp) := xVe _ _ _ _ _ _
theorem s_Rule_comparison_46 (C : xCx) (r : List Value) (hp : xHp) (x : Int32) (a0 a2 : Value) : (xV k_Rule_comparison C 46 [a0, .int x, a2] r hp) = (xV k_Rule_comparison C 47 [a0, .int x, a2] (.int x :: r) hp) := xVe _ _ _ _ _ _
theorem s_Rule_comparison_47 (x0 : Int32) (a : Nat) (l : Launch) (d b lo gz n0 s0 : Nat) (Po : Option Value → xHp → Prop) (L r : List Value) (hp : xHp) : (xV k_Rule_comparison (l, d + 1, b, lo, gz, n0, s0, m_Rule_comparison, Po) 47 L (.int x0 :: .ref a :: r) hp) = (xO hp a 8 ∧ xcs r 8 ∧ xMi l d b lo gz m_Rule_sum [.ref a, .int x0] hp (fun x hp' => xV k_Rule_comparison (l, d + 1, b, lo, gz, n0, s0, m_Rule_comparison, Po) 50 L (.int x :: r) hp')) := xVe _ _ _ _ _ _
theorem s_Rule_comparison_50 (x : Int32) (C : xCx) (L r : List Value) (hp : xHp) : (xV k_Rule_comparison C 50 L (.int x :: r) hp) = (((¬ x = 0 → xV k_Rule_comparison C 55 L r hp) ∧ (x = 0 → xV k_Rule_comparison C 53 L r hp))) := xVe _ _ _ _ _ _
theorem s_Rule_comparison_53  (C : xCx) (L r : List Value) (hp : xHp) : (xV k_Rule_comparison C 53 L (r) hp) = (xV k_Rule_comparison C 54 L (.int (0) :: r) hp) := xVe _ _ _ _ _ _
theorem s_Rule_comparison_54 (v : Int32) (l : Launch) (d b lo gz n0 s0 : Nat) (Po : Option Value → xHp → Prop) (L : List Value) (hp : xHp) : (xV k_Rule_comparison (l, d, b, lo, gz, n0, s0, m_Rule_comparison, Po) 54 L [.int v] hp) = ((v = 0 ∨ v = 1) ∧ Po (some (.int v)) hp) := xVe _ _ _ _ _ _
theorem s_Rule_comparison_55 (C : xCx) (r : List Value) (hp : xHp) (x : Nat) (a1 a2 : Value) : (xV k_Rule_comparison C 55 [.ref x, a1, a2] r hp) = (True ∧ xV k_Rule_comparison C 56 [.ref x, a1, a2] (.ref x :: r) hp) := xVe _ _ _ _ _ _
theorem s_Rule_comparison_56 (C : xCx) (r : List Value) (hp : xHp) (x : Int32) (a0 a1 : Value) : (xV k_Rule_comparison C 56 [a0, a1, .int x] r hp) = (xV k_Rule_comparison C 57 [a0, a1, .int x] (.int x :: r) hp) := xVe _ _ _ _ _ _
theorem s_Rule_comparison_57  (C : xCx) (L r : List Value) (hp : xHp) : (xV k_Rule_comparison C 57 L (r) hp) = (xV k_Rule_comparison C 59 L (.int (60) :: r) hp) := xVe _ _ _ _ _ _
theorem s_Rule_comparison_59 (x y : Int32) (C : xCx) (L r : List Value) (hp : xHp) : (xV k_Rule_comparison C 59 L (.int y :: .int x :: r) hp) = (((¬ x = y → xV k_Rule_comparison C 67 L r hp) ∧ (x = y → xV k_Rule_comparison C 62 L r hp))) := xVe _ _ _ _ _ _
theorem s_Rule_comparison_62  (C : xCx) (L r : List Value) (hp : xHp) : (xV k_Rule_comparison C 62 L (r) hp) = (xV k_Rule_comparison C 64 L (.int (-11) :: r) hp) := xVe _ _ _ _ _ _
theorem s_Rule_comparison_64 (C : xCx) (L r : List Value) (hp : xHp) : (xV k_Rule_comparison C 64 L r hp) = (xV k_Rule_comparison C 80 L r hp) := xVe _ _ _ _ _ _
theorem s_Rule_comparison_67 (C : xCx) (r : List Value) (hp : xHp) (x : Int32) (a0 a1 : Value) : (xV k_Rule_comparison C 67 [a0, a1, .int x] r hp) = (xV k_Rule_comparison C 68 [a0, a1, .int x] (.int x :: r) hp) := xVe _ _ _ _ _ _
theorem s_Rule_comparison_68  (C : xCx) (L r : List Value) (hp : xHp) : (xV k_Rule_comparison C 68 L (r) hp) = (xV k_Rule_comparison C 70 L (.int (62) :: r) hp) := xVe _ _ _ _ _ _
theorem s_Rule_comparison_70 (x y : Int32) (C : xCx) (L r : List Value) (hp : xHp) : (xV k_Rule_comparison C 70 L (.int y :: .int x :: r) hp) = (((¬ x = y → xV k_Rule_comparison C 78 L r hp) ∧ (x = y → xV k_Rule_comparison C 73 L r hp))) := xVe _ _ _ _ _ _
theorem s_Rule_comparison_73  (C : xCx) (L r : List Value) (hp : xHp) : (xV k_Rule_comparison C 73 L (r) hp) = (xV k_Rule_comparison C 75 L (.int (-12) :: r) hp) := xVe _ _ _ _ _ _
theorem s_Rule_comparison_75 (C : xCx) (L r : List Value) (hp : xHp) : (xV k_Rule_comparison C 75 L r hp) = (xV k_Rule_comparison C 80 L r hp) := xVe _ _ _ _ _ _
theorem s_Rule_comparison_78  (C : xCx) (L r : List Value) (hp : xHp) : (xV k_Rule_comparison C 78 L (r) hp) = (xV k_Rule_comparison C 80 L (.int (-13) :: r) hp) := xVe _ _ _ _ _ _
theorem s_Rule_comparison_80 (x0 : Int32) (a : Nat) (l : Launch) (d b lo gz n0 s0 : Nat) (Po : Option Value → xHp → Prop) (L r : List Value) (hp : xHp) : (xV k_Rule_comparison (l, d + 1, b, lo, gz, n0, s0, m_Rule_comparison, Po) 80 L (.int x0 :: .ref a :: r) hp) = (xO hp a 8 ∧ xcs r 8 ∧ xMv l d b lo gz m_Rule_emit [.ref a, .int x0] hp (fun hp' => xV k_Rule_comparison (l, d + 1, b, lo, gz, n0, s0, m_Rule_comparison, Po) 83 L r hp')) := xVe _ _ _ _ _ _
theorem s_Rule_comparison_83  (C : xCx) (L r : List Value) (hp : xHp) : (xV k_Rule_comparison C 83 L (r) hp) = (xV k_Rule_comparison C 84 L (.int (1) :: r) hp) := xVe _ _ _ _ _ _
theorem s_Rule_comparison_84 (v : Int32) (l : Launch) (d b lo gz n0 s0 : Nat) (Po : Option Value → xHp → Prop) (L : List Value) (hp : xHp) : (xV k_Rule_comparison (l, d, b, lo, gz, n0, s0, m_Rule_comparison, Po) 84 L [.int v] hp) = ((v = 0 ∨ v = 1) ∧ Po (some (.int v)) hp) := xVe _ _ _ _ _ _
theorem ml_Rule_63 : xLk "SunnyOnes$Rule" 63 m_Rule_product := Or.inl (wg2 213 (by decide +kernel) rfl)
def k_Rule_sum : List xEC := [
  (0, .aload_n 0, 1, 0, 0, 0, m_x),
  (1, .iload_n 1, 2, 0, 0, 0, m_x),
  (2, .invokevirtual 63, 5, 8, 0, 0, m_Rule_product),
  (5, .istore_n 2, 6, 0, 0, 0, m_x),
  (6, .iconst 0, 7, 0, 0, 0, m_x),
  (7, .istore_n 3, 8, 0, 0, 0, m_x),
  (8, .iload_n 3, 9, 0, 0, 0, m_x),
  (9, .bipush 40, 11, 0, 0, 0, m_x),
  (11, .if_icmp .ge 69, 14, 0, 80, 0, m_x),
  (14, .iload_n 2, 15, 0, 0, 0, m_x),
  (15, .ifCond .eq 65, 18, 0, 80, 0, m_x),
  (18, .aload_n 0, 19, 0, 0, 0, m_x),
  (19, .invokevirtual 60, 22, 8, 0, 0, m_Rule_look),
  (22, .istore 4, 24, 0, 0, 0, m_x),
  (24, .iload 4, 26, 0, 0, 0, m_x),
  (26, .bipush 43, 28, 0, 0, 0, m_x),
  (28, .if_icmp .eq 12, 31, 0, 40, 0, m_x),
  (31, .iload 4, 33, 0, 0, 0, m_x),
  (33, .bipush 45, 35, 0, 0, 0, m_x),
  (35, .if_icmp .eq 5, 38, 0, 40, 0, m_x),
  (38, .iconst 1, 39, 0, 0, 0, m_x),
  (39, .ireturn, 40, 0, 0, 0, m_x),
  (40, .aload_n 0, 41, 0, 0, 0, m_x),
  (41, .dup, 42, 0, 0, 0, m_x),
  (42, .getfield 37, 45, 8, 4, 0, m_x),
  (45, .iconst 1, 46, 0, 0, 0, m_x),
  (46, .iadd, 47, 0, 0, 0, m_x),
  (47, .putfield 37, 50, 8, 4, 0, m_x),
  (50, .aload_n 0, 51, 0, 0, 0, m_x),
  (51, .iload_n 1, 52, 0, 0, 0, m_x),
  (52, .invokevirtual 63, 55, 8, 0, 0, m_Rule_product),
  (55, .istore_n 2, 56, 0, 0, 0, m_x),
  (56, .aload_n 0, 57, 0, 0, 0, m_x),
  (57, .iload 4, 59, 0, 0, 0, m_x),
  (59, .bipush 43, 61, 0, 0, 0, m_x),
  (61, .if_icmp .ne 8, 64, 0, 69, 0, m_x),
  (64, .bipush (-14), 66, 0, 0, 0, m_x),
  (66, .goto 5, 69, 0, 71, 0, m_x),
  (69, .bipush (-15), 71, 0, 0, 0, m_x),
  (71, .invokevirtual 50, 74, 8, 0, 0, m_Rule_emit),
  (74, .iinc 3 1, 77, 0, 0, 0, m_x),
  (77, .goto (-69), 80, 0, 8, 0, m_x),
  (80, .iload_n 2, 81, 0, 0, 0, m_x),
  (81, .ireturn, 82, 0, 0, 0, m_x)]
theorem dc_Rule_sum : ∀ E ∈ k_Rule_sum, xDc m_Rule_sum E := by decide +kernel
set_option maxRecDepth 20000 in
theorem ok_Rule_sum : ∀ E ∈ k_Rule_sum, xOk m_Rule_sum E := xok_of dc_Rule_sum (xfc trivial (xfc trivial (xfc ⟨ml_Rule_63, kd_Rule_product⟩ (xfc trivial (xfc trivial (xfc trivial (xfc trivial (xfc trivial (xfc (show ((11 : Nat) : Int) + (69) = ((80 : Nat) : Int) from by decide) (xfc trivial (xfc (show ((15 : Nat) : Int) + (65) = ((80 : Nat) : Int) from by decide) (xfc trivial (xfc ⟨ml_Rule_60, kd_Rule_look⟩ (xfc trivial (xfc trivial (xfc trivial (xfc (show ((28 : Nat) : Int) + (12) = ((40 : Nat) : Int) from by decide) (xfc trivial (xfc trivial (xfc (show ((35 : Nat) : Int) + (5) = ((40 : Nat) : Int) from by decide) (xfc trivial (xfc trivial (xfc trivial (xfc trivial (xfc fl_Rule_37 (xfc trivial (xfc trivial (xfc ⟨fl_Rule_37, fun q h f => by cases h; exact absurd f (by decide)⟩ (xfc trivial (xfc trivial (xfc ⟨ml_Rule_63, kd_Rule_product⟩ (xfc trivial (xfc trivial (xfc trivial (xfc trivial (xfc (show ((61 : Nat) : Int) + (8) = ((69 : Nat) : Int) from by decide) (xfc trivial (xfc (show ((66 : Nat) : Int) + (5) = ((71 : Nat) : Int) from by decide) (xfc trivial (xfc ⟨ml_Rule_50, kd_Rule_emit⟩ (xfc trivial (xfc (show ((77 : Nat) : Int) + (-69) = ((8 : Nat) : Int) from by decide) (xfc trivial (xfc trivial (xfn)))))))))))))))))))))))))))))))))))))))))))))
theorem s_Rule_sum_0 (C : xCx) (r : List Value) (hp : xHp) (x : Nat) (a1 a2 a3 a4 : Value) : (xV k_Rule_sum C 0 [.ref x, a1, a2, a3, a4] r hp) = (True ∧ xV k_Rule_sum C 1 [.ref x, a1, a2, a3, a4] (.ref x :: r) hp) := xVe _ _ _ _ _ _
theorem s_Rule_sum_1 (C : xCx) (r : List Value) (hp : xHp) (x : Int32) (a0 a2 a3 a4 : Value) : (xV k_Rule_sum C 1 [a0, .int x, a2, a3, a4] r hp) = (xV k_Rule_sum C 2 [a0, .int x, a2, a3, a4] (.int x :: r) hp) := xVe _ _ _ _ _ _
theorem s_Rule_sum_2 (x0 : Int32) (a : Nat) (l : Launch) (d b lo gz n0 s0 : Nat) (Po : Option Value → xHp → Prop) (L r : List Value) (hp : xHp) : (xV k_Rule_sum (l, d + 1, b, lo, gz, n0, s0, m_Rule_sum, Po) 2 L (.int x0 :: .ref a :: r) hp) = (xO hp a 8 ∧ xcs r 8 ∧ xMi l d b lo gz m_Rule_product [.ref a, .int x0] hp (fun x hp' => xV k_Rule_sum (l, d + 1, b, lo, gz, n0, s0, m_Rule_sum, Po) 5 L (.int x :: r) hp')) := xVe _ _ _ _ _ _
theorem s_Rule_sum_5 (C : xCx) (r : List Value) (hp : xHp) (x : Int32) (a0 a1 a2 a3 a4 : Value) : (xV k_Rule_sum C 5 [a0, a1, a2, a3, a4] (.int x :: r) hp) = (2 < 5 ∧ xNl [a0, a1, a2, a3, a4] 2 ∧ xV k_Rule_sum C 6 [a0, a1, .int x, a3, a4] r hp) := xVe _ _ _ _ _ _
theorem s_Rule_sum_6  (C : xCx) (L r : List Value) (hp : xHp) : (xV k_Rule_sum C 6 L (r) hp) = (xV k_Rule_sum C 7 L (.int (0) :: r) hp) := xVe _ _ _ _ _ _
theorem s_Rule_sum_7 (C : xCx) (r : List Value) (hp : xHp) (x : Int32) (a0 a1 a2 a3 a4 : Value) : (xV k_Rule_sum C 7 [a0, a1, a2, a3, a4] (.int x :: r) hp) = (3 < 5 ∧ xNl [a0, a1, a2, a3, a4] 3 ∧ xV k_Rule_sum C 8 [a0, a1, a2, .int x, a4] r hp) := xVe _ _ _ _ _ _
theorem s_Rule_sum_8 (C : xCx) (r : List Value) (hp : xHp) (x : Int32) (a0 a1 a2 a4 : Value) : (xV k_Rule_sum C 8 [a0, a1, a2, .int x, a4] r hp) = (xV k_Rule_sum C 9 [a0, a1, a2, .int x, a4] (.int x :: r) hp) := xVe _ _ _ _ _ _
theorem s_Rule_sum_9  (C : xCx) (L r : List Value) (hp : xHp) : (xV k_Rule_sum C 9 L (r) hp) = (xV k_Rule_sum C 11 L (.int (40) :: r) hp) := xVe _ _ _ _ _ _
theorem s_Rule_sum_11 (x y : Int32) (C : xCx) (L r : List Value) (hp : xHp) : (xV k_Rule_sum C 11 L (.int y :: .int x :: r) hp) = (((y ≤ x → xV k_Rule_sum C 80 L r hp) ∧ (¬ y ≤ x → xV k_Rule_sum C 14 L r hp))) := xVe _ _ _ _ _ _
theorem s_Rule_sum_14 (C : xCx) (r : List Value) (hp : xHp) (x : Int32) (a0 a1 a3 a4 : Value) : (xV k_Rule_sum C 14 [a0, a1, .int x, a3, a4] r hp) = (xV k_Rule_sum C 15 [a0, a1, .int x, a3, a4] (.int x :: r) hp) := xVe _ _ _ _ _ _
theorem s_Rule_sum_15 (x : Int32) (C : xCx) (L r : List Value) (hp : xHp) : (xV k_Rule_sum C 15 L (.int x :: r) hp) = (((x = 0 → xV k_Rule_sum C 80 L r hp) ∧ (¬ x = 0 → xV k_Rule_sum C 18 L r hp))) := xVe _ _ _ _ _ _
theorem s_Rule_sum_18 (C : xCx) (r : List Value) (hp : xHp) (x : Nat) (a1 a2 a3 a4 : Value) : (xV k_Rule_sum C 18 [.ref x, a1, a2, a3, a4] r hp) = (True ∧ xV k_Rule_sum C 19 [.ref x, a1, a2, a3, a4] (.ref x :: r) hp) := xVe _ _ _ _ _ _
theorem s_Rule_sum_19 (a : Nat) (l : Launch) (d b lo gz n0 s0 : Nat) (Po : Option Value → xHp → Prop) (L r : List Value) (hp : xHp) : (xV k_Rule_sum (l, d + 1, b, lo, gz, n0, s0, m_Rule_sum, Po) 19 L (.ref a :: r) hp) = (xO hp a 8 ∧ xcs r 8 ∧ xMi l d b lo gz m_Rule_look [.ref a] hp (fun x hp' => xV k_Rule_sum (l, d + 1, b, lo, gz, n0, s0, m_Rule_sum, Po) 22 L (.int x :: r) hp')) := xVe _ _ _ _ _ _
theorem s_Rule_sum_22 (C : xCx) (r : List Value) (hp : xHp) (x : Int32) (a0 a1 a2 a3 a4 : Value) : (xV k_Rule_sum C 22 [a0, a1, a2, a3, a4] (.int x :: r) hp) = (4 < 5 ∧ xNl [a0, a1, a2, a3, a4] 4 ∧ xV k_Rule_sum C 24 [a0, a1, a2, a3, .int x] r hp) := xVe _ _ _ _ _ _
theorem s_Rule_sum_24 (C : xCx) (r : List Value) (hp : xHp) (x : Int32) (a0 a1 a2 a3 : Value) : (xV k_Rule_sum C 24 [a0, a1, a2, a3, .int x] r hp) = (xV k_Rule_sum C 26 [a0, a1, a2, a3, .int x] (.int x :: r) hp) := xVe _ _ _ _ _ _
theorem s_Rule_sum_26  (C : xCx) (L r : List Value) (hp : xHp) : (xV k_Rule_sum C 26 L (r) hp) = (xV k_Rule_sum C 28 L (.int (43) :: r) hp) := xVe _ _ _ _ _ _
theorem s_Rule_sum_28 (x y : Int32) (C : xCx) (L r : List Value) (hp : xHp) : (xV k_Rule_sum C 28 L (.int y :: .int x :: r) hp) = (((x = y → xV k_Rule_sum C 40 L r hp) ∧ (¬ x = y → xV k_Rule_sum C 31 L r hp))) := xVe _ _ _ _ _ _
theorem s_Rule_sum_31 (C : xCx) (r : List Value) (hp : xHp) (x : Int32) (a0 a1 a2 a3 : Value) : (xV k_Rule_sum C 31 [a0, a1, a2, a3, .int x] r hp) = (xV k_Rule_sum C 33 [a0, a1, a2, a3, .int x] (.int x :: r) hp) := xVe _ _ _ _ _ _
theorem s_Rule_sum_33  (C : xCx) (L r : List Value) (hp : xHp) : (xV k_Rule_sum C 33 L (r) hp) = (xV k_Rule_sum C 35 L (.int (45) :: r) hp) := xVe _ _ _ _ _ _
theorem s_Rule_sum_35 (x y : Int32) (C : xCx) (L r : List Value) (hp : xHp) : (xV k_Rule_sum C 35 L (.int y :: .int x :: r) hp) = (((x = y → xV k_Rule_sum C 40 L r hp) ∧ (¬ x = y → xV k_Rule_sum C 38 L r hp))) := xVe _ _ _ _ _ _
theorem s_Rule_sum_38  (C : xCx) (L r : List Value) (hp : xHp) : (xV k_Rule_sum C 38 L (r) hp) = (xV k_Rule_sum C 39 L (.int (1) :: r) hp) := xVe _ _ _ _ _ _
theorem s_Rule_sum_39 (v : Int32) (l : Launch) (d b lo gz n0 s0 : Nat) (Po : Option Value → xHp → Prop) (L : List Value) (hp : xHp) : (xV k_Rule_sum (l, d, b, lo, gz, n0, s0, m_Rule_sum, Po) 39 L [.int v] hp) = ((v = 0 ∨ v = 1) ∧ Po (some (.int v)) hp) := xVe _ _ _ _ _ _
theorem s_Rule_sum_40 (C : xCx) (r : List Value) (hp : xHp) (x : Nat) (a1 a2 a3 a4 : Value) : (xV k_Rule_sum C 40 [.ref x, a1, a2, a3, a4] r hp) = (True ∧ xV k_Rule_sum C 41 [.ref x, a1, a2, a3, a4] (.ref x :: r) hp) := xVe _ _ _ _ _ _
theorem s_Rule_sum_41 (v : Value) (C : xCx) (L r : List Value) (hp : xHp) : (xV k_Rule_sum C 41 L (v :: r) hp) = (v.category = 1 ∧ xV k_Rule_sum C 42 L (v :: v :: r) hp) := xVe _ _ _ _ _ _
theorem s_Rule_sum_42 (a : Nat) (C : xCx) (L r : List Value) (hp : xHp) : (xV k_Rule_sum C 42 L (.ref a :: r) hp) = (xF hp a 8 4 (fun v => xV k_Rule_sum C 45 L (v :: r) hp)) := xVe _ _ _ _ _ _
theorem s_Rule_sum_45  (C : xCx) (L r : List Value) (hp : xHp) : (xV k_Rule_sum C 45 L (r) hp) = (xV k_Rule_sum C 46 L (.int (1) :: r) hp) := xVe _ _ _ _ _ _
theorem s_Rule_sum_46 (x y : Int32) (C : xCx) (L r : List Value) (hp : xHp) : (xV k_Rule_sum C 46 L (.int y :: .int x :: r) hp) = (xV k_Rule_sum C 47 L (.int (x + y) :: r) hp) := xVe _ _ _ _ _ _
theorem s_Rule_sum_47 (x : Int32) (a : Nat) (C : xCx) (L r : List Value) (hp : xHp) : (xV k_Rule_sum C 47 L (.int x :: .ref a :: r) hp) = (True ∧ xPf hp a 8 4 (.int x) (fun hp' => xV k_Rule_sum C 50 L r hp')) := xVe _ _ _ _ _ _
theorem s_Rule_sum_50 (C : xCx) (r : List Value) (hp : xHp) (x : Nat) (a1 a2 a3 a4 : Value) : (xV k_Rule_sum C 50 [.ref x, a1, a2, a3, a4] r hp) = (True ∧ xV k_Rule_sum C 51 [.ref x, a1, a2, a3, a4] (.ref x :: r) hp) := xVe _ _ _ _ _ _
theorem s_Rule_sum_51 (C : xCx) (r : List Value) (hp : xHp) (x : Int32) (a0 a2 a3 a4 : Value) : (xV k_Rule_sum C 51 [a0, .int x, a2, a3, a4] r hp) = (xV k_Rule_sum C 52 [a0, .int x, a2, a3, a4] (.int x :: r) hp) := xVe _ _ _ _ _ _
theorem s_Rule_sum_52 (x0 : Int32) (a : Nat) (l : Launch) (d b lo gz n0 s0 : Nat) (Po : Option Value → xHp → Prop) (L r : List Value) (hp : xHp) : (xV k_Rule_sum (l, d + 1, b, lo, gz, n0, s0, m_Rule_sum, Po) 52 L (.int x0 :: .ref a :: r) hp) = (xO hp a 8 ∧ xcs r 8 ∧ xMi l d b lo gz m_Rule_product [.ref a, .int x0] hp (fun x hp' => xV k_Rule_sum (l, d + 1, b, lo, gz, n0, s0, m_Rule_sum, Po) 55 L (.int x :: r) hp')) := xVe _ _ _ _ _ _
theorem s_Rule_sum_55 (C : xCx) (r : List Value) (hp : xHp) (x : Int32) (a0 a1 a2 a3 a4 : Value) : (xV k_Rule_sum C 55 [a0, a1, a2, a3, a4] (.int x :: r) hp) = (2 < 5 ∧ xNl [a0, a1, a2, a3, a4] 2 ∧ xV k_Rule_sum C 56 [a0, a1, .int x, a3, a4] r hp) := xVe _ _ _ _ _ _
theorem s_Rule_sum_56 (C : xCx) (r : List Value) (hp : xHp) (x : Nat) (a1 a2 a3 a4 : Value) : (xV k_Rule_sum C 56 [.ref x, a1, a2, a3, a4] r hp) = (True ∧ xV k_Rule_sum C 57 [.ref x, a1, a2, a3, a4] (.ref x :: r) hp) := xVe _ _ _ _ _ _
theorem s_Rule_sum_57 (C : xCx) (r : List Value) (hp : xHp) (x : Int32) (a0 a1 a2 a3 : Value) : (xV k_Rule_sum C 57 [a0, a1, a2, a3, .int x] r hp) = (xV k_Rule_sum C 59 [a0, a1, a2, a3, .int x] (.int x :: r) hp) := xVe _ _ _ _ _ _
theorem s_Rule_sum_59  (C : xCx) (L r : List Value) (hp : xHp) : (xV k_Rule_sum C 59 L (r) hp) = (xV k_Rule_sum C 61 L (.int (43) :: r) hp) := xVe _ _ _ _ _ _
theorem s_Rule_sum_61 (x y : Int32) (C : xCx) (L r : List Value) (hp : xHp) : (xV k_Rule_sum C 61 L (.int y :: .int x :: r) hp) = (((¬ x = y → xV k_Rule_sum C 69 L r hp) ∧ (x = y → xV k_Rule_sum C 64 L r hp))) := xVe _ _ _ _ _ _
theorem s_Rule_sum_64  (C : xCx) (L r : List Value) (hp : xHp) : (xV k_Rule_sum C 64 L (r) hp) = (xV k_Rule_sum C 66 L (.int (-14) :: r) hp) := xVe _ _ _ _ _ _
theorem s_Rule_sum_66 (C : xCx) (L r : List Value) (hp : xHp) : (xV k_Rule_sum C 66 L r hp) = (xV k_Rule_sum C 71 L r hp) := xVe _ _ _ _ _ _
theorem s_Rule_sum_69  (C : xCx) (L r : List Value) (hp : xHp) : (xV k_Rule_sum C 69 L (r) hp) = (xV k_Rule_sum C 71 L (.int (-15) :: r) hp) := xVe _ _ _ _ _ _
theorem s_Rule_sum_71 (x0 : Int32) (a : Nat) (l : Launch) (d b lo gz n0 s0 : Nat) (Po : Option Value → xHp → Prop) (L r : List Value) (hp : xHp) : (xV k_Rule_sum (l, d + 1, b, lo, gz, n0, s0, m_Rule_sum, Po) 71 L (.int x0 :: .ref a :: r) hp) = (xO hp a 8 ∧ xcs r 8 ∧ xMv l d b lo gz m_Rule_emit [.ref a, .int x0] hp (fun hp' => xV k_Rule_sum (l, d + 1, b, lo, gz, n0, s0, m_Rule_sum, Po) 74 L r hp')) := xVe _ _ _ _ _ _
theorem s_Rule_sum_74 (C : xCx) (r : List Value) (hp : xHp) (x : Int32) (a0 a1 a2 a4 : Value) : (xV k_Rule_sum C 74 [a0, a1, a2, .int x, a4] r hp) = (xNl [a0, a1, a2, .int x, a4] 3 ∧ xV k_Rule_sum C 77 [a0, a1, a2, .int (x + (1)), a4] r hp) := xVe _ _ _ _ _ _
theorem s_Rule_sum_77 (C : xCx) (L r : List Value) (hp : xHp) : (xV k_Rule_sum C 77 L r hp) = (xV k_Rule_sum C 8 L r hp) := xVe _ _ _ _ _ _
theorem s_Rule_sum_80 (C : xCx) (r : List Value) (hp : xHp) (x : Int32) (a0 a1 a3 a4 : Value) : (xV k_Rule_sum C 80 [a0, a1, .int x, a3, a4] r hp) = (xV k_Rule_sum C 81 [a0, a1, .int x, a3, a4] (.int x :: r) hp) := xVe _ _ _ _ _ _
theorem s_Rule_sum_81 (v : Int32) (l : Launch) (d b lo gz n0 s0 : Nat) (Po : Option Value → xHp → Prop) (L : List Value) (hp : xHp) : (xV k_Rule_sum (l, d, b, lo, gz, n0, s0, m_Rule_sum, Po) 81 L [.int v] hp) = ((v = 0 ∨ v = 1) ∧ Po (some (.int v)) hp) := xVe _ _ _ _ _ _
theorem ml_Rule_66 : xLk "SunnyOnes$Rule" 66 m_Rule_thing := Or.inl (wg2 217 (by decide +kernel) rfl)
def k_Rule_product : List xEC := [
  (0, .aload_n 0, 1, 0, 0, 0, m_x),
  (1, .iload_n 1, 2, 0, 0, 0, m_x),
  (2, .invokevirtual 66, 5, 8, 0, 0, m_Rule_thing),
  (5, .istore_n 2, 6, 0, 0, 0, m_x),
  (6, .iconst 0, 7, 0, 0, 0, m_x),
  (7, .istore_n 3, 8, 0, 0, 0, m_x),
  (8, .iload_n 3, 9, 0, 0, 0, m_x),
  (9, .bipush 40, 11, 0, 0, 0, m_x),
  (11, .if_icmp .ge 69, 14, 0, 80, 0, m_x),
  (14, .iload_n 2, 15, 0, 0, 0, m_x),
  (15, .ifCond .eq 65, 18, 0, 80, 0, m_x),
  (18, .aload_n 0, 19, 0, 0, 0, m_x),
  (19, .invokevirtual 60, 22, 8, 0, 0, m_Rule_look),
  (22, .istore 4, 24, 0, 0, 0, m_x),
  (24, .iload 4, 26, 0, 0, 0, m_x),
  (26, .bipush 42, 28, 0, 0, 0, m_x),
  (28, .if_icmp .eq 12, 31, 0, 40, 0, m_x),
  (31, .iload 4, 33, 0, 0, 0, m_x),
  (33, .bipush 47, 35, 0, 0, 0, m_x),
  (35, .if_icmp .eq 5, 38, 0, 40, 0, m_x),
  (38, .iconst 1, 39, 0, 0, 0, m_x),
  (39, .ireturn, 40, 0, 0, 0, m_x),
  (40, .aload_n 0, 41, 0, 0, 0, m_x),
  (41, .dup, 42, 0, 0, 0, m_x),
  (42, .getfield 37, 45, 8, 4, 0, m_x),
  (45, .iconst 1, 46, 0, 0, 0, m_x),
  (46, .iadd, 47, 0, 0, 0, m_x),
  (47, .putfield 37, 50, 8, 4, 0, m_x),
  (50, .aload_n 0, 51, 0, 0, 0, m_x),
  (51, .iload_n 1, 52, 0, 0, 0, m_x),
  (52, .invokevirtual 66, 55, 8, 0, 0, m_Rule_thing),
  (55, .istore_n 2, 56, 0, 0, 0, m_x),
  (56, .aload_n 0, 57, 0, 0, 0, m_x),
  (57, .iload 4, 59, 0, 0, 0, m_x),
  (59, .bipush 42, 61, 0, 0, 0, m_x),
  (61, .if_icmp .ne 8, 64, 0, 69, 0, m_x),
  (64, .bipush (-16), 66, 0, 0, 0, m_x),
  (66, .goto 5, 69, 0, 71, 0, m_x),
  (69, .bipush (-17), 71, 0, 0, 0, m_x),
  (71, .invokevirtual 50, 74, 8, 0, 0, m_Rule_emit),
  (74, .iinc 3 1, 77, 0, 0, 0, m_x),
  (77, .goto (-69), 80, 0, 8, 0, m_x),
  (80, .iload_n 2, 81, 0, 0, 0, m_x),
  (81, .ireturn, 82, 0, 0, 0, m_x)]
theorem dc_Rule_product : ∀ E ∈ k_Rule_product, xDc m_Rule_product E := by decide +kernel
set_option maxRecDepth 20000 in
theorem ok_Rule_product : ∀ E ∈ k_Rule_product, xOk m_Rule_product E := xok_of dc_Rule_product (xfc trivial (xfc trivial (xfc ⟨ml_Rule_66, kd_Rule_thing⟩ (xfc trivial (xfc trivial (xfc trivial (xfc trivial (xfc trivial (xfc (show ((11 : Nat) : Int) + (69) = ((80 : Nat) : Int) from by decide) (xfc trivial (xfc (show ((15 : Nat) : Int) + (65) = ((80 : Nat) : Int) from by decide) (xfc trivial (xfc ⟨ml_Rule_60, kd_Rule_look⟩ (xfc trivial (xfc trivial (xfc trivial (xfc (show ((28 : Nat) : Int) + (12) = ((40 : Nat) : Int) from by decide) (xfc trivial (xfc trivial (xfc (show ((35 : Nat) : Int) + (5) = ((40 : Nat) : Int) from by decide) (xfc trivial (xfc trivial (xfc trivial (xfc trivial (xfc fl_Rule_37 (xfc trivial (xfc trivial (xfc ⟨fl_Rule_37, fun q h f => by cases h; exact absurd f (by decide)⟩ (xfc trivial (xfc trivial (xfc ⟨ml_Rule_66, kd_Rule_thing⟩ (xfc trivial (xfc trivial (xfc trivial (xfc trivial (xfc (show ((61 : Nat) : Int) + (8) = ((69 : Nat) : Int) from by decide) (xfc trivial (xfc (show ((66 : Nat) : Int) + (5) = ((71 : Nat) : Int) from by decide) (xfc trivial (xfc ⟨ml_Rule_50, kd_Rule_emit⟩ (xfc trivial (xfc (show ((77 : Nat) : Int) + (-69) = ((8 : Nat) : Int) from by decide) (xfc trivial (xfc trivial (xfn)))))))))))))))))))))))))))))))))))))))))))))
theorem s_Rule_product_0 (C : xCx) (r : List Value) (hp : xHp) (x : Nat) (a1 a2 a3 a4 : Value) : (xV k_Rule_product C 0 [.ref x, a1, a2, a3, a4] r hp) = (True ∧ xV k_Rule_product C 1 [.ref x, a1, a2, a3, a4] (.ref x :: r) hp) := xVe _ _ _ _ _ _
theorem s_Rule_product_1 (C : xCx) (r : List Value) (hp : xHp) (x : Int32) (a0 a2 a3 a4 : Value) : (xV k_Rule_product C 1 [a0, .int x, a2, a3, a4] r hp) = (xV k_Rule_product C 2 [a0, .int x, a2, a3, a4] (.int x :: r) hp) := xVe _ _ _ _ _ _
theorem s_Rule_product_2 (x0 : Int32) (a : Nat) (l : Launch) (d b lo gz n0 s0 : Nat) (Po : Option Value → xHp → Prop) (L r : List Value) (hp : xHp) : (xV k_Rule_product (l, d + 1, b, lo, gz, n0, s0, m_Rule_product, Po) 2 L (.int x0 :: .ref a :: r) hp) = (xO hp a 8 ∧ xcs r 8 ∧ xMi l d b lo gz m_Rule_thing [.ref a, .int x0] hp (fun x hp' => xV k_Rule_product (l, d + 1, b, lo, gz, n0, s0, m_Rule_product, Po) 5 L (.int x :: r) hp')) := xVe _ _ _ _ _ _
theorem s_Rule_product_5 (C : xCx) (r : List Value) (hp : xHp) (x : Int32) (a0 a1 a2 a3 a4 : Value) : (xV k_Rule_product C 5 [a0, a1, a2, a3, a4] (.int x :: r) hp) = (2 < 5 ∧ xNl [a0, a1, a2, a3, a4] 2 ∧ xV k_Rule_product C 6 [a0, a1, .int x, a3, a4] r hp) := xVe _ _ _ _ _ _
theorem s_Rule_product_6  (C : xCx) (L r : List Value) (hp : xHp) : (xV k_Rule_product C 6 L (r) hp) = (xV k_Rule_product C 7 L (.int (0) :: r) hp) := xVe _ _ _ _ _ _
theorem s_Rule_product_7 (C : xCx) (r : List Value) (hp : xHp) (x : Int32) (a0 a1 a2 a3 a4 : Value) : (xV k_Rule_product C 7 [a0, a1, a2, a3, a4] (.int x :: r) hp) = (3 < 5 ∧ xNl [a0, a1, a2, a3, a4] 3 ∧ xV k_Rule_product C 8 [a0, a1, a2, .int x, a4] r hp) := xVe _ _ _ _ _ _
theorem s_Rule_product_8 (C : xCx) (r : List Value) (hp : xHp) (x : Int32) (a0 a1 a2 a4 : Value) : (xV k_Rule_product C 8 [a0, a1, a2, .int x, a4] r hp) = (xV k_Rule_product C 9 [a0, a1, a2, .int x, a4] (.int x :: r) hp) := xVe _ _ _ _ _ _
theorem s_Rule_product_9  (C : xCx) (L r : List Value) (hp : xHp) : (xV k_Rule_product C 9 L (r) hp) = (xV k_Rule_product C 11 L (.int (40) :: r) hp) := xVe _ _ _ _ _ _
theorem s_Rule_product_11 (x y : Int32) (C : xCx) (L r : List Value) (hp : xHp) : (xV k_Rule_product C 11 L (.int y :: .int x :: r) hp) = (((y ≤ x → xV k_Rule_product C 80 L r hp) ∧ (¬ y ≤ x → xV k_Rule_product C 14 L r hp))) := xVe _ _ _ _ _ _
theorem s_Rule_product_14 (C : xCx) (r : List Value) (hp : xHp) (x : Int32) (a0 a1 a3 a4 : Value) : (xV k_Rule_product C 14 [a0, a1, .int x, a3, a4] r hp) = (xV k_Rule_product C 15 [a0, a1, .int x, a3, a4] (.int x :: r) hp) := xVe _ _ _ _ _ _
theorem s_Rule_product_15 (x : Int32) (C : xCx) (L r : List Value) (hp : xHp) : (xV k_Rule_product C 15 L (.int x :: r) hp) = (((x = 0 → xV k_Rule_product C 80 L r hp) ∧ (¬ x = 0 → xV k_Rule_product C 18 L r hp))) := xVe _ _ _ _ _ _
theorem s_Rule_product_18 (C : xCx) (r : List Value) (hp : xHp) (x : Nat) (a1 a2 a3 a4 : Value) : (xV k_Rule_product C 18 [.ref x, a1, a2, a3, a4] r hp) = (True ∧ xV k_Rule_product C 19 [.ref x, a1, a2, a3, a4] (.ref x :: r) hp) := xVe _ _ _ _ _ _
theorem s_Rule_product_19 (a : Nat) (l : Launch) (d b lo gz n0 s0 : Nat) (Po : Option Value → xHp → Prop) (L r : List Value) (hp : xHp) : (xV k_Rule_product (l, d + 1, b, lo, gz, n0, s0, m_Rule_product, Po) 19 L (.ref a :: r) hp) = (xO hp a 8 ∧ xcs r 8 ∧ xMi l d b lo gz m_Rule_look [.ref a] hp (fun x hp' => xV k_Rule_product (l, d + 1, b, lo, gz, n0, s0, m_Rule_product, Po) 22 L (.int x :: r) hp')) := xVe _ _ _ _ _ _
theorem s_Rule_product_22 (C : xCx) (r : List Value) (hp : xHp) (x : Int32) (a0 a1 a2 a3 a4 : Value) : (xV k_Rule_product C 22 [a0, a1, a2, a3, a4] (.int x :: r) hp) = (4 < 5 ∧ xNl [a0, a1, a2, a3, a4] 4 ∧ xV k_Rule_product C 24 [a0, a1, a2, a3, .int x] r hp) := xVe _ _ _ _ _ _
theorem s_Rule_product_24 (C : xCx) (r : List Value) (hp : xHp) (x : Int32) (a0 a1 a2 a3 : Value) : (xV k_Rule_product C 24 [a0, a1, a2, a3, .int x] r hp) = (xV k_Rule_product C 26 [a0, a1, a2, a3, .int x] (.int x :: r) hp) := xVe _ _ _ _ _ _
theorem s_Rule_product_26  (C : xCx) (L r : List Value) (hp : xHp) : (xV k_Rule_product C 26 L (r) hp) = (xV k_Rule_product C 28 L (.int (42) :: r) hp) := xVe _ _ _ _ _ _
theorem s_Rule_product_28 (x y : Int32) (C : xCx) (L r : List Value) (hp : xHp) : (xV k_Rule_product C 28 L (.int y :: .int x :: r) hp) = (((x = y → xV k_Rule_product C 40 L r hp) ∧ (¬ x = y → xV k_Rule_product C 31 L r hp))) := xVe _ _ _ _ _ _
theorem s_Rule_product_31 (C : xCx) (r : List Value) (hp : xHp) (x : Int32) (a0 a1 a2 a3 : Value) : (xV k_Rule_product C 31 [a0, a1, a2, a3, .int x] r hp) = (xV k_Rule_product C 33 [a0, a1, a2, a3, .int x] (.int x :: r) hp) := xVe _ _ _ _ _ _
theorem s_Rule_product_33  (C : xCx) (L r : List Value) (hp : xHp) : (xV k_Rule_product C 33 L (r) hp) = (xV k_Rule_product C 35 L (.int (47) :: r) hp) := xVe _ _ _ _ _ _
theorem s_Rule_product_35 (x y : Int32) (C : xCx) (L r : List Value) (hp : xHp) : (xV k_Rule_product C 35 L (.int y :: .int x :: r) hp) = (((x = y → xV k_Rule_product C 40 L r hp) ∧ (¬ x = y → xV k_Rule_product C 38 L r hp))) := xVe _ _ _ _ _ _
theorem s_Rule_product_38  (C : xCx) (L r : List Value) (hp : xHp) : (xV k_Rule_product C 38 L (r) hp) = (xV k_Rule_product C 39 L (.int (1) :: r) hp) := xVe _ _ _ _ _ _
theorem s_Rule_product_39 (v : Int32) (l : Launch) (d b lo gz n0 s0 : Nat) (Po : Option Value → xHp → Prop) (L : List Value) (hp : xHp) : (xV k_Rule_product (l, d, b, lo, gz, n0, s0, m_Rule_product, Po) 39 L [.int v] hp) = ((v = 0 ∨ v = 1) ∧ Po (some (.int v)) hp) := xVe _ _ _ _ _ _
theorem s_Rule_product_40 (C : xCx) (r : List Value) (hp : xHp) (x : Nat) (a1 a2 a3 a4 : Value) : (xV k_Rule_product C 40 [.ref x, a1, a2, a3, a4] r hp) = (True ∧ xV k_Rule_product C 41 [.ref x, a1, a2, a3, a4] (.ref x :: r) hp) := xVe _ _ _ _ _ _
theorem s_Rule_product_41 (v : Value) (C : xCx) (L r : List Value) (hp : xHp) : (xV k_Rule_product C 41 L (v :: r) hp) = (v.category = 1 ∧ xV k_Rule_product C 42 L (v :: v :: r) hp) := xVe _ _ _ _ _ _
theorem s_Rule_product_42 (a : Nat) (C : xCx) (L r : List Value) (hp : xHp) : (xV k_Rule_product C 42 L (.ref a :: r) hp) = (xF hp a 8 4 (fun v => xV k_Rule_product C 45 L (v :: r) hp)) := xVe _ _ _ _ _ _
theorem s_Rule_product_45  (C : xCx) (L r : List Value) (hp : xHp) : (xV k_Rule_product C 45 L (r) hp) = (xV k_Rule_product C 46 L (.int (1) :: r) hp) := xVe _ _ _ _ _ _
theorem s_Rule_product_46 (x y : Int32) (C : xCx) (L r : List Value) (hp : xHp) : (xV k_Rule_product C 46 L (.int y :: .int x :: r) hp) = (xV k_Rule_product C 47 L (.int (x + y) :: r) hp) := xVe _ _ _ _ _ _
theorem s_Rule_product_47 (x : Int32) (a : Nat) (C : xCx) (L r : List Value) (hp : xHp) : (xV k_Rule_product C 47 L (.int x :: .ref a :: r) hp) = (True ∧ xPf hp a 8 4 (.int x) (fun hp' => xV k_Rule_product C 50 L r hp')) := xVe _ _ _ _ _ _
theorem s_Rule_product_50 (C : xCx) (r : List Value) (hp : xHp) (x : Nat) (a1 a2 a3 a4 : Value) : (xV k_Rule_product C 50 [.ref x, a1, a2, a3, a4] r hp) = (True ∧ xV k_Rule_product C 51 [.ref x, a1, a2, a3, a4] (.ref x :: r) hp) := xVe _ _ _ _ _ _
theorem s_Rule_product_51 (C : xCx) (r : List Value) (hp : xHp) (x : Int32) (a0 a2 a3 a4 : Value) : (xV k_Rule_product C 51 [a0, .int x, a2, a3, a4] r hp) = (xV k_Rule_product C 52 [a0, .int x, a2, a3, a4] (.int x :: r) hp) := xVe _ _ _ _ _ _
theorem s_Rule_product_52 (x0 : Int32) (a : Nat) (l : Launch) (d b lo gz n0 s0 : Nat) (Po : Option Value → xHp → Prop) (L r : List Value) (hp : xHp) : (xV k_Rule_product (l, d + 1, b, lo, gz, n0, s0, m_Rule_product, Po) 52 L (.int x0 :: .ref a :: r) hp) = (xO hp a 8 ∧ xcs r 8 ∧ xMi l d b lo gz m_Rule_thing [.ref a, .int x0] hp (fun x hp' => xV k_Rule_product (l, d + 1, b, lo, gz, n0, s0, m_Rule_product, Po) 55 L (.int x :: r) hp')) := xVe _ _ _ _ _ _
theorem s_Rule_product_55 (C : xCx) (r : List Value) (hp : xHp) (x : Int32) (a0 a1 a2 a3 a4 : Value) : (xV k_Rule_product C 55 [a0, a1, a2, a3, a4] (.int x :: r) hp) = (2 < 5 ∧ xNl [a0, a1, a2, a3, a4] 2 ∧ xV k_Rule_product C 56 [a0, a1, .int x, a3, a4] r hp) := xVe _ _ _ _ _ _
theorem s_Rule_product_56 (C : xCx) (r : List Value) (hp : xHp) (x : Nat) (a1 a2 a3 a4 : Value) : (xV k_Rule_product C 56 [.ref x, a1, a2, a3, a4] r hp) = (True ∧ xV k_Rule_product C 57 [.ref x, a1, a2, a3, a4] (.ref x :: r) hp) := xVe _ _ _ _ _ _
theorem s_Rule_product_57 (C : xCx) (r : List Value) (hp : xHp) (x : Int32) (a0 a1 a2 a3 : Value) : (xV k_Rule_product C 57 [a0, a1, a2, a3, .int x] r hp) = (xV k_Rule_product C 59 [a0, a1, a2, a3, .int x] (.int x :: r) hp) := xVe _ _ _ _ _ _
theorem s_Rule_product_59  (C : xCx) (L r : List Value) (hp : xHp) : (xV k_Rule_product C 59 L (r) hp) = (xV k_Rule_product C 61 L (.int (42) :: r) hp) := xVe _ _ _ _ _ _
theorem s_Rule_product_61 (x y : Int32) (C : xCx) (L r : List Value) (hp : xHp) : (xV k_Rule_product C 61 L (.int y :: .int x :: r) hp) = (((¬ x = y → xV k_Rule_product C 69 L r hp) ∧ (x = y → xV k_Rule_product C 64 L r hp))) := xVe _ _ _ _ _ _
theorem s_Rule_product_64  (C : xCx) (L r : List Value) (hp : xHp) : (xV k_Rule_product C 64 L (r) hp) = (xV k_Rule_product C 66 L (.int (-16) :: r) hp) := xVe _ _ _ _ _ _
theorem s_Rule_product_66 (C : xCx) (L r : List Value) (hp : xHp) : (xV k_Rule_product C 66 L r hp) = (xV k_Rule_product C 71 L r hp) := xVe _ _ _ _ _ _
theorem s_Rule_product_69  (C : xCx) (L r : List Value) (hp : xHp) : (xV k_Rule_product C 69 L (r) hp) = (xV k_Rule_product C 71 L (.int (-17) :: r) hp) := xVe _ _ _ _ _ _
theorem s_Rule_product_71 (x0 : Int32) (a : Nat) (l : Launch) (d b lo gz n0 s0 : Nat) (Po : Option Value → xHp → Prop) (L r : List Value) (hp : xHp) : (xV k_Rule_product (l, d + 1, b, lo, gz, n0, s0, m_Rule_product, Po) 71 L (.int x0 :: .ref a :: r) hp) = (xO hp a 8 ∧ xcs r 8 ∧ xMv l d b lo gz m_Rule_emit [.ref a, .int x0] hp (fun hp' => xV k_Rule_product (l, d + 1, b, lo, gz, n0, s0, m_Rule_product, Po) 74 L r hp')) := xVe _ _ _ _ _ _
theorem s_Rule_product_74 (C : xCx) (r : List Value) (hp : xHp) (x : Int32) (a0 a1 a2 a4 : Value) : (xV k_Rule_product C 74 [a0, a1, a2, .int x, a4] r hp) = (xNl [a0, a1, a2, .int x, a4] 3 ∧ xV k_Rule_product C 77 [a0, a1, a2, .int (x + (1)), a4] r hp) := xVe _ _ _ _ _ _
theorem s_Rule_product_77 (C : xCx) (L r : List Value) (hp : xHp) : (xV k_Rule_product C 77 L r hp) = (xV k_Rule_product C 8 L r hp) := xVe _ _ _ _ _ _
theorem s_Rule_product_80 (C : xCx) (r : List Value) (hp : xHp) (x : Int32) (a0 a1 a3 a4 : Value) : (xV k_Rule_product C 80 [a0, a1, .int x, a3, a4] r hp) = (xV k_Rule_product C 81 [a0, a1, .int x, a3, a4] (.int x :: r) hp) := xVe _ _ _ _ _ _
theorem s_Rule_product_81 (v : Int32) (l : Launch) (d b lo gz n0 s0 : Nat) (Po : Option Value → xHp → Prop) (L : List Value) (hp : xHp) : (xV k_Rule_product (l, d, b, lo, gz, n0, s0, m_Rule_product, Po) 81 L [.int v] hp) = ((v = 0 ∨ v = 1) ∧ Po (some (.int v)) hp) := xVe _ _ _ _ _ _
theorem ml_Rule_69 : xLk "SunnyOnes$Rule" 69 m_Text_isDigit := Or.inl (wg2 226 (by decide +kernel) rfl)
theorem ml_Rule_72 : xLk "SunnyOnes$Rule" 72 m_Rule_number := Or.inl (wg2 227 (by decide +kernel) rfl)
theorem ml_Rule_76 : xLk "SunnyOnes$Rule" 76 m_Rule_group := Or.inl (wg2 231 (by decide +kernel) rfl)
theorem ml_Rule_79 : xLk "SunnyOnes$Rule" 79 m_Rule_letter := Or.inl (wg2 235 (by decide +kernel) rfl)
def k_Rule_thing : List xEC := [
  (0, .iconst 0, 1, 0, 0, 0, m_x),
  (1, .istore_n 2, 2, 0, 0, 0, m_x),
  (2, .iconst 0, 3, 0, 0, 0, m_x),
  (3, .istore_n 3, 4, 0, 0, 0, m_x),
  (4, .iload_n 3, 5, 0, 0, 0, m_x),
  (5, .bipush 40, 7, 0, 0, 0, m_x),
  (7, .if_icmp .ge 38, 10, 0, 45, 0, m_x),
  (10, .aload_n 0, 11, 0, 0, 0, m_x),
  (11, .invokevirtual 60, 14, 8, 0, 0, m_Rule_look),
  (14, .bipush 45, 16, 0, 0, 0, m_x),
  (16, .if_icmp .ne 29, 19, 0, 45, 0, m_x),
  (19, .iload_n 2, 20, 0, 0, 0, m_x),
  (20, .ifCond .ne 7, 23, 0, 27, 0, m_x),
  (23, .iconst 1, 24, 0, 0, 0, m_x),
  (24, .goto 4, 27, 0, 28, 0, m_x),
  (27, .iconst 0, 28, 0, 0, 0, m_x),
  (28, .istore_n 2, 29, 0, 0, 0, m_x),
  (29, .aload_n 0, 30, 0, 0, 0, m_x),
  (30, .dup, 31, 0, 0, 0, m_x),
  (31, .getfield 37, 34, 8, 4, 0, m_x),
  (34, .iconst 1, 35, 0, 0, 0, m_x),
  (35, .iadd, 36, 0, 0, 0, m_x),
  (36, .putfield 37, 39, 8, 4, 0, m_x),
  (39, .iinc 3 1, 42, 0, 0, 0, m_x),
  (42, .goto (-38), 45, 0, 4, 0, m_x),
  (45, .aload_n 0, 46, 0, 0, 0, m_x),
  (46, .invokevirtual 60, 49, 8, 0, 0, m_Rule_look),
  (49, .invokestatic 69, 52, 0, 0, 0, m_Text_isDigit),
  (52, .ifCond .eq 10, 55, 0, 62, 0, m_x),
  (55, .aload_n 0, 56, 0, 0, 0, m_x),
  (56, .invokevirtual 72, 59, 8, 0, 0, m_Rule_number),
  (59, .goto 24, 62, 0, 83, 0, m_x),
  (62, .aload_n 0, 63, 0, 0, 0, m_x),
  (63, .invokevirtual 60, 66, 8, 0, 0, m_Rule_look),
  (66, .bipush 40, 68, 0, 0, 0, m_x),
  (68, .if_icmp .ne 11, 71, 0, 79, 0, m_x),
  (71, .aload_n 0, 72, 0, 0, 0, m_x),
  (72, .iload_n 1, 73, 0, 0, 0, m_x),
  (73, .invokevirtual 76, 76, 8, 0, 0, m_Rule_group),
  (76, .goto 7, 79, 0, 83, 0, m_x),
  (79, .aload_n 0, 80, 0, 0, 0, m_x),
  (80, .invokevirtual 79, 83, 8, 0, 0, m_Rule_letter),
  (83, .istore_n 3, 84, 0, 0, 0, m_x),
  (84, .iload_n 2, 85, 0, 0, 0, m_x),
  (85, .ifCond .eq 9, 88, 0, 94, 0, m_x),
  (88, .aload_n 0, 89, 0, 0, 0, m_x),
  (89, .bipush (-18), 91, 0, 0, 0, m_x),
  (91, .invokevirtual 50, 94, 8, 0, 0, m_Rule_emit),
  (94, .iload_n 3, 95, 0, 0, 0, m_x),
  (95, .ireturn, 96, 0, 0, 0, m_x)]
theorem dc_Rule_thing : ∀ E ∈ k_Rule_thing, xDc m_Rule_thing E := by decide +kernel
set_option maxRecDepth 20000 in
theorem ok_Rule_thing : ∀ E ∈ k_Rule_thing, xOk m_Rule_thing E := xok_of dc_Rule_thing (xfc trivial (xfc trivial (xfc trivial (xfc trivial (xfc trivial (xfc trivial (xfc (show ((7 : Nat) : Int) + (38) = ((45 : Nat) : Int) from by decide) (xfc trivial (xfc ⟨ml_Rule_60, kd_Rule_look⟩ (xfc trivial (xfc (show ((16 : Nat) : Int) + (29) = ((45 : Nat) : Int) from by decide) (xfc trivial (xfc (show ((20 : Nat) : Int) + (7) = ((27 : Nat) : Int) from by decide) (xfc trivial (xfc (show ((24 : Nat) : Int) + (4) = ((28 : Nat) : Int) from by decide) (xfc trivial (xfc trivial (xfc trivial (xfc trivial (xfc fl_Rule_37 (xfc trivial (xfc trivial (xfc ⟨fl_Rule_37, fun q h f => by cases h; exact absurd f (by decide)⟩ (xfc trivial (xfc (show ((42 : Nat) : Int) + (-38) = ((4 : Nat) : Int) from by decide) (xfc trivial (xfc ⟨ml_Rule_60, kd_Rule_look⟩ (xfc ⟨ml_Rule_69, kd_Text_isDigit⟩ (xfc (show ((52 : Nat) : Int) + (10) = ((62 : Nat) : Int) from by decide) (xfc trivial (xfc ⟨ml_Rule_72, kd_Rule_number⟩ (xfc (show ((59 : Nat) : Int) + (24) = ((83 : Nat) : Int) from by decide) (xfc trivial (xfc ⟨ml_Rule_60, kd_Rule_look⟩ (xfc trivial (xfc (show ((68 : Nat) : Int) + (11) = ((79 : Nat) : Int) from by decide) (xfc trivial (xfc trivial (xfc ⟨ml_Rule_76, kd_Rule_group⟩ (xfc (show ((76 : Nat) : Int) + (7) = ((83 : Nat) : Int) from by decide) (xfc trivial (xfc ⟨ml_Rule_79, kd_Rule_letter⟩ (xfc trivial (xfc trivial (xfc (show ((85 : Nat) : Int) + (9) = ((94 : Nat) : Int) from by decide) (xfc trivial (xfc trivial (xfc ⟨ml_Rule_50, kd_Rule_emit⟩ (xfc trivial (xfc trivial (xfn)))))))))))))))))))))))))))))))))))))))))))))))))))
theorem s_Rule_thing_0  (C : xCx) (L r : List Value) (hp : xHp) : (xV k_Rule_thing C 0 L (r) hp) = (xV k_Rule_thing C 1 L (.int (0) :: r) hp) := xVe _ _ _ _ _ _
theorem s_Rule_thing_1 (C : xCx) (r : List Value) (hp : xHp) (x : Int32) (a0 a1 a2 a3 : Value) : (xV k_Rule_thing C 1 [a0, a1, a2, a3] (.int x :: r) hp) = (2 < 4 ∧ xNl [a0, a1, a2, a3] 2 ∧ xV k_Rule_thing C 2 [a0, a1, .int x, a3] r hp) := xVe _ _ _ _ _ _
theorem s_Rule_thing_2  (C : xCx) (L r : List Value) (hp : xHp) : (xV k_Rule_thing C 2 L (r) hp) = (xV k_Rule_thing C 3 L (.int (0) :: r) hp) := xVe _ _ _ _ _ _
theorem s_Rule_thing_3 (C : xCx) (r : List Value) (hp : xHp) (x : Int32) (a0 a1 a2 a3 : Value) : (xV k_Rule_thing C 3 [a0, a1, a2, a3] (.int x :: r) hp) = (3 < 4 ∧ xNl [a0, a1, a2, a3] 3 ∧ xV k_Rule_thing C 4 [a0, a1, a2, .int x] r hp) := xVe _ _ _ _ _ _
theorem s_Rule_thing_4 (C : xCx) (r : List Value) (hp : xHp) (x : Int32) (a0 a1 a2 : Value) : (xV k_Rule_thing C 4 [a0, a1, a2, .int x] r hp) = (xV k_Rule_thing C 5 [a0, a1, a2, .int x] (.int x :: r) hp) := xVe _ _ _ _ _ _
theorem s_Rule_thing_5  (C : xCx) (L r : List Value) (hp : xHp) : (xV k_Rule_thing C 5 L (r) hp) = (xV k_Rule_thing C 7 L (.int (40) :: r) hp) := xVe _ _ _ _ _ _
theorem s_Rule_thing_7 (x y : Int32) (C : xCx) (L r : List Value) (hp : xHp) : (xV k_Rule_thing C 7 L (.int y :: .int x :: r) hp) = (((y ≤ x → xV k_Rule_thing C 45 L r hp) ∧ (¬ y ≤ x → xV k_Rule_thing C 10 L r hp))) := xVe _ _ _ _ _ _
theorem s_Rule_thing_10 (C : xCx) (r : List Value) (hp : xHp) (x : Nat) (a1 a2 a3 : Value) : (xV k_Rule_thing C 10 [.ref x, a1, a2, a3] r hp) = (True ∧ xV k_Rule_thing C 11 [.ref x, a1, a2, a3] (.ref x :: r) hp) := xVe _ _ _ _ _ _
theorem s_Rule_thing_11 (a : Nat) (l : Launch) (d b lo gz n0 s0 : Nat) (Po : Option Value → xHp → Prop) (L r : List Value) (hp : xHp) : (xV k_Rule_thing (l, d + 1, b, lo, gz, n0, s0, m_Rule_thing, Po) 11 L (.ref a :: r) hp) = (xO hp a 8 ∧ xcs r 8 ∧ xMi l d b lo gz m_Rule_look [.ref a] hp (fun x hp' => xV k_Rule_thing (l, d + 1, b, lo, gz, n0, s0, m_Rule_thing, Po) 14 L (.int x :: r) hp')) := xVe _ _ _ _ _ _
theorem s_Rule_thing_14  (C : xCx) (L r : List Value) (hp : xHp) : (xV k_Rule_thing C 14 L (r) hp) = (xV k_Rule_thing C 16 L (.int (45) :: r) hp) := xVe _ _ _ _ _ _
theorem s_Rule_thing_16 (x y : Int32) (C : xCx) (L r : List Value) (hp : xHp) : (xV k_Rule_thing C 16 L (.int y :: .int x :: r) hp) = (((¬ x = y → xV k_Rule_thing C 45 L r hp) ∧ (x = y → xV k_Rule_thing C 19 L r hp))) := xVe _ _ _ _ _ _
theorem s_Rule_thing_19 (C : xCx) (r : List Value) (hp : xHp) (x : Int32) (a0 a1 a3 : Value) : (xV k_Rule_thing C 19 [a0, a1, .int x, a3] r hp) = (xV k_Rule_thing C 20 [a0, a1, .int x, a3] (.int x :: r) hp) := xVe _ _ _ _ _ _
theorem s_Rule_thing_20 (x : Int32) (C : xCx) (L r : List Value) (hp : xHp) : (xV k_Rule_thing C 20 L (.int x :: r) hp) = (((¬ x = 0 → xV k_Rule_thing C 27 L r hp) ∧ (x = 0 → xV k_Rule_thing C 23 L r hp))) := xVe _ _ _ _ _ _
theorem s_Rule_thing_23  (C : xCx) (L r : List Value) (hp : xHp) : (xV k_Rule_thing C 23 L (r) hp) = (xV k_Rule_thing C 24 L (.int (1) :: r) hp) := xVe _ _ _ _ _ _
theorem s_Rule_thing_24 (C : xCx) (L r : List Value) (hp : xHp) : (xV k_Rule_thing C 24 L r hp) = (xV k_Rule_thing C 28 L r hp) := xVe _ _ _ _ _ _
theorem s_Rule_thing_27  (C : xCx) (L r : List Value) (hp : xHp) : (xV k_Rule_thing C 27 L (r) hp) = (xV k_Rule_thing C 28 L (.int (0) :: r) hp) := xVe _ _ _ _ _ _
theorem s_Rule_thing_28 (C : xCx) (r : List Value) (hp : xHp) (x : Int32) (a0 a1 a2 a3 : Value) : (xV k_Rule_thing C 28 [a0, a1, a2, a3] (.int x :: r) hp) = (2 < 4 ∧ xNl [a0, a1, a2, a3] 2 ∧ xV k_Rule_thing C 29 [a0, a1, .int x, a3] r hp) := xVe _ _ _ _ _ _
theorem s_Rule_thing_29 (C : xCx) (r : List Value) (hp : xHp) (x : Nat) (a1 a2 a3 : Value) : (xV k_Rule_thing C 29 [.ref x, a1, a2, a3] r hp) = (True ∧ xV k_Rule_thing C 30 [.ref x, a1, a2, a3] (.ref x :: r) hp) := xVe _ _ _ _ _ _
theorem s_Rule_thing_30 (v : Value) (C : xCx) (L r : List Value) (hp : xHp) : (xV k_Rule_thing C 30 L (v :: r) hp) = (v.category = 1 ∧ xV k_Rule_thing C 31 L (v :: v :: r) hp) := xVe _ _ _ _ _ _
theorem s_Rule_thing_31 (a : Nat) (C : xCx) (L r : List Value) (hp : xHp) : (xV k_Rule_thing C 31 L (.ref a :: r) hp) = (xF hp a 8 4 (fun v => xV k_Rule_thing C 34 L (v :: r) hp)) := xVe _ _ _ _ _ _
theorem s_Rule_thing_34  (C : xCx) (L r : List Value) (hp : xHp) : (xV k_Rule_thing C 34 L (r) hp) = (xV k_Rule_thing C 35 L (.int (1) :: r) hp) := xVe _ _ _ _ _ _
theorem s_Rule_thing_35 (x y : Int32) (C : xCx) (L r : List Value) (hp : xHp) : (xV k_Rule_thing C 35 L (.int y :: .int x :: r) hp) = (xV k_Rule_thing C 36 L (.int (x + y) :: r) hp) := xVe _ _ _ _ _ _
theorem s_Rule_thing_36 (x : Int32) (a : Nat) (C : xCx) (L r : List Value) (hp : xHp) : (xV k_Rule_thing C 36 L (.int x :: .ref a :: r) hp) = (True ∧ xPf hp a 8 4 (.int x) (fun hp' => xV k_Rule_thing C 39 L r hp')) := xVe _ _ _ _ _ _
theorem s_Rule_thing_39 (C : xCx) (r : List Value) (hp : xHp) (x : Int32) (a0 a1 a2 : Value) : (xV k_Rule_thing C 39 [a0, a1, a2, .int x] r hp) = (xNl [a0, a1, a2, .int x] 3 ∧ xV k_Rule_thing C 42 [a0, a1, a2, .int (x + (1))] r hp) := xVe _ _ _ _ _ _
theorem s_Rule_thing_42 (C : xCx) (L r : List Value) (hp : xHp) : (xV k_Rule_thing C 42 L r hp) = (xV k_Rule_thing C 4 L r hp) := xVe _ _ _ _ _ _
theorem s_Rule_thing_45 (C : xCx) (r : List Value) (hp : xHp) (x : Nat) (a1 a2 a3 : Value) : (xV k_Rule_thing C 45 [.ref x, a1, a2, a3] r hp) = (True ∧ xV k_Rule_thing C 46 [.ref x, a1, a2, a3] (.ref x :: r) hp) := xVe _ _ _ _ _ _
theorem s_Rule_thing_46 (a : Nat) (l : Launch) (d b lo gz n0 s0 : Nat) (Po : Option Value → xHp → Prop) (L r : List Value) (hp : xHp) : (xV k_Rule_thing (l, d + 1, b, lo, gz, n0, s0, m_Rule_thing, Po) 46 L (.ref a :: r) hp) = (xO hp a 8 ∧ xcs r 8 ∧ xMi l d b lo gz m_Rule_look [.ref a] hp (fun x hp' => xV k_Rule_thing (l, d + 1, b, lo, gz, n0, s0, m_Rule_thing, Po) 49 L (.int x :: r) hp')) := xVe _ _ _ _ _ _
theorem s_Rule_thing_49 (x0 : Int32) (l : Launch) (d b lo gz n0 s0 : Nat) (Po : Option Value → xHp → Prop) (L r : List Value) (hp : xHp) : (xV k_Rule_thing (l, d + 1, b, lo, gz, n0, s0, m_Rule_thing, Po) 49 L (.int x0 :: r) hp) = (1 ≤ List.length (.int x0 :: r) ∧ xcs r 8 ∧ xMi l d b lo gz m_Text_isDigit [.int x0] hp (fun x hp' => xV k_Rule_thing (l, d + 1, b, lo, gz, n0, s0, m_Rule_thing, Po) 52 L (.int x :: r) hp')) := xVe _ _ _ _ _ _
theorem s_Rule_thing_52 (x : Int32) (C : xCx) (L r : List Value) (hp : xHp) : (xV k_Rule_thing C 52 L (.int x :: r) hp) = (((x = 0 → xV k_Rule_thing C 62 L r hp) ∧ (¬ x = 0 → xV k_Rule_thing C 55 L r hp))) := xVe _ _ _ _ _ _
theorem s_Rule_thing_55 (C : xCx) (r : List Value) (hp : xHp) (x : Nat) (a1 a2 a3 : Value) : (xV k_Rule_thing C 55 [.ref x, a1, a2, a3] r hp) = (True ∧ xV k_Rule_thing C 56 [.ref x, a1, a2, a3] (.ref x :: r) hp) := xVe _ _ _ _ _ _
theorem s_Rule_thing_56 (a : Nat) (l : Launch) (d b lo gz n0 s0 : Nat) (Po : Option Value → xHp → Prop) (L r : List Value) (hp : xHp) : (xV k_Rule_thing (l, d + 1, b, lo, gz, n0, s0, m_Rule_thing, Po) 56 L (.ref a :: r) hp) = (xO hp a 8 ∧ xcs r 8 ∧ xMi l d b lo gz m_Rule_number [.ref a] hp (fun x hp' => xV k_Rule_thing (l, d + 1, b, lo, gz, n0, s0, m_Rule_thing, Po) 59 L (.int x :: r) hp')) := xVe _ _ _ _ _ _
theorem s_Rule_thing_59 (C : xCx) (L r : List Value) (hp : xHp) : (xV k_Rule_thing C 59 L r hp) = (xV k_Rule_thing C 83 L r hp) := xVe _ _ _ _ _ _
theorem s_Rule_thing_62 (C : xCx) (r : List Value) (hp : xHp) (x : Nat) (a1 a2 a3 : Value) : (xV k_Rule_thing C 62 [.ref x, a1, a2, a3] r hp) = (True ∧ xV k_Rule_thing C 63 [.ref x, a1, a2, a3] (.ref x :: r) hp) := xVe _ _ _ _ _ _
theorem s_Rule_thing_63 (a : Nat) (l : Launch) (d b lo gz n0 s0 : Nat) (Po : Option Value → xHp → Prop) (L r : List Value) (hp : xHp) : (xV k_Rule_thing (l, d + 1, b, lo, gz, n0, s0, m_Rule_thing, Po) 63 L (.ref a :: r) hp) = (xO hp a 8 ∧ xcs r 8 ∧ xMi l d b lo gz m_Rule_look [.ref a] hp (fun x hp' => xV k_Rule_thing (l, d + 1, b, lo, gz, n0, s0, m_Rule_thing, Po) 66 L (.int x :: r) hp')) := xVe _ _ _ _ _ _
theorem s_Rule_thing_66  (C : xCx) (L r : List Value) (hp : xHp) : (xV k_Rule_thing C 66 L (r) hp) = (xV k_Rule_thing C 68 L (.int (40) :: r) hp) := xVe _ _ _ _ _ _
theorem s_Rule_thing_68 (x y : Int32) (C : xCx) (L r : List Value) (hp : xHp) : (xV k_Rule_thing C 68 L (.int y :: .int x :: r) hp) = (((¬ x = y → xV k_Rule_thing C 79 L r hp) ∧ (x = y → xV k_Rule_thing C 71 L r hp))) := xVe _ _ _ _ _ _
theorem s_Rule_thing_71 (C : xCx) (r : List Value) (hp : xHp) (x : Nat) (a1 a2 a3 : Value) : (xV k_Rule_thing C 71 [.ref x, a1, a2, a3] r hp) = (True ∧ xV k_Rule_thing C 72 [.ref x, a1, a2, a3] (.ref x :: r) hp) := xVe _ _ _ _ _ _
theorem s_Rule_thing_72 (C : xCx) (r : List Value) (hp : xHp) (x : Int32) (a0 a2 a3 : Value) : (xV k_Rule_thing C 72 [a0, .int x, a2, a3] r hp) = (xV k_Rule_thing C 73 [a0, .int x, a2, a3] (.int x :: r) hp) := xVe _ _ _ _ _ _
theorem s_Rule_thing_73 (x0 : Int32) (a : Nat) (l : Launch) (d b lo gz n0 s0 : Nat) (Po : Option Value → xHp → Prop) (L r : List Value) (hp : xHp) : (xV k_Rule_thing (l, d + 1, b, lo, gz, n0, s0, m_Rule_thing, Po) 73 L (.int x0 :: .ref a :: r) hp) = (xO hp a 8 ∧ xcs r 8 ∧ xMi l d b lo gz m_Rule_group [.ref a, .int x0] hp (fun x hp' => xV k_Rule_thing (l, d + 1, b, lo, gz, n0, s0, m_Rule_thing, Po) 76 L (.int x :: r) hp')) := xVe _ _ _ _ _ _
theorem s_Rule_thing_76 (C : xCx) (L r : List Value) (hp : xHp) : (xV k_Rule_thing C 76 L r hp) = (xV k_Rule_thing C 83 L r hp) := xVe _ _ _ _ _ _
theorem s_Rule_thing_79 (C : xCx) (r : List Value) (hp : xHp) (x : Nat) (a1 a2 a3 : Value) : (xV k_Rule_thing C 79 [.ref x, a1, a2, a3] r hp) = (True ∧ xV k_Rule_thing C 80 [.ref x, a1, a2, a3] (.ref x :: r) hp) := xVe _ _ _ _ _ _
theorem s_Rule_thing_80 (a : Nat) (l : Launch) (d b lo gz n0 s0 : Nat) (Po : Option Value → xHp → Prop) (L r : List Value) (hp : xHp) : (xV k_Rule_thing (l, d + 1, b, lo, gz, n0, s0, m_Rule_thing, Po) 80 L (.ref a :: r) hp) = (xO hp a 8 ∧ xcs r 8 ∧ xMi l d b lo gz m_Rule_letter [.ref a] hp (fun x hp' => xV k_Rule_thing (l, d + 1, b, lo, gz, n0, s0, m_Rule_thing, Po) 83 L (.int x :: r) hp')) := xVe _ _ _ _ _ _
theorem s_Rule_thing_83 (C : xCx) (r : List Value) (hp : xHp) (x : Int32) (a0 a1 a2 a3 : Value) : (xV k_Rule_thing C 83 [a0, a1, a2, a3] (.int x :: r) hp) = (3 < 4 ∧ xNl [a0, a1, a2, a3] 3 ∧ xV k_Rule_thing C 84 [a0, a1, a2, .int x] r hp) := xVe _ _ _ _ _ _
theorem s_Rule_thing_84 (C : xCx) (r : List Value) (hp : xHp) (x : Int32) (a0 a1 a3 : Value) : (xV k_Rule_thing C 84 [a0, a1, .int x, a3] r hp) = (xV k_Rule_thing C 85 [a0, a1, .int x, a3] (.int x :: r) hp) := xVe _ _ _ _ _ _
theorem s_Rule_thing_85 (x : Int32) (C : xCx) (L r : List Value) (hp : xHp) : (xV k_Rule_thing C 85 L (.int x :: r) hp) = (((x = 0 → xV k_Rule_thing C 94 L r hp) ∧ (¬ x = 0 → xV k_Rule_thing C 88 L r hp))) := xVe _ _ _ _ _ _
theorem s_Rule_thing_88 (C : xCx) (r : List Value) (hp : xHp) (x : Nat) (a1 a2 a3 : Value) : (xV k_Rule_thing C 88 [.ref x, a1, a2, a3] r hp) = (True ∧ xV k_Rule_thing C 89 [.ref x, a1, a2, a3] (.ref x :: r) hp) := xVe _ _ _ _ _ _
theorem s_Rule_thing_89  (C : xCx) (L r : List Value) (hp : xHp) : (xV k_Rule_thing C 89 L (r) hp) = (xV k_Rule_thing C 91 L (.int (-18) :: r) hp) := xVe _ _ _ _ _ _
theorem s_Rule_thing_91 (x0 : Int32) (a : Nat) (l : Launch) (d b lo gz n0 s0 : Nat) (Po : Option Value → xHp → Prop) (L r : List Value) (hp : xHp) : (xV k_Rule_thing (l, d + 1, b, lo, gz, n0, s0, m_Rule_thing, Po) 91 L (.int x0 :: .ref a :: r) hp) = (xO hp a 8 ∧ xcs r 8 ∧ xMv l d b lo gz m_Rule_emit [.ref a, .int x0] hp (fun hp' => xV k_Rule_thing (l, d + 1, b, lo, gz, n0, s0, m_Rule_thing, Po) 94 L r hp')) := xVe _ _ _ _ _ _
theorem s_Rule_thing_94 (C : xCx) (r : List Value) (hp : xHp) (x : Int32) (a0 a1 a2 : Value) : (xV k_Rule_thing C 94 [a0, a1, a2, .int x] r hp) = (xV k_Rule_thing C 95 [a0, a1, a2, .int x] (.int x :: r) hp) := xVe _ _ _ _ _ _
theorem s_Rule_thing_95 (v : Int32) (l : Launch) (d b lo gz n0 s0 : Nat) (Po : Option Value → xHp → Prop) (L : List Value) (hp : xHp) : (xV k_Rule_thing (l, d, b, lo, gz, n0, s0, m_Rule_thing, Po) 95 L [.int v] hp) = ((v = 0 ∨ v = 1) ∧ Po (some (.int v)) hp) := xVe _ _ _ _ _ _
theorem ml_Rule_54 : xLk "SunnyOnes$Rule" 54 m_Text_at := Or.inl (wg2 225 (by decide +kernel) rfl)
def k_Rule_look : List xEC := [
  (0, .aload_n 0, 1, 0, 0, 0, m_x),
  (1, .getfield 37, 4, 8, 4, 0, m_x),
  (4, .bipush 40, 6, 0, 0, 0, m_x),
  (6, .if_icmp .ge 17, 9, 0, 23, 0, m_x),
  (9, .aload_n 0, 10, 0, 0, 0, m_x),
  (10, .getfield 18, 13, 8, 0, 0, m_x),
  (13, .aload_n 0, 14, 0, 0, 0, m_x),
  (14, .getfield 37, 17, 8, 4, 0, m_x),
  (17, .invokevirtual 54, 20, 10, 0, 0, m_Text_at),
  (20, .goto 4, 23, 0, 24, 0, m_x),
  (23, .iconst (-1), 24, 0, 0, 0, m_x),
  (24, .ireturn, 25, 0, 0, 0, m_x)]
theorem dc_Rule_look : ∀ E ∈ k_Rule_look, xDc m_Rule_look E := by decide +kernel
set_option maxRecDepth 20000 in
theorem ok_Rule_look : ∀ E ∈ k_Rule_look, xOk m_Rule_look E := xok_of dc_Rule_look (xfc trivial (xfc fl_Rule_37 (xfc trivial (xfc (show ((6 : Nat) : Int) + (17) = ((23 : Nat) : Int) from by decide) (xfc trivial (xfc fl_Rule_18 (xfc trivial (xfc fl_Rule_37 (xfc ⟨ml_Rule_54, kd_Text_at⟩ (xfc (show ((20 : Nat) : Int) + (4) = ((24 : Nat) : Int) from by decide) (xfc trivial (xfc trivial (xfn)))))))))))))
theorem s_Rule_look_0 (C : xCx) (r : List Value) (hp : xHp) (x : Nat) : (xV k_Rule_look C 0 [.ref x] r hp) = (True ∧ xV k_Rule_look C 1 [.ref x] (.ref x :: r) hp) := xVe _ _ _ _ _ _
theorem s_Rule_look_1 (a : Nat) (C : xCx) (L r : List Value) (hp : xHp) : (xV k_Rule_look C 1 L (.ref a :: r) hp) = (xF hp a 8 4 (fun v => xV k_Rule_look C 4 L (v :: r) hp)) := xVe _ _ _ _ _ _
theorem s_Rule_look_4  (C : xCx) (L r : List Value) (hp : xHp) : (xV k_Rule_look C 4 L (r) hp) = (xV k_Rule_look C 6 L (.int (40) :: r) hp) := xVe _ _ _ _ _ _
theorem s_Rule_look_6 (x y : Int32) (C : xCx) (L r : List Value) (hp : xHp) : (xV k_Rule_look C 6 L (.int y :: .int x :: r) hp) = (((y ≤ x → xV k_Rule_look C 23 L r hp) ∧ (¬ y ≤ x → xV k_Rule_look C 9 L r hp))) := xVe _ _ _ _ _ _
theorem s_Rule_look_9 (C : xCx) (r : List Value) (hp : xHp) (x : Nat) : (xV k_Rule_look C 9 [.ref x] r hp) = (True ∧ xV k_Rule_look C 10 [.ref x] (.ref x :: r) hp) := xVe _ _ _ _ _ _
theorem s_Rule_look_10 (a : Nat) (C : xCx) (L r : List Value) (hp : xHp) : (xV k_Rule_look C 10 L (.ref a :: r) hp) = (xF hp a 8 0 (fun v => xV k_Rule_look C 13 L (v :: r) hp)) := xVe _ _ _ _ _ _
theorem s_Rule_look_13 (C : xCx) (r : List Value) (hp : xHp) (x : Nat) : (xV k_Rule_look C 13 [.ref x] r hp) = (True ∧ xV k_Rule_look C 14 [.ref x] (.ref x :: r) hp) := xVe _ _ _ _ _ _
theorem s_Rule_look_14 (a : Nat) (C : xCx) (L r : List Value) (hp : xHp) : (xV k_Rule_look C 14 L (.ref a :: r) hp) = (xF hp a 8 4 (fun v => xV k_Rule_look C 17 L (v :: r) hp)) := xVe _ _ _ _ _ _
theorem s_Rule_look_17 (x0 : Int32) (a : Nat) (l : Launch) (d b lo gz n0 s0 : Nat) (Po : Option Value → xHp → Prop) (L r : List Value) (hp : xHp) : (xV k_Rule_look (l, d + 1, b, lo, gz, n0, s0, m_Rule_look, Po) 17 L (.int x0 :: .ref a :: r) hp) = (xO hp a 10 ∧ xcs r 8 ∧ xMi l d b lo gz m_Text_at [.ref a, .int x0] hp (fun x hp' => xV k_Rule_look (l, d + 1, b, lo, gz, n0, s0, m_Rule_look, Po) 20 L (.int x :: r) hp')) := xVe _ _ _ _ _ _
theorem s_Rule_look_20 (C : xCx) (L r : List Value) (hp : xHp) : (xV k_Rule_look C 20 L r hp) = (xV k_Rule_look C 24 L r hp) := xVe _ _ _ _ _ _
theorem s_Rule_look_23  (C : xCx) (L r : List Value) (hp : xHp) : (xV k_Rule_look C 23 L (r) hp) = (xV k_Rule_look C 24 L (.int (-1) :: r) hp) := xVe _ _ _ _ _ _
theorem s_Rule_look_24 (v : Int32) (l : Launch) (d b lo gz n0 s0 : Nat) (Po : Option Value → xHp → Prop) (L : List Value) (hp : xHp) : (xV k_Rule_look (l, d, b, lo, gz, n0, s0, m_Rule_look, Po) 24 L [.int v] hp) = (Po (some (.int v)) hp) := xVe _ _ _ _ _ _
def k_Rule_number : List xEC := [
  (0, .iconst 0, 1, 0, 0, 0, m_x),
  (1, .istore_n 1, 2, 0, 0, 0, m_x),
  (2, .iconst 0, 3, 0, 0, 0, m_x),
  (3, .istore_n 2, 4, 0, 0, 0, m_x),
  (4, .iload_n 2, 5, 0, 0, 0, m_x),
  (5, .iconst 3, 6, 0, 0, 0, m_x),
  (6, .if_icmp .ge 42, 9, 0, 48, 0, m_x),
  (9, .aload_n 0, 10, 0, 0, 0, m_x),
  (10, .invokevirtual 60, 13, 8, 0, 0, m_Rule_look),
  (13, .invokestatic 69, 16, 0, 0, 0, m_Text_isDigit),
  (16, .ifCond .eq 32, 19, 0, 48, 0, m_x),
  (19, .bipush 10, 21, 0, 0, 0, m_x),
  (21, .iload_n 1, 22, 0, 0, 0, m_x),
  (22, .imul, 23, 0, 0, 0, m_x),
  (23, .aload_n 0, 24, 0, 0, 0, m_x),
  (24, .invokevirtual 60, 27, 8, 0, 0, m_Rule_look),
  (27, .iadd, 28, 0, 0, 0, m_x),
  (28, .bipush 48, 30, 0, 0, 0, m_x),
  (30, .isub, 31, 0, 0, 0, m_x),
  (31, .istore_n 1, 32, 0, 0, 0, m_x),
  (32, .aload_n 0, 33, 0, 0, 0, m_x),
  (33, .dup, 34, 0, 0, 0, m_x),
  (34, .getfield 37, 37, 8, 4, 0, m_x),
  (37, .iconst 1, 38, 0, 0, 0, m_x),
  (38, .iadd, 39, 0, 0, 0, m_x),
  (39, .putfield 37, 42, 8, 4, 0, m_x),
  (42, .iinc 2 1, 45, 0, 0, 0, m_x),
  (45, .goto (-41), 48, 0, 4, 0, m_x),
  (48, .aload_n 0, 49, 0, 0, 0, m_x),
  (49, .iload_n 1, 50, 0, 0, 0, m_x),
  (50, .invokevirtual 50, 53, 8, 0, 0, m_Rule_emit),
  (53, .iconst 1, 54, 0, 0, 0, m_x),
  (54, .ireturn, 55, 0, 0, 0, m_x)]
theorem dc_Rule_number : ∀ E ∈ k_Rule_number, xDc m_Rule_number E := by decide +kernel
set_option maxRecDepth 20000 in
theorem ok_Rule_number : ∀ E ∈ k_Rule_number, xOk m_Rule_number E := xok_of dc_Rule_number (xfc trivial (xfc trivial (xfc trivial (xfc trivial (xfc trivial (xfc trivial (xfc (show ((6 : Nat) : Int) + (42) = ((48 : Nat) : Int) from by decide) (xfc trivial (xfc ⟨ml_Rule_60, kd_Rule_look⟩ (xfc ⟨ml_Rule_69, kd_Text_isDigit⟩ (xfc (show ((16 : Nat) : Int) + (32) = ((48 : Nat) : Int) from by decide) (xfc trivial (xfc trivial (xfc trivial (xfc trivial (xfc ⟨ml_Rule_60, kd_Rule_look⟩ (xfc trivial (xfc trivial (xfc trivial (xfc trivial (xfc trivial (xfc trivial (xfc fl_Rule_37 (xfc trivial (xfc trivial (xfc ⟨fl_Rule_37, fun q h f => by cases h; exact absurd f (by decide)⟩ (xfc trivial (xfc (show ((45 : Nat) : Int) + (-41) = ((4 : Nat) : Int) from by decide) (xfc trivial (xfc trivial (xfc ⟨ml_Rule_50, kd_Rule_emit⟩ (xfc trivial (xfc trivial (xfn))))))))))))))))))))))))))))))))))
theorem s_Rule_number_0  (C : xCx) (L r : List Value) (hp : xHp) : (xV k_Rule_number C 0 L (r) hp) = (xV k_Rule_number C 1 L (.int (0) :: r) hp) := xVe _ _ _ _ _ _
theorem s_Rule_number_1 (C : xCx) (r : List Value) (hp : xHp) (x : Int32) (a0 a1 a2 : Value) : (xV k_Rule_number C 1 [a0, a1, a2] (.int x :: r) hp) = (1 < 3 ∧ xNl [a0, a1, a2] 1 ∧ xV k_Rule_number C 2 [a0, .int x, a2] r hp) := xVe _ _ _ _ _ _
theorem s_Rule_number_2  (C : xCx) (L r : List Value) (hp : xHp) : (xV k_Rule_number C 2 L (r) hp) = (xV k_Rule_number C 3 L (.int (0) :: r) hp) := xVe _ _ _ _ _ _
theorem s_Rule_number_3 (C : xCx) (r : List Value) (hp : xHp) (x : Int32) (a0 a1 a2 : Value) : (xV k_Rule_number C 3 [a0, a1, a2] (.int x :: r) hp) = (2 < 3 ∧ xNl [a0, a1, a2] 2 ∧ xV k_Rule_number C 4 [a0, a1, .int x] r hp) := xVe _ _ _ _ _ _
theorem s_Rule_number_4 (C : xCx) (r : List Value) (hp : xHp) (x : Int32) (a0 a1 : Value) : (xV k_Rule_number C 4 [a0, a1, .int x] r hp) = (xV k_Rule_number C 5 [a0, a1, .int x] (.int x :: r) hp) := xVe _ _ _ _ _ _
theorem s_Rule_number_5  (C : xCx) (L r : List Value) (hp : xHp) : (xV k_Rule_number C 5 L (r) hp) = (xV k_Rule_number C 6 L (.int (3) :: r) hp) := xVe _ _ _ _ _ _
theorem s_Rule_number_6 (x y : Int32) (C : xCx) (L r : List Value) (hp : xHp) : (xV k_Rule_number C 6 L (.int y :: .int x :: r) hp) = (((y ≤ x → xV k_Rule_number C 48 L r hp) ∧ (¬ y ≤ x → xV k_Rule_number C 9 L r hp))) := xVe _ _ _ _ _ _
theorem s_Rule_number_9 (C : xCx) (r : List Value) (hp : xHp) (x : Nat) (a1 a2 : Value) : (xV k_Rule_number C 9 [.ref x, a1, a2] r hp) = (True ∧ xV k_Rule_number C 10 [.ref x, a1, a2] (.ref x :: r) hp) := xVe _ _ _ _ _ _
theorem s_Rule_number_10 (a : Nat) (l : Launch) (d b lo gz n0 s0 : Nat) (Po : Option Value → xHp → Prop) (L r : List Value) (hp : xHp) : (xV k_Rule_number (l, d + 1, b, lo, gz, n0, s0, m_Rule_number, Po) 10 L (.ref a :: r) hp) = (xO hp a 8 ∧ xcs r 8 ∧ xMi l d b lo gz m_Rule_look [.ref a] hp (fun x hp' => xV k_Rule_number (l, d + 1, b, lo, gz, n0, s0, m_Rule_number, Po) 13 L (.int x :: r) hp')) := xVe _ _ _ _ _ _
theorem s_Rule_number_13 (x0 : Int32) (l : Launch) (d b lo gz n0 s0 : Nat) (Po : Option Value → xHp → Prop) (L r : List Value) (hp : xHp) : (xV k_Rule_number (l, d + 1, b, lo, gz, n0, s0, m_Rule_number, Po) 13 L (.int x0 :: r) hp) = (1 ≤ List.length (.int x0 :: r) ∧ xcs r 8 ∧ xMi l d b lo gz m_Text_isDigit [.int x0] hp (fun x hp' => xV k_Rule_number (l, d + 1, b, lo, gz, n0, s0, m_Rule_number, Po) 16 L (.int x :: r) hp')) := xVe _ _ _ _ _ _
theorem s_Rule_number_16 (x : Int32) (C : xCx) (L r : List Value) (hp : xHp) : (xV k_Rule_number C 16 L (.int x :: r) hp) = (((x = 0 → xV k_Rule_number C 48 L r hp) ∧ (¬ x = 0 → xV k_Rule_number C 19 L r hp))) := xVe _ _ _ _ _ _
theorem s_Rule_number_19  (C : xCx) (L r : List Value) (hp : xHp) : (xV k_Rule_number C 19 L (r) hp) = (xV k_Rule_number C 21 L (.int (10) :: r) hp) := xVe _ _ _ _ _ _
theorem s_Rule_number_21 (C : xCx) (r : List Value) (hp : xHp) (x : Int32) (a0 a2 : Value) : (xV k_Rule_number C 21 [a0, .int x, a2] r hp) = (xV k_Rule_number C 22 [a0, .int x, a2] (.int x :: r) hp) := xVe _ _ _ _ _ _
theorem s_Rule_number_22 (x y : Int32) (C : xCx) (L r : List Value) (hp : xHp) : (xV k_Rule_number C 22 L (.int y :: .int x :: r) hp) = (xV k_Rule_number C 23 L (.int (x * y) :: r) hp) := xVe _ _ _ _ _ _
theorem s_Rule_number_23 (C : xCx) (r : List Value) (hp : xHp) (x : Nat) (a1 a2 : Value) : (xV k_Rule_number C 23 [.ref x, a1, a2] r hp) = (True ∧ xV k_Rule_number C 24 [.ref x, a1, a2] (.ref x :: r) hp) := xVe _ _ _ _ _ _
theorem s_Rule_number_24 (a : Nat) (l : Launch) (d b lo gz n0 s0 : Nat) (Po : Option Value → xHp → Prop) (L r : List Value) (hp : xHp) : (xV k_Rule_number (l, d + 1, b, lo, gz, n0, s0, m_Rule_number, Po) 24 L (.ref a :: r) hp) = (xO hp a 8 ∧ xcs r 8 ∧ xMi l d b lo gz m_Rule_look [.ref a] hp (fun x hp' => xV k_Rule_number (l, d + 1, b, lo, gz, n0, s0, m_Rule_number, Po) 27 L (.int x :: r) hp')) := xVe _ _ _ _ _ _
theorem s_Rule_number_27 (x y : Int32) (C : xCx) (L r : List Value) (hp : xHp) : (xV k_Rule_number C 27 L (.int y :: .int x :: r) hp) = (xV k_Rule_number C 28 L (.int (x + y) :: r) hp) := xVe _ _ _ _ _ _
theorem s_Rule_number_28  (C : xCx) (L r : List Value) (hp : xHp) : (xV k_Rule_number C 28 L (r) hp) = (xV k_Rule_number C 30 L (.int (48) :: r) hp) := xVe _ _ _ _ _ _
theorem s_Rule_number_30 (x y : Int32) (C : xCx) (L r : List Value) (hp : xHp) : (xV k_Rule_number C 30 L (.int y :: .int x :: r) hp) = (xV k_Rule_number C 31 L (.int (x - y) :: r) hp) := xVe _ _ _ _ _ _
theorem s_Rule_number_31 (C : xCx) (r : List Value) (hp : xHp) (x : Int32) (a0 a1 a2 : Value) : (xV k_Rule_number C 31 [a0, a1, a2] (.int x :: r) hp) = (1 < 3 ∧ xNl [a0, a1, a2] 1 ∧ xV k_Rule_number C 32 [a0, .int x, a2] r hp) := xVe _ _ _ _ _ _
theorem s_Rule_number_32 (C : xCx) (r : List Value) (hp : xHp) (x : Nat) (a1 a2 : Value) : (xV k_Rule_number C 32 [.ref x, a1, a2] r hp) = (True ∧ xV k_Rule_number C 33 [.ref x, a1, a2] (.ref x :: r) hp) := xVe _ _ _ _ _ _
theorem s_Rule_number_33 (v : Value) (C : xCx) (L r : List Value) (hp : xHp) : (xV k_Rule_number C 33 L (v :: r) hp) = (v.category = 1 ∧ xV k_Rule_number C 34 L (v :: v :: r) hp) := xVe _ _ _ _ _ _
theorem s_Rule_number_34 (a : Nat) (C : xCx) (L r : List Value) (hp : xHp) : (xV k_Rule_number C 34 L (.ref a :: r) hp) = (xF hp a 8 4 (fun v => xV k_Rule_number C 37 L (v :: r) hp)) := xVe _ _ _ _ _ _
theorem s_Rule_number_37  (C : xCx) (L r : List Value) (hp : xHp) : (xV k_Rule_number C 37 L (r) hp) = (xV k_Rule_number C 38 L (.int (1) :: r) hp) := xVe _ _ _ _ _ _
theorem s_Rule_number_38 (x y : Int32) (C : xCx) (L r : List Value) (hp : xHp) : (xV k_Rule_number C 38 L (.int y :: .int x :: r) hp) = (xV k_Rule_number C 39 L (.int (x + y) :: r) hp) := xVe _ _ _ _ _ _
theorem s_Rule_number_39 (x : Int32) (a : Nat) (C : xCx) (L r : List Value) (hp : xHp) : (xV k_Rule_number C 39 L (.int x :: .ref a :: r) hp) = (True ∧ xPf hp a 8 4 (.int x) (fun hp' => xV k_Rule_number C 42 L r hp')) := xVe _ _ _ _ _ _
theorem s_Rule_number_42 (C : xCx) (r : List Value) (hp : xHp) (x : Int32) (a0 a1 : Value) : (xV k_Rule_number C 42 [a0, a1, .int x] r hp) = (xNl [a0, a1, .int x] 2 ∧ xV k_Rule_number C 45 [a0, a1, .int (x + (1))] r hp) := xVe _ _ _ _ _ _
theorem s_Rule_number_45 (C : xCx) (L r : List Value) (hp : xHp) : (xV k_Rule_number C 45 L r hp) = (xV k_Rule_number C 4 L r hp) := xVe _ _ _ _ _ _
theorem s_Rule_number_48 (C : xCx) (r : List Value) (hp : xHp) (x : Nat) (a1 a2 : Value) : (xV k_Rule_number C 48 [.ref x, a1, a2] r hp) = (True ∧ xV k_Rule_number C 49 [.ref x, a1, a2] (.ref x :: r) hp) := xVe _ _ _ _ _ _
theorem s_Rule_number_49 (C : xCx) (r : List Value) (hp : xHp) (x : Int32) (a0 a2 : Value) : (xV k_Rule_number C 49 [a0, .int x, a2] r hp) = (xV k_Rule_number C 50 [a0, .int x, a2] (.int x :: r) hp) := xVe _ _ _ _ _ _
theorem s_Rule_number_50 (x0 : Int32) (a : Nat) (l : Launch) (d b lo gz n0 s0 : Nat) (Po : Option Value → xHp → Prop) (L r : List Value) (hp : xHp) : (xV k_Rule_number (l, d + 1, b, lo, gz, n0, s0, m_Rule_number, Po) 50 L (.int x0 :: .ref a :: r) hp) = (xO hp a 8 ∧ xcs r 8 ∧ xMv l d b lo gz m_Rule_emit [.ref a, .int x0] hp (fun hp' => xV k_Rule_number (l, d + 1, b, lo, gz, n0, s0, m_Rule_number, Po) 53 L r hp')) := xVe _ _ _ _ _ _
theorem s_Rule_number_53  (C : xCx) (L r : List Value) (hp : xHp) : (xV k_Rule_number C 53 L (r) hp) = (xV k_Rule_number C 54 L (.int (1) :: r) hp) := xVe _ _ _ _ _ _
theorem s_Rule_number_54 (v : Int32) (l : Launch) (d b lo gz n0 s0 : Nat) (Po : Option Value → xHp → Prop) (L : List Value) (hp : xHp) : (xV k_Rule_number (l, d, b, lo, gz, n0, s0, m_Rule_number, Po) 54 L [.int v] hp) = ((v = 0 ∨ v = 1) ∧ Po (some (.int v)) hp) := xVe _ _ _ _ _ _
def k_Rule_group : List xEC := [
  (0, .iload_n 1, 1, 0, 0, 0, m_x),
  (1, .iconst 4, 2, 0, 0, 0, m_x),
  (2, .if_icmp .lt 5, 5, 0, 7, 0, m_x),
  (5, .iconst 0, 6, 0, 0, 0, m_x),
  (6, .ireturn, 7, 0, 0, 0, m_x),
  (7, .aload_n 0, 8, 0, 0, 0, m_x),
  (8, .dup, 9, 0, 0, 0, m_x),
  (9, .getfield 37, 12, 8, 4, 0, m_x),
  (12, .iconst 1, 13, 0, 0, 0, m_x),
  (13, .iadd, 14, 0, 0, 0, m_x),
  (14, .putfield 37, 17, 8, 4, 0, m_x),
  (17, .aload_n 0, 18, 0, 0, 0, m_x),
  (18, .iload_n 1, 19, 0, 0, 0, m_x),
  (19, .iconst 1, 20, 0, 0, 0, m_x),
  (20, .iadd, 21, 0, 0, 0, m_x),
  (21, .invokevirtual 46, 24, 8, 0, 0, m_Rule_comparison),
  (24, .ifCond .eq 12, 27, 0, 36, 0, m_x),
  (27, .aload_n 0, 28, 0, 0, 0, m_x),
  (28, .invokevirtual 60, 31, 8, 0, 0, m_Rule_look),
  (31, .bipush 41, 33, 0, 0, 0, m_x),
  (33, .if_icmp .eq 5, 36, 0, 38, 0, m_x),
  (36, .iconst 0, 37, 0, 0, 0, m_x),
  (37, .ireturn, 38, 0, 0, 0, m_x),
  (38, .aload_n 0, 39, 0, 0, 0, m_x),
  (39, .dup, 40, 0, 0, 0, m_x),
  (40, .getfield 37, 43, 8, 4, 0, m_x),
  (43, .iconst 1, 44, 0, 0, 0, m_x),
  (44, .iadd, 45, 0, 0, 0, m_x),
  (45, .putfield 37, 48, 8, 4, 0, m_x),
  (48, .iconst 1, 49, 0, 0, 0, m_x),
  (49, .ireturn, 50, 0, 0, 0, m_x)]
theorem dc_Rule_group : ∀ E ∈ k_Rule_group, xDc m_Rule_group E := by decide +kernel
set_option maxRecDepth 20000 in
theorem ok_Rule_group : ∀ E ∈ k_Rule_group, xOk m_Rule_group E := xok_of dc_Rule_group (xfc trivial (xfc trivial (xfc (show ((2 : Nat) : Int) + (5) = ((7 : Nat) : Int) from by decide) (xfc trivial (xfc trivial (xfc trivial (xfc trivial (xfc fl_Rule_37 (xfc trivial (xfc trivial (xfc ⟨fl_Rule_37, fun q h f => by cases h; exact absurd f (by decide)⟩ (xfc trivial (xfc trivial (xfc trivial (xfc trivial (xfc ⟨ml_Rule_46, kd_Rule_comparison⟩ (xfc (show ((24 : Nat) : Int) + (12) = ((36 : Nat) : Int) from by decide) (xfc trivial (xfc ⟨ml_Rule_60, kd_Rule_look⟩ (xfc trivial (xfc (show ((33 : Nat) : Int) + (5) = ((38 : Nat) : Int) from by decide) (xfc trivial (xfc trivial (xfc trivial (xfc trivial (xfc fl_Rule_37 (xfc trivial (xfc trivial (xfc ⟨fl_Rule_37, fun q h f => by cases h; exact absurd f (by decide)⟩ (xfc trivial (xfc trivial (xfn))))))))))))))))))))))))))))))))
theorem s_Rule_group_0 (C : xCx) (r : List Value) (hp : xHp) (x : Int32) (a0 : Value) : (xV k_Rule_group C 0 [a0, .int x] r hp) = (xV k_Rule_group C 1 [a0, .int x] (.int x :: r) hp) := xVe _ _ _ _ _ _
theorem s_Rule_group_1  (C : xCx) (L r : List Value) (hp : xHp) : (xV k_Rule_group C 1 L (r) hp) = (xV k_Rule_group C 2 L (.int (4) :: r) hp) := xVe _ _ _ _ _ _
theorem s_Rule_group_2 (x y : Int32) (C : xCx) (L r : List Value) (hp : xHp) : (xV k_Rule_group C 2 L (.int y :: .int x :: r) hp) = (((x < y → xV k_Rule_group C 7 L r hp) ∧ (¬ x < y → xV k_Rule_group C 5 L r hp))) := xVe _ _ _ _ _ _
theorem s_Rule_group_5  (C : xCx) (L r : List Value) (hp : xHp) : (xV k_Rule_group C 5 L (r) hp) = (xV k_Rule_group C 6 L (.int (0) :: r) hp) := xVe _ _ _ _ _ _
theorem s_Rule_group_6 (v : Int32) (l : Launch) (d b lo gz n0 s0 : Nat) (Po : Option Value → xHp → Prop) (L : List Value) (hp : xHp) : (xV k_Rule_group (l, d, b, lo, gz, n0, s0, m_Rule_group, Po) 6 L [.int v] hp) = ((v = 0 ∨ v = 1) ∧ Po (some (.int v)) hp) := xVe _ _ _ _ _ _
theorem s_Rule_group_7 (C : xCx) (r : List Value) (hp : xHp) (x : Nat) (a1 : Value) : (xV k_Rule_group C 7 [.ref x, a1] r hp) = (True ∧ xV k_Rule_group C 8 [.ref x, a1] (.ref x :: r) hp) := xVe _ _ _ _ _ _
theorem s_Rule_group_8 (v : Value) (C : xCx) (L r : List Value) (hp : xHp) : (xV k_Rule_group C 8 L (v :: r) hp) = (v.category = 1 ∧ xV k_Rule_group C 9 L (v :: v :: r) hp) := xVe _ _ _ _ _ _
theorem s_Rule_group_9 (a : Nat) (C : xCx) (L r : List Value) (hp : xHp) : (xV k_Rule_group C 9 L (.ref a :: r) hp) = (xF hp a 8 4 (fun v => xV k_Rule_group C 12 L (v :: r) hp)) := xVe _ _ _ _ _ _
theorem s_Rule_group_12  (C : xCx) (L r : List Value) (hp : xHp) : (xV k_Rule_group C 12 L (r) hp) = (xV k_Rule_group C 13 L (.int (1) :: r) hp) := xVe _ _ _ _ _ _
theorem s_Rule_group_13 (x y : Int32) (C : xCx) (L r : List Value) (hp : xHp) : (xV k_Rule_group C 13 L (.int y :: .int x :: r) hp) = (xV k_Rule_group C 14 L (.int (x + y) :: r) hp) := xVe _ _ _ _ _ _
theorem s_Rule_group_14 (x : Int32) (a : Nat) (C : xCx) (L r : List Value) (hp : xHp) : (xV k_Rule_group C 14 L (.int x :: .ref a :: r) hp) = (True ∧ xPf hp a 8 4 (.int x) (fun hp' => xV k_Rule_group C 17 L r hp')) := xVe _ _ _ _ _ _
theorem s_Rule_group_17 (C : xCx) (r : List Value) (hp : xHp) (x : Nat) (a1 : Value) : (xV k_Rule_group C 17 [.ref x, a1] r hp) = (True ∧ xV k_Rule_group C 18 [.ref x, a1] (.ref x :: r) hp) := xVe _ _ _ _ _ _
theorem s_Rule_group_18 (C : xCx) (r : List Value) (hp : xHp) (x : Int32) (a0 : Value) : (xV k_Rule_group C 18 [a0, .int x] r hp) = (xV k_Rule_group C 19 [a0, .int x] (.int x :: r) hp) := xVe _ _ _ _ _ _
theorem s_Rule_group_19  (C : xCx) (L r : List Value) (hp : xHp) : (xV k_Rule_group C 19 L (r) hp) = (xV k_Rule_group C 20 L (.int (1) :: r) hp) := xVe _ _ _ _ _ _
theorem s_Rule_group_20 (x y : Int32) (C : xCx) (L r : List Value) (hp : xHp) : (xV k_Rule_group C 20 L (.int y :: .int x :: r) hp) = (xV k_Rule_group C 21 L (.int (x + y) :: r) hp) := xVe _ _ _ _ _ _
theorem s_Rule_group_21 (x0 : Int32) (a : Nat) (l : Launch) (d b lo gz n0 s0 : Nat) (Po : Option Value → xHp → Prop) (L r : List Value) (hp : xHp) : (xV k_Rule_group (l, d + 1, b, lo, gz, n0, s0, m_Rule_group, Po) 21 L (.int x0 :: .ref a :: r) hp) = (xO hp a 8 ∧ xcs r 8 ∧ xMi l d b lo gz m_Rule_comparison [.ref a, .int x0] hp (fun x hp' => xV k_Rule_group (l, d + 1, b, lo, gz, n0, s0, m_Rule_group, Po) 24 L (.int x :: r) hp')) := xVe _ _ _ _ _ _
theorem s_Rule_group_24 (x : Int32) (C : xCx) (L r : List Value) (hp : xHp) : (xV k_Rule_group C 24 L (.int x :: r) hp) = (((x = 0 → xV k_Rule_group C 36 L r hp) ∧ (¬ x = 0 → xV k_Rule_group C 27 L r hp))) := xVe _ _ _ _ _ _
theorem s_Rule_group_27 (C : xCx) (r : List Value) (hp : xHp) (x : Nat) (a1 : Value) : (xV k_Rule_group C 27 [.ref x, a1] r hp) = (True ∧ xV k_Rule_group C 28 [.ref x, a1] (.ref x :: r) hp) := xVe _ _ _ _ _ _
theorem s_Rule_group_28 (a : Nat) (l : Launch) (d b lo gz n0 s0 : Nat) (Po : Option Value → xHp → Prop) (L r : List Value) (hp : xHp) : (xV k_Rule_group (l, d + 1, b, lo, gz, n0, s0, m_Rule_group, Po) 28 L (.ref a :: r) hp) = (xO hp a 8 ∧ xcs r 8 ∧ xMi l d b lo gz m_Rule_look [.ref a] hp (fun x hp' => xV k_Rule_group (l, d + 1, b, lo, gz, n0, s0, m_Rule_group, Po) 31 L (.int x :: r) hp')) := xVe _ _ _ _ _ _
theorem s_Rule_group_31  (C : xCx) (L r : List Value) (hp : xHp) : (xV k_Rule_group C 31 L (r) hp) = (xV k_Rule_group C 33 L (.int (41) :: r) hp) := xVe _ _ _ _ _ _
theorem s_Rule_group_33 (x y : Int32) (C : xCx) (L r : List Value) (hp : xHp) : (xV k_Rule_group C 33 L (.int y :: .int x :: r) hp) = (((x = y → xV k_Rule_group C 38 L r hp) ∧ (¬ x = y → xV k_Rule_group C 36 L r hp))) := xVe _ _ _ _ _ _
theorem s_Rule_group_36  (C : xCx) (L r : List Value) (hp : xHp) : (xV k_Rule_group C 36 L (r) hp) = (xV k_Rule_group C 37 L (.int (0) :: r) hp) := xVe _ _ _ _ _ _
theorem s_Rule_group_37 (v : Int32) (l : Launch) (d b lo gz n0 s0 : Nat) (Po : Option Value → xHp → Prop) (L : List Value) (hp : xHp) : (xV k_Rule_group (l, d, b, lo, gz, n0, s0, m_Rule_group, Po) 37 L [.int v] hp) = ((v = 0 ∨ v = 1) ∧ Po (some (.int v)) hp) := xVe _ _ _ _ _ _
theorem s_Rule_group_38 (C : xCx) (r : List Value) (hp : xHp) (x : Nat) (a1 : Value) : (xV k_Rule_group C 38 [.ref x, a1] r hp) = (True ∧ xV k_Rule_group C 39 [.ref x, a1] (.ref x :: r) hp) := xVe _ _ _ _ _ _
theorem s_Rule_group_39 (v : Value) (C : xCx) (L r : List Value) (hp : xHp) : (xV k_Rule_group C 39 L (v :: r) hp) = (v.category = 1 ∧ xV k_Rule_group C 40 L (v :: v :: r) hp) := xVe _ _ _ _ _ _
theorem s_Rule_group_40 (a : Nat) (C : xCx) (L r : List Value) (hp : xHp) : (xV k_Rule_group C 40 L (.ref a :: r) hp) = (xF hp a 8 4 (fun v => xV k_Rule_group C 43 L (v :: r) hp)) := xVe _ _ _ _ _ _
theorem s_Rule_group_43  (C : xCx) (L r : List Value) (hp : xHp) : (xV k_Rule_group C 43 L (r) hp) = (xV k_Rule_group C 44 L (.int (1) :: r) hp) := xVe _ _ _ _ _ _
theorem s_Rule_group_44 (x y : Int32) (C : xCx) (L r : List Value) (hp : xHp) : (xV k_Rule_group C 44 L (.int y :: .int x :: r) hp) = (xV k_Rule_group C 45 L (.int (x + y) :: r) hp) := xVe _ _ _ _ _ _
theorem s_Rule_group_45 (x : Int32) (a : Nat) (C : xCx) (L r : List Value) (hp : xHp) : (xV k_Rule_group C 45 L (.int x :: .ref a :: r) hp) = (True ∧ xPf hp a 8 4 (.int x) (fun hp' => xV k_Rule_group C 48 L r hp')) := xVe _ _ _ _ _ _
theorem s_Rule_group_48  (C : xCx) (L r : List Value) (hp : xHp) : (xV k_Rule_group C 48 L (r) hp) = (xV k_Rule_group C 49 L (.int (1) :: r) hp) := xVe _ _ _ _ _ _
theorem s_Rule_group_49 (v : Int32) (l : Launch) (d b lo gz n0 s0 : Nat) (Po : Option Value → xHp → Prop) (L : List Value) (hp : xHp) : (xV k_Rule_group (l, d, b, lo, gz, n0, s0, m_Rule_group, Po) 49 L [.int v] hp) = ((v = 0 ∨ v = 1) ∧ Po (some (.int v)) hp) := xVe _ _ _ _ _ _
theorem ml_Rule_82 : xLk "SunnyOnes$Rule" 82 m_Rule_letterOf := Or.inl (wg2 239 (by decide +kernel) rfl)
def k_Rule_letter : List xEC := [
  (0, .aload_n 0, 1, 0, 0, 0, m_x),
  (1, .invokevirtual 60, 4, 8, 0, 0, m_Rule_look),
  (4, .invokestatic 82, 7, 0, 0, 0, m_Rule_letterOf),
  (7, .istore_n 1, 8, 0, 0, 0, m_x),
  (8, .iload_n 1, 9, 0, 0, 0, m_x),
  (9, .ifCond .ge 5, 12, 0, 14, 0, m_x),
  (12, .iconst 0, 13, 0, 0, 0, m_x),
  (13, .ireturn, 14, 0, 0, 0, m_x),
  (14, .aload_n 0, 15, 0, 0, 0, m_x),
  (15, .dup, 16, 0, 0, 0, m_x),
  (16, .getfield 37, 19, 8, 4, 0, m_x),
  (19, .iconst 1, 20, 0, 0, 0, m_x),
  (20, .iadd, 21, 0, 0, 0, m_x),
  (21, .putfield 37, 24, 8, 4, 0, m_x),
  (24, .aload_n 0, 25, 0, 0, 0, m_x),
  (25, .iconst (-1), 26, 0, 0, 0, m_x),
  (26, .iload_n 1, 27, 0, 0, 0, m_x),
  (27, .isub, 28, 0, 0, 0, m_x),
  (28, .invokevirtual 50, 31, 8, 0, 0, m_Rule_emit),
  (31, .iconst 1, 32, 0, 0, 0, m_x),
  (32, .ireturn, 33, 0, 0, 0, m_x)]
theorem dc_Rule_letter : ∀ E ∈ k_Rule_letter, xDc m_Rule_letter E := by decide +kernel
set_option maxRecDepth 20000 in
theorem ok_Rule_letter : ∀ E ∈ k_Rule_letter, xOk m_Rule_letter E := xok_of dc_Rule_letter (xfc trivial (xfc ⟨ml_Rule_60, kd_Rule_look⟩ (xfc ⟨ml_Rule_82, kd_Rule_letterOf⟩ (xfc trivial (xfc trivial (xfc (show ((9 : Nat) : Int) + (5) = ((14 : Nat) : Int) from by decide) (xfc trivial (xfc trivial (xfc trivial (xfc trivial (xfc fl_Rule_37 (xfc trivial (xfc trivial (xfc ⟨fl_Rule_37, fun q h f => by cases h; exact absurd f (by decide)⟩ (xfc trivial (xfc trivial (xfc trivial (xfc trivial (xfc ⟨ml_Rule_50, kd_Rule_emit⟩ (xfc trivial (xfc trivial (xfn))))))))))))))))))))))
theorem s_Rule_letter_0 (C : xCx) (r : List Value) (hp : xHp) (x : Nat) (a1 : Value) : (xV k_Rule_letter C 0 [.ref x, a1] r hp) = (True ∧ xV k_Rule_letter C 1 [.ref x, a1] (.ref x :: r) hp) := xVe _ _ _ _ _ _
theorem s_Rule_letter_1 (a : Nat) (l : Launch) (d b lo gz n0 s0 : Nat) (Po : Option Value → xHp → Prop) (L r : List Value) (hp : xHp) : (xV k_Rule_letter (l, d + 1, b, lo, gz, n0, s0, m_Rule_letter, Po) 1 L (.ref a :: r) hp) = (xO hp a 8 ∧ xcs r 8 ∧ xMi l d b lo gz m_Rule_look [.ref a] hp (fun x hp' => xV k_Rule_letter (l, d + 1, b, lo, gz, n0, s0, m_Rule_letter, Po) 4 L (.int x :: r) hp')) := xVe _ _ _ _ _ _
theorem s_Rule_letter_4 (x0 : Int32) (l : Launch) (d b lo gz n0 s0 : Nat) (Po : Option Value → xHp → Prop) (L r : List Value) (hp : xHp) : (xV k_Rule_letter (l, d + 1, b, lo, gz, n0, s0, m_Rule_letter, Po) 4 L (.int x0 :: r) hp) = (1 ≤ List.length (.int x0 :: r) ∧ xcs r 8 ∧ xMi l d b lo gz m_Rule_letterOf [.int x0] hp (fun x hp' => xV k_Rule_letter (l, d + 1, b, lo, gz, n0, s0, m_Rule_letter, Po) 7 L (.int x :: r) hp')) := xVe _ _ _ _ _ _
theorem s_Rule_letter_7 (C : xCx) (r : List Value) (hp : xHp) (x : Int32) (a0 a1 : Value) : (xV k_Rule_letter C 7 [a0, a1] (.int x :: r) hp) = (1 < 2 ∧ xNl [a0, a1] 1 ∧ xV k_Rule_letter C 8 [a0, .int x] r hp) := xVe _ _ _ _ _ _
theorem s_Rule_letter_8 (C : xCx) (r : List Value) (hp : xHp) (x : Int32) (a0 : Value) : (xV k_Rule_letter C 8 [a0, .int x] r hp) = (xV k_Rule_letter C 9 [a0, .int x] (.int x :: r) hp) := xVe _ _ _ _ _ _
theorem s_Rule_letter_9 (x : Int32) (C : xCx) (L r : List Value) (hp : xHp) : (xV k_Rule_letter C 9 L (.int x :: r) hp) = (((0 ≤ x → xV k_Rule_letter C 14 L r hp) ∧ (¬ 0 ≤ x → xV k_Rule_letter C 12 L r hp))) := xVe _ _ _ _ _ _
theorem s_Rule_letter_12  (C : xCx) (L r : List Value) (hp : xHp) : (xV k_Rule_letter C 12 L (r) hp) = (xV k_Rule_letter C 13 L (.int (0) :: r) hp) := xVe _ _ _ _ _ _
theorem s_Rule_letter_13 (v : Int32) (l : Launch) (d b lo gz n0 s0 : Nat) (Po : Option Value → xHp → Prop) (L : List Value) (hp : xHp) : (xV k_Rule_letter (l, d, b, lo, gz, n0, s0, m_Rule_letter, Po) 13 L [.int v] hp) = ((v = 0 ∨ v = 1) ∧ Po (some (.int v)) hp) := xVe _ _ _ _ _ _
theorem s_Rule_letter_14 (C : xCx) (r : List Value) (hp : xHp) (x : Nat) (a1 : Value) : (xV k_Rule_letter C 14 [.ref x, a1] r hp) = (True ∧ xV k_Rule_letter C 15 [.ref x, a1] (.ref x :: r) hp) := xVe _ _ _ _ _ _
theorem s_Rule_letter_15 (v : Value) (C : xCx) (L r : List Value) (hp : xHp) : (xV k_Rule_letter C 15 L (v :: r) hp) = (v.category = 1 ∧ xV k_Rule_letter C 16 L (v :: v :: r) hp) := xVe _ _ _ _ _ _
theorem s_Rule_letter_16 (a : Nat) (C : xCx) (L r : List Value) (hp : xHp) : (xV k_Rule_letter C 16 L (.ref a :: r) hp) = (xF hp a 8 4 (fun v => xV k_Rule_letter C 19 L (v :: r) hp)) := xVe _ _ _ _ _ _
theorem s_Rule_letter_19  (C : xCx) (L r : List Value) (hp : xHp) : (xV k_Rule_letter C 19 L (r) hp) = (xV k_Rule_letter C 20 L (.int (1) :: r) hp) := xVe _ _ _ _ _ _
theorem s_Rule_letter_20 (x y : Int32) (C : xCx) (L r : List Value) (hp : xHp) : (xV k_Rule_letter C 20 L (.int y :: .int x :: r) hp) = (xV k_Rule_letter C 21 L (.int (x + y) :: r) hp) := xVe _ _ _ _ _ _
theorem s_Rule_letter_21 (x : Int32) (a : Nat) (C : xCx) (L r : List Value) (hp : xHp) : (xV k_Rule_letter C 21 L (.int x :: .ref a :: r) hp) = (True ∧ xPf hp a 8 4 (.int x) (fun hp' => xV k_Rule_letter C 24 L r hp')) := xVe _ _ _ _ _ _
theorem s_Rule_letter_24 (C : xCx) (r : List Value) (hp : xHp) (x : Nat) (a1 : Value) : (xV k_Rule_letter C 24 [.ref x, a1] r hp) = (True ∧ xV k_Rule_letter C 25 [.ref x, a1] (.ref x :: r) hp) := xVe _ _ _ _ _ _
theorem s_Rule_letter_25  (C : xCx) (L r : List Value) (hp : xHp) : (xV k_Rule_letter C 25 L (r) hp) = (xV k_Rule_letter C 26 L (.int (-1) :: r) hp) := xVe _ _ _ _ _ _
theorem s_Rule_letter_26 (C : xCx) (r : List Value) (hp : xHp) (x : Int32) (a0 : Value) : (xV k_Rule_letter C 26 [a0, .int x] r hp) = (xV k_Rule_letter C 27 [a0, .int x] (.int x :: r) hp) := xVe _ _ _ _ _ _
theorem s_Rule_letter_27 (x y : Int32) (C : xCx) (L r : List Value) (hp : xHp) : (xV k_Rule_letter C 27 L (.int y :: .int x :: r) hp) = (xV k_Rule_letter C 28 L (.int (x - y) :: r) hp) := xVe _ _ _ _ _ _
theorem s_Rule_letter_28 (x0 : Int32) (a : Nat) (l : Launch) (d b lo gz n0 s0 : Nat) (Po : Option Value → xHp → Prop) (L r : List Value) (hp : xHp) : (xV k_Rule_letter (l, d + 1, b, lo, gz, n0, s0, m_Rule_letter, Po) 28 L (.int x0 :: .ref a :: r) hp) = (xO hp a 8 ∧ xcs r 8 ∧ xMv l d b lo gz m_Rule_emit [.ref a, .int x0] hp (fun hp' => xV k_Rule_letter (l, d + 1, b, lo, gz, n0, s0, m_Rule_letter, Po) 31 L r hp')) := xVe _ _ _ _ _ _
theorem s_Rule_letter_31  (C : xCx) (L r : List Value) (hp : xHp) : (xV k_Rule_letter C 31 L (r) hp) = (xV k_Rule_letter C 32 L (.int (1) :: r) hp) := xVe _ _ _ _ _ _
theorem s_Rule_letter_32 (v : Int32) (l : Launch) (d b lo gz n0 s0 : Nat) (Po : Option Value → xHp → Prop) (L : List Value) (hp : xHp) : (xV k_Rule_letter (l, d, b, lo, gz, n0, s0, m_Rule_letter, Po) 32 L [.int v] hp) = ((v = 0 ∨ v = 1) ∧ Po (some (.int v)) hp) := xVe _ _ _ _ _ _
def k_Rule_letterOf : List xEC := [
  (0, .iload_n 0, 1, 0, 0, 0, m_x),
  (1, .tableswitch 122 97 119 #[111, 122, 122, 122, 122, 122, 122, 122, 117, 122, 113, 122, 122, 119, 122, 115, 122, 122, 107, 122, 122, 122, 109], 108, 0, 0, 0, m_x),
  (108, .iconst 0, 109, 0, 0, 0, m_x),
  (109, .ireturn, 110, 0, 0, 0, m_x),
  (110, .iconst 1, 111, 0, 0, 0, m_x),
  (111, .ireturn, 112, 0, 0, 0, m_x),
  (112, .iconst 2, 113, 0, 0, 0, m_x),
  (113, .ireturn, 114, 0, 0, 0, m_x),
  (114, .iconst 3, 115, 0, 0, 0, m_x),
  (115, .ireturn, 116, 0, 0, 0, m_x),
  (116, .iconst 4, 117, 0, 0, 0, m_x),
  (117, .ireturn, 118, 0, 0, 0, m_x),
  (118, .iconst 5, 119, 0, 0, 0, m_x),
  (119, .ireturn, 120, 0, 0, 0, m_x),
  (120, .bipush 6, 122, 0, 0, 0, m_x),
  (122, .ireturn, 123, 0, 0, 0, m_x),
  (123, .iconst (-1), 124, 0, 0, 0, m_x),
  (124, .ireturn, 125, 0, 0, 0, m_x)]
theorem dc_Rule_letterOf : ∀ E ∈ k_Rule_letterOf, xDc m_Rule_letterOf E := by decide +kernel
set_option maxRecDepth 20000 in
theorem ok_Rule_letterOf : ∀ E ∈ k_Rule_letterOf, xOk m_Rule_letterOf E := xok_of dc_Rule_letterOf (xfc trivial (xfc (show (-2147483648 : Int) ≤ (97) ∧ (97) + ((#[111, 122, 122, 122, 122, 122, 122, 122, 117, 122, 113, 122, 122, 119, 122, 115, 122, 122, 107, 122, 122, 122, 109] : Array Int).size : Int) ≤ 2147483648 ∧ (119 : Int) = (97) + ((#[111, 122, 122, 122, 122, 122, 122, 122, 117, 122, 113, 122, 122, 119, 122, 115, 122, 122, 107, 122, 122, 122, 109] : Array Int).size : Int) - 1 ∧ (0 : Int) ≤ ((1 : Nat) : Int) + (122) ∧ ∀ o ∈ (#[111, 122, 122, 122, 122, 122, 122, 122, 117, 122, 113, 122, 122, 119, 122, 115, 122, 122, 107, 122, 122, 122, 109] : Array Int).toList, (0 : Int) ≤ ((1 : Nat) : Int) + o from by decide) (xfc trivial (xfc trivial (xfc trivial (xfc trivial (xfc trivial (xfc trivial (xfc trivial (xfc trivial (xfc trivial (xfc trivial (xfc trivial (xfc trivial (xfc trivial (xfc trivial (xfc trivial (xfc trivial (xfn)))))))))))))))))))
theorem s_Rule_letterOf_0 (C : xCx) (r : List Value) (hp : xHp) (x : Int32) : (xV k_Rule_letterOf C 0 [.int x] r hp) = (xV k_Rule_letterOf C 1 [.int x] (.int x :: r) hp) := xVe _ _ _ _ _ _
theorem s_Rule_letterOf_1 (x : Int32) (C : xCx) (L r : List Value) (hp : xHp) : (xV k_Rule_letterOf C 1 L (.int x :: r) hp) = (((x = (97) → xV k_Rule_letterOf C 112 L r hp) ∧ (¬ x = (97) → ((x = (98) → xV k_Rule_letterOf C 123 L r hp) ∧ (¬ x = (98) → ((x = (99) → xV k_Rule_letterOf C 123 L r hp) ∧ (¬ x = (99) → ((x = (100) → xV k_Rule_letterOf C 123 L r hp) ∧ (¬ x = (100) → ((x = (101) → xV k_Rule_letterOf C 123 L r hp) ∧ (¬ x = (101) → ((x = (102) → xV k_Rule_letterOf C 123 L r hp) ∧ (¬ x = (102) → ((x = (103) → xV k_Rule_letterOf C 123 L r hp) ∧ (¬ x = (103) → ((x = (104) → xV k_Rule_letterOf C 123 L r hp) ∧ (¬ x = (104) → ((x = (105) → xV k_Rule_letterOf C 118 L r hp) ∧ (¬ x = (105) → ((x = (106) → xV k_Rule_letterOf C 123 L r hp) ∧ (¬ x = (106) → ((x = (107) → xV k_Rule_letterOf C 114 L r hp) ∧ (¬ x = (107) → ((x = (108) → xV k_Rule_letterOf C 123 L r hp) ∧ (¬ x = (108) → ((x = (109) → xV k_Rule_letterOf C 123 L r hp) ∧ (¬ x = (109) → ((x = (110) → xV k_Rule_letterOf C 120 L r hp) ∧ (¬ x = (110) → ((x = (111) → xV k_Rule_letterOf C 123 L r hp) ∧ (¬ x = (111) → ((x = (112) → xV k_Rule_letterOf C 116 L r hp) ∧ (¬ x = (112) → ((x = (113) → xV k_Rule_letterOf C 123 L r hp) ∧ (¬ x = (113) → ((x = (114) → xV k_Rule_letterOf C 123 L r hp) ∧ (¬ x = (114) → ((x = (115) → xV k_Rule_letterOf C 108 L r hp) ∧ (¬ x = (115) → ((x = (116) → xV k_Rule_letterOf C 123 L r hp) ∧ (¬ x = (116) → ((x = (117) → xV k_Rule_letterOf C 123 L r hp) ∧ (¬ x = (117) → ((x = (118) → xV k_Rule_letterOf C 123 L r hp) ∧ (¬ x = (118) → ((x = (119) → xV k_Rule_letterOf C 110 L r hp) ∧ (¬ x = (119) → xV k_Rule_letterOf C 123 L r hp))))))))))))))))))))))))))))))))))))))))))))))) := xVe _ _ _ _ _ _
theorem s_Rule_letterOf_108  (C : xCx) (L r : List Value) (hp : xHp) : (xV k_Rule_letterOf C 108 L (r) hp) = (xV k_Rule_letterOf C 109 L (.int (0) :: r) hp) := xVe _ _ _ _ _ _
theorem s_Rule_letterOf_109 (v : Int32) (l : Launch) (d b lo gz n0 s0 : Nat) (Po : Option Value → xHp → Prop) (L : List Value) (hp : xHp) : (xV k_Rule_letterOf (l, d, b, lo, gz, n0, s0, m_Rule_letterOf, Po) 109 L [.int v] hp) = (Po (some (.int v)) hp) := xVe _ _ _ _ _ _
theorem s_Rule_letterOf_110  (C : xCx) (L r : List Value) (hp : xHp) : (xV k_Rule_letterOf C 110 L (r) hp) = (xV k_Rule_letterOf C 111 L (.int (1) :: r) hp) := xVe _ _ _ _ _ _
theorem s_Rule_letterOf_111 (v : Int32) (l : Launch) (d b lo gz n0 s0 : Nat) (Po : Option Value → xHp → Prop) (L : List Value) (hp : xHp) : (xV k_Rule_letterOf (l, d, b, lo, gz, n0, s0, m_Rule_letterOf, Po) 111 L [.int v] hp) = (Po (some (.int v)) hp) := xVe _ _ _ _ _ _
theorem s_Rule_letterOf_112  (C : xCx) (L r : List Value) (hp : xHp) : (xV k_Rule_letterOf C 112 L (r) hp) = (xV k_Rule_letterOf C 113 L (.int (2) :: r) hp) := xVe _ _ _ _ _ _
theorem s_Rule_letterOf_113 (v : Int32) (l : Launch) (d b lo gz n0 s0 : Nat) (Po : Option Value → xHp → Prop) (L : List Value) (hp : xHp) : (xV k_Rule_letterOf (l, d, b, lo, gz, n0, s0, m_Rule_letterOf, Po) 113 L [.int v] hp) = (Po (some (.int v)) hp) := xVe _ _ _ _ _ _
theorem s_Rule_letterOf_114  (C : xCx) (L r : List Value) (hp : xHp) : (xV k_Rule_letterOf C 114 L (r) hp) = (xV k_Rule_letterOf C 115 L (.int (3) :: r) hp) := xVe _ _ _ _ _ _
theorem s_Rule_letterOf_115 (v : Int32) (l : Launch) (d b lo gz n0 s0 : Nat) (Po : Option Value → xHp → Prop) (L : List Value) (hp : xHp) : (xV k_Rule_letterOf (l, d, b, lo, gz, n0, s0, m_Rule_letterOf, Po) 115 L [.int v] hp) = (Po (some (.int v)) hp) := xVe _ _ _ _ _ _
theorem s_Rule_letterOf_116  (C : xCx) (L r : List Value) (hp : xHp) : (xV k_Rule_letterOf C 116 L (r) hp) = (xV k_Rule_letterOf C 117 L (.int (4) :: r) hp) := xVe _ _ _ _ _ _
theorem s_Rule_letterOf_117 (v : Int32) (l : Launch) (d b lo gz n0 s0 : Nat) (Po : Option Value → xHp → Prop) (L : List Value) (hp : xHp) : (xV k_Rule_letterOf (l, d, b, lo, gz, n0, s0, m_Rule_letterOf, Po) 117 L [.int v] hp) = (Po (some (.int v)) hp) := xVe _ _ _ _ _ _
theorem s_Rule_letterOf_118  (C : xCx) (L r : List Value) (hp : xHp) : (xV k_Rule_letterOf C 118 L (r) hp) = (xV k_Rule_letterOf C 119 L (.int (5) :: r) hp) := xVe _ _ _ _ _ _
theorem s_Rule_letterOf_119 (v : Int32) (l : Launch) (d b lo gz n0 s0 : Nat) (Po : Option Value → xHp → Prop) (L : List Value) (hp : xHp) : (xV k_Rule_letterOf (l, d, b, lo, gz, n0, s0, m_Rule_letterOf, Po) 119 L [.int v] hp) = (Po (some (.int v)) hp) := xVe _ _ _ _ _ _
theorem s_Rule_letterOf_120  (C : xCx) (L r : List Value) (hp : xHp) : (xV k_Rule_letterOf C 120 L (r) hp) = (xV k_Rule_letterOf C 122 L (.int (6) :: r) hp) := xVe _ _ _ _ _ _
theorem s_Rule_letterOf_122 (v : Int32) (l : Launch) (d b lo gz n0 s0 : Nat) (Po : Option Value → xHp → Prop) (L : List Value) (hp : xHp) : (xV k_Rule_letterOf (l, d, b, lo, gz, n0, s0, m_Rule_letterOf, Po) 122 L [.int v] hp) = (Po (some (.int v)) hp) := xVe _ _ _ _ _ _
theorem s_Rule_letterOf_123  (C : xCx) (L r : List Value) (hp : xHp) : (xV k_Rule_letterOf C 123 L (r) hp) = (xV k_Rule_letterOf C 124 L (.int (-1) :: r) hp) := xVe _ _ _ _ _ _
theorem s_Rule_letterOf_124 (v : Int32) (l : Launch) (d b lo gz n0 s0 : Nat) (Po : Option Value → xHp → Prop) (L : List Value) (hp : xHp) : (xV k_Rule_letterOf (l, d, b, lo, gz, n0, s0, m_Rule_letterOf, Po) 124 L [.int v] hp) = (Po (some (.int v)) hp) := xVe _ _ _ _ _ _
theorem ml_Rule_29 : xLk "SunnyOnes$Rule" 29 m_So_at := Or.inr ⟨"SunnyOnes", List.mem_of_getElem? (i := 7) (by decide +kernel)⟩
theorem ml_Rule_33 : xLk "SunnyOnes$Rule" 33 m_So_put := Or.inr ⟨"SunnyOnes", List.mem_of_getElem? (i := 8) (by decide +kernel)⟩
def k_Rule_copyFrom : List xEC := [
  (0, .aload_n 0, 1, 0, 0, 0, m_x),
  (1, .aload_n 1, 2, 0, 0, 0, m_x),
  (2, .getfield 25, 5, 8, 3, 0, m_x),
  (5, .putfield 25, 8, 8, 3, 0, m_x),
  (8, .iconst 0, 9, 0, 0, 0, m_x),
  (9, .istore_n 2, 10, 0, 0, 0, m_x),
  (10, .iload_n 2, 11, 0, 0, 0, m_x),
  (11, .aload_n 0, 12, 0, 0, 0, m_x),
  (12, .getfield 25, 15, 8, 3, 0, m_x),
  (15, .if_icmp .ge 25, 18, 0, 40, 0, m_x),
  (18, .aload_n 0, 19, 0, 0, 0, m_x),
  (19, .getfield 11, 22, 8, 1, 0, m_x),
  (22, .iload_n 2, 23, 0, 0, 0, m_x),
  (23, .aload_n 1, 24, 0, 0, 0, m_x),
  (24, .getfield 11, 27, 8, 1, 0, m_x),
  (27, .iload_n 2, 28, 0, 0, 0, m_x),
  (28, .invokestatic 29, 31, 0, 0, 0, m_So_at),
  (31, .invokestatic 33, 34, 0, 0, 0, m_So_put),
  (34, .iinc 2 1, 37, 0, 0, 0, m_x),
  (37, .goto (-27), 40, 0, 10, 0, m_x),
  (40, .return_, 41, 0, 0, 0, m_x)]
theorem dc_Rule_copyFrom : ∀ E ∈ k_Rule_copyFrom, xDc m_Rule_copyFrom E := by decide +kernel
set_option maxRecDepth 20000 in
theorem ok_Rule_copyFrom : ∀ E ∈ k_Rule_copyFrom, xOk m_Rule_copyFrom E := xok_of dc_Rule_copyFrom (xfc trivial (xfc trivial (xfc fl_Rule_25 (xfc ⟨fl_Rule_25, fun q h f => by cases h; exact absurd f (by decide)⟩ (xfc trivial (xfc trivial (xfc trivial (xfc trivial (xfc fl_Rule_25 (xfc (show ((15 : Nat) : Int) + (25) = ((40 : Nat) : Int) from by decide) (xfc trivial (xfc fl_Rule_11 (xfc trivial (xfc trivial (xfc fl_Rule_11 (xfc trivial (xfc ⟨ml_Rule_29, kd_So_at⟩ (xfc ⟨ml_Rule_33, kd_So_put⟩ (xfc trivial (xfc (show ((37 : Nat) : Int) + (-27) = ((10 : Nat) : Int) from by decide) (xfc trivial (xfn))))))))))))))))))))))
theorem s_Rule_copyFrom_0 (C : xCx) (r : List Value) (hp : xHp) (x : Nat) (a1 a2 : Value) : (xV k_Rule_copyFrom C 0 [.ref x, a1, a2] r hp) = (True ∧ xV k_Rule_copyFrom C 1 [.ref x, a1, a2] (.ref x :: r) hp) := xVe _ _ _ _ _ _
theorem s_Rule_copyFrom_1 (C : xCx) (r : List Value) (hp : xHp) (x : Nat) (a0 a2 : Value) : (xV k_Rule_copyFrom C 1 [a0, .ref x, a2] r hp) = (True ∧ xV k_Rule_copyFrom C 2 [a0, .ref x, a2] (.ref x :: r) hp) := xVe _ _ _ _ _ _
theorem s_Rule_copyFrom_2 (a : Nat) (C : xCx) (L r : List Value) (hp : xHp) : (xV k_Rule_copyFrom C 2 L (.ref a :: r) hp) = (xF hp a 8 3 (fun v => xV k_Rule_copyFrom C 5 L (v :: r) hp)) := xVe _ _ _ _ _ _
theorem s_Rule_copyFrom_5 (x : Int32) (a : Nat) (C : xCx) (L r : List Value) (hp : xHp) : (xV k_Rule_copyFrom C 5 L (.int x :: .ref a :: r) hp) = (True ∧ xPf hp a 8 3 (.int x) (fun hp' => xV k_Rule_copyFrom C 8 L r hp')) := xVe _ _ _ _ _ _
theorem s_Rule_copyFrom_8  (C : xCx) (L r : List Value) (hp : xHp) : (xV k_Rule_copyFrom C 8 L (r) hp) = (xV k_Rule_copyFrom C 9 L (.int (0) :: r) hp) := xVe _ _ _ _ _ _
theorem s_Rule_copyFrom_9 (C : xCx) (r : List Value) (hp : xHp) (x : Int32) (a0 a1 a2 : Value) : (xV k_Rule_copyFrom C 9 [a0, a1, a2] (.int x :: r) hp) = (2 < 3 ∧ xNl [a0, a1, a2] 2 ∧ xV k_Rule_copyFrom C 10 [a0, a1, .int x] r hp) := xVe _ _ _ _ _ _
theorem s_Rule_copyFrom_10 (C : xCx) (r : List Value) (hp : xHp) (x : Int32) (a0 a1 : Value) : (xV k_Rule_copyFrom C 10 [a0, a1, .int x] r hp) = (xV k_Rule_copyFrom C 11 [a0, a1, .int x] (.int x :: r) hp) := xVe _ _ _ _ _ _
theorem s_Rule_copyFrom_11 (C : xCx) (r : List Value) (hp : xHp) (x : Nat) (a1 a2 : Value) : (xV k_Rule_copyFrom C 11 [.ref x, a1, a2] r hp) = (True ∧ xV k_Rule_copyFrom C 12 [.ref x, a1, a2] (.ref x :: r) hp) := xVe _ _ _ _ _ _
theorem s_Rule_copyFrom_12 (a : Nat) (C : xCx) (L r : List Value) (hp : xHp) : (xV k_Rule_copyFrom C 12 L (.ref a :: r) hp) = (xF hp a 8 3 (fun v => xV k_Rule_copyFrom C 15 L (v :: r) hp)) := xVe _ _ _ _ _ _
theorem s_Rule_copyFrom_15 (x y : Int32) (C : xCx) (L r : List Value) (hp : xHp) : (xV k_Rule_copyFrom C 15 L (.int y :: .int x :: r) hp) = (((y ≤ x → xV k_Rule_copyFrom C 40 L r hp) ∧ (¬ y ≤ x → xV k_Rule_copyFrom C 18 L r hp))) := xVe _ _ _ _ _ _
theorem s_Rule_copyFrom_18 (C : xCx) (r : List Value) (hp : xHp) (x : Nat) (a1 a2 : Value) : (xV k_Rule_copyFrom C 18 [.ref x, a1, a2] r hp) = (True ∧ xV k_Rule_copyFrom C 19 [.ref x, a1, a2] (.ref x :: r) hp) := xVe _ _ _ _ _ _
theorem s_Rule_copyFrom_19 (a : Nat) (C : xCx) (L r : List Value) (hp : xHp) : (xV k_Rule_copyFrom C 19 L (.ref a :: r) hp) = (xF hp a 8 1 (fun v => xV k_Rule_copyFrom C 22 L (v :: r) hp)) := xVe _ _ _ _ _ _
theorem s_Rule_copyFrom_22 (C : xCx) (r : List Value) (hp : xHp) (x : Int32) (a0 a1 : Value) : (xV k_Rule_copyFrom C 22 [a0, a1, .int x] r hp) = (xV k_Rule_copyFrom C 23 [a0, a1, .int x] (.int x :: r) hp) := xVe _ _ _ _ _ _
theorem s_Rule_copyFrom_23 (C : xCx) (r : List Value) (hp : xHp) (x : Nat) (a0 a2 : Value) : (xV k_Rule_copyFrom C 23 [a0, .ref x, a2] r hp) = (True ∧ xV k_Rule_copyFrom C 24 [a0, .ref x, a2] (.ref x :: r) hp) := xVe _ _ _ _ _ _
theorem s_Rule_copyFrom_24 (a : Nat) (C : xCx) (L r : List Value) (hp : xHp) : (xV k_Rule_copyFrom C 24 L (.ref a :: r) hp) = (xF hp a 8 1 (fun v => xV k_Rule_copyFrom C 27 L (v :: r) hp)) := xVe _ _ _ _ _ _
theorem s_Rule_copyFrom_27 (C : xCx) (r : List Value) (hp : xHp) (x : Int32) (a0 a1 : Value) : (xV k_Rule_copyFrom C 27 [a0, a1, .int x] r hp) = (xV k_Rule_copyFrom C 28 [a0, a1, .int x] (.int x :: r) hp) := xVe _ _ _ _ _ _
theorem s_Rule_copyFrom_28 (x0 : Nat) (x1 : Int32) (l : Launch) (d b lo gz n0 s0 : Nat) (Po : Option Value → xHp → Prop) (L r : List Value) (hp : xHp) : (xV k_Rule_copyFrom (l, d + 1, b, lo, gz, n0, s0, m_Rule_copyFrom, Po) 28 L (.int x1 :: .ref x0 :: r) hp) = (2 ≤ List.length (.int x1 :: .ref x0 :: r) ∧ xcs r 8 ∧ xMi l d b lo gz m_So_at [.ref x0, .int x1] hp (fun x hp' => xV k_Rule_copyFrom (l, d + 1, b, lo, gz, n0, s0, m_Rule_copyFrom, Po) 31 L (.int x :: r) hp')) := xVe _ _ _ _ _ _
theorem s_Rule_copyFrom_31 (x0 : Nat) (x1 : Int32) (x2 : Int32) (l : Launch) (d b lo gz n0 s0 : Nat) (Po : Option Value → xHp → Prop) (L r : List Value) (hp : xHp) : (xV k_Rule_copyFrom (l, d + 1, b, lo, gz, n0, s0, m_Rule_copyFrom, Po) 31 L (.int x2 :: .int x1 :: .ref x0 :: r) hp) = (3 ≤ List.length (.int x2 :: .int x1 :: .ref x0 :: r) ∧ xcs r 8 ∧ xMv l d b lo gz m_So_put [.ref x0, .int x1, .int x2] hp (fun hp' => xV k_Rule_copyFrom (l, d + 1, b, lo, gz, n0, s0, m_Rule_copyFrom, Po) 34 L r hp')) := xVe _ _ _ _ _ _
theorem s_Rule_copyFrom_34 (C : xCx) (r : List Value) (hp : xHp) (x : Int32) (a0 a1 : Value) : (xV k_Rule_copyFrom C 34 [a0, a1, .int x] r hp) = (xNl [a0, a1, .int x] 2 ∧ xV k_Rule_copyFrom C 37 [a0, a1, .int (x + (1))] r hp) := xVe _ _ _ _ _ _
theorem s_Rule_copyFrom_37 (C : xCx) (L r : List Value) (hp : xHp) : (xV k_Rule_copyFrom C 37 L r hp) = (xV k_Rule_copyFrom C 10 L r hp) := xVe _ _ _ _ _ _
theorem s_Rule_copyFrom_40 (l : Launch) (d b lo gz n0 s0 : Nat) (Po : Option Value → xHp → Prop) (L : List Value) (hp : xHp) : (xV k_Rule_copyFrom (l, d, b, lo, gz, n0, s0, m_Rule_copyFrom, Po) 40 L [] hp) = (Po (none) hp) := xVe _ _ _ _ _ _
theorem ml_Sun_40 : xLk "SunnyOnes$Sun" 40 m_Folk_day := Or.inl (wg3 43 (by decide +kernel) rfl)
theorem ml_Sun_59 : xLk "SunnyOnes$Sun" 59 m_Land_skyOn := Or.inl (wg3 47 (by decide +kernel) rfl)
theorem ml_Sun_66 : xLk "SunnyOnes$Sun" 66 m_Folk_size := Or.inl (wg3 51 (by decide +kernel) rfl)
theorem ml_Sun_52 : xLk "SunnyOnes$Sun" 52 m_Folk_spot := Or.inl (wg3 52 (by decide +kernel) rfl)
theorem ml_Sun_55 : xLk "SunnyOnes$Sun" 55 m_Folk_othersAt := Or.inl (wg3 56 (by decide +kernel) rfl)
theorem ml_Sun_62 : xLk "SunnyOnes$Sun" 62 m_Sun_hoursBy := Or.inl (wg3 60 (by decide +kernel) rfl)
theorem ml_Sun_73 : xLk "SunnyOnes$Sun" 73 m_Folk_grow := Or.inl (wg3 78 (by decide +kernel) rfl)
theorem ml_Sun_77 : xLk "SunnyOnes$Sun" 77 m_Folk_setDay := Or.inl (wg3 83 (by decide +kernel) rfl)
def k_Sun_dayBy : List xEC := [
  (0, .aload_n 0, 1, 0, 0, 0, m_x),
  (1, .getfield 17, 4, 9, 0, 0, m_x),
  (4, .aload_n 2, 5, 0, 0, 0, m_x),
  (5, .invokevirtual 40, 8, 3, 0, 0, m_Folk_day),
  (8, .invokevirtual 59, 11, 4, 0, 0, m_Land_skyOn),
  (11, .istore_n 3, 12, 0, 0, 0, m_x),
  (12, .iconst 0, 13, 0, 0, 0, m_x),
  (13, .istore 4, 15, 0, 0, 0, m_x),
  (15, .iconst 0, 16, 0, 0, 0, m_x),
  (16, .istore 5, 18, 0, 0, 0, m_x),
  (18, .iload 5, 20, 0, 0, 0, m_x),
  (20, .aload_n 2, 21, 0, 0, 0, m_x),
  (21, .invokevirtual 66, 24, 3, 0, 0, m_Folk_size),
  (24, .if_icmp .ge 53, 27, 0, 77, 0, m_x),
  (27, .aload_n 2, 28, 0, 0, 0, m_x),
  (28, .iload 5, 30, 0, 0, 0, m_x),
  (30, .invokevirtual 52, 33, 3, 0, 0, m_Folk_spot),
  (33, .istore 6, 35, 0, 0, 0, m_x),
  (35, .aload_n 0, 36, 0, 0, 0, m_x),
  (36, .aload_n 1, 37, 0, 0, 0, m_x),
  (37, .aload_n 2, 38, 0, 0, 0, m_x),
  (38, .iload 5, 40, 0, 0, 0, m_x),
  (40, .iload 6, 42, 0, 0, 0, m_x),
  (42, .aload_n 2, 43, 0, 0, 0, m_x),
  (43, .iload 6, 45, 0, 0, 0, m_x),
  (45, .iload 5, 47, 0, 0, 0, m_x),
  (47, .invokevirtual 55, 50, 3, 0, 0, m_Folk_othersAt),
  (50, .iload_n 3, 51, 0, 0, 0, m_x),
  (51, .invokevirtual 62, 54, 9, 0, 0, m_Sun_hoursBy),
  (54, .istore 7, 56, 0, 0, 0, m_x),
  (56, .aload_n 2, 57, 0, 0, 0, m_x),
  (57, .iload 5, 59, 0, 0, 0, m_x),
  (59, .iload 7, 61, 0, 0, 0, m_x),
  (61, .invokevirtual 73, 64, 3, 0, 0, m_Folk_grow),
  (64, .iload 4, 66, 0, 0, 0, m_x),
  (66, .iload 7, 68, 0, 0, 0, m_x),
  (68, .iadd, 69, 0, 0, 0, m_x),
  (69, .istore 4, 71, 0, 0, 0, m_x),
  (71, .iinc 5 1, 74, 0, 0, 0, m_x),
  (74, .goto (-56), 77, 0, 18, 0, m_x),
  (77, .aload_n 2, 78, 0, 0, 0, m_x),
  (78, .aload_n 2, 79, 0, 0, 0, m_x),
  (79, .invokevirtual 40, 82, 3, 0, 0, m_Folk_day),
  (82, .iconst 1, 83, 0, 0, 0, m_x),
  (83, .iadd, 84, 0, 0, 0, m_x),
  (84, .invokevirtual 77, 87, 3, 0, 0, m_Folk_setDay),
  (87, .iload 4, 89, 0, 0, 0, m_x),
  (89, .ireturn, 90, 0, 0, 0, m_x)]
theorem dc_Sun_dayBy : ∀ E ∈ k_Sun_dayBy, xDc m_Sun_dayBy E := by decide +kernel
set_option maxRecDepth 20000 in
theorem ok_Sun_dayBy : ∀ E ∈ k_Sun_dayBy, xOk m_Sun_dayBy E := xok_of dc_Sun_dayBy (xfc trivial (xfc fl_Sun_17 (xfc trivial (xfc ⟨ml_Sun_40, kd_Folk_day⟩ (xfc ⟨ml_Sun_59, kd_Land_skyOn⟩ (xfc trivial (xfc trivial (xfc trivial (xfc trivial (xfc trivial (xfc trivial (xfc trivial (xfc ⟨ml_Sun_66, kd_Folk_size⟩ (xfc (show ((24 : Nat) : Int) + (53) = ((77 : Nat) : Int) from by decide) (xfc trivial (xfc trivial (xfc ⟨ml_Sun_52, kd_Folk_spot⟩ (xfc trivial (xfc trivial (xfc trivial (xfc trivial (xfc trivial (xfc trivial (xfc trivial (xfc trivial (xfc trivial (xfc ⟨ml_Sun_55, kd_Folk_othersAt⟩ (xfc trivial (xfc ⟨ml_Sun_62, kd_Sun_hoursBy⟩ (xfc trivial (xfc trivial (xfc trivial (xfc trivial (xfc ⟨ml_Sun_73, kd_Folk_grow⟩ (xfc trivial (xfc trivial (xfc trivial (xfc trivial (xfc trivial (xfc (show ((74 : Nat) : Int) + (-56) = ((18 : Nat) : Int) from by decide) (xfc trivial (xfc trivial (xfc ⟨ml_Sun_40, kd_Folk_day⟩ (xfc trivial (xfc trivial (xfc ⟨ml_Sun_77, kd_Folk_setDay⟩ (xfc trivial (xfc trivial (xfn)))))))))))))))))))))))))))))))))))))))))))))))))
theorem s_Sun_dayBy_0 (C : xCx) (r : List Value) (hp : xHp) (x : Nat) (a1 a2 a3 a4 a5 a6 a7 : Value) : (xV k_Sun_dayBy C 0 [.ref x, a1, a2, a3, a4, a5, a6, a7] r hp) = (True ∧ xV k_Sun_dayBy C 1 [.ref x, a1, a2, a3, a4, a5, a6, a7] (.ref x :: r) hp) := xVe _ _ _ _ _ _
theorem s_Sun_dayBy_1 (a : Nat) (C : xCx) (L r : List Value) (hp : xHp) : (xV k_Sun_dayBy C 1 L (.ref a :: r) hp) = (xF hp a 9 0 (fun v => xV k_Sun_dayBy C 4 L (v :: r) hp)) := xVe _ _ _ _ _ _
theorem s_Sun_dayBy_4 (C : xCx) (r : List Value) (hp : xHp) (x : Nat) (a0 a1 a3 a4 a5 a6 a7 : Value) : (xV k_Sun_dayBy C 4 [a0, a1, .ref x, a3, a4, a5, a6, a7] r hp) = (True ∧ xV k_Sun_dayBy C 5 [a0, a1, .ref x, a3, a4, a5, a6, a7] (.ref x :: r) hp) := xVe _ _ _ _ _ _
theorem s_Sun_dayBy_5 (a : Nat) (l : Launch) (d b lo gz n0 s0 : Nat) (Po : Option Value → xHp → Prop) (L r : List Value) (hp : xHp) : (xV k_Sun_dayBy (l, d + 1, b, lo, gz, n0, s0, m_Sun_dayBy, Po) 5 L (.ref a :: r) hp) = (xO hp a 3 ∧ xcs r 8 ∧ xMi l d b lo gz m_Folk_day [.ref a] hp (fun x hp' => xV k_Sun_dayBy (l, d + 1, b, lo, gz, n0, s0, m_Sun_dayBy, Po) 8 L (.int x :: r) hp')) := xVe _ _ _ _ _ _
theorem s_Sun_dayBy_8 (x0 : Int32) (a : Nat) (l : Launch) (d b lo gz n0 s0 : Nat) (Po : Option Value → xHp → Prop) (L r : List Value) (hp : xHp) : (xV k_Sun_dayBy (l, d + 1, b, lo, gz, n0, s0, m_Sun_dayBy, Po) 8 L (.int x0 :: .ref a :: r) hp) = (xO hp a 4 ∧ xcs r 8 ∧ xMi l d b lo gz m_Land_skyOn [.ref a, .int x0] hp (fun x hp' => xV k_Sun_dayBy (l, d + 1, b, lo, gz, n0, s0, m_Sun_dayBy, Po) 11 L (.int x :: r) hp')) := xVe _ _ _ _ _ _
theorem s_Sun_dayBy_11 (C : xCx) (r : List Value) (hp : xHp) (x : Int32) (a0 a1 a2 a3 a4 a5 a6 a7 : Value) : (xV k_Sun_dayBy C 11 [a0, a1, a2, a3, a4, a5, a6, a7] (.int x :: r) hp) = (3 < 8 ∧ xNl [a0, a1, a2, a3, a4, a5, a6, a7] 3 ∧ xV k_Sun_dayBy C 12 [a0, a1, a2, .int x, a4, a5, a6, a7] r hp) := xVe _ _ _ _ _ _
theorem s_Sun_dayBy_12  (C : xCx) (L r : List Value) (hp : xHp) : (xV k_Sun_dayBy C 12 L (r) hp) = (xV k_Sun_dayBy C 13 L (.int (0) :: r) hp) := xVe _ _ _ _ _ _
theorem s_Sun_dayBy_13 (C : xCx) (r : List Value) (hp : xHp) (x : Int32) (a0 a1 a2 a3 a4 a5 a6 a7 : Value) : (xV k_Sun_dayBy C 13 [a0, a1, a2, a3, a4, a5, a6, a7] (.int x :: r) hp) = (4 < 8 ∧ xNl [a0, a1, a2, a3, a4, a5, a6, a7] 4 ∧ xV k_Sun_dayBy C 15 [a0, a1, a2, a3, .int x, a5, a6, a7] r hp) := xVe _ _ _ _ _ _
theorem s_Sun_dayBy_15  (C : xCx) (L r : List Value) (hp : xHp) : (xV k_Sun_dayBy C 15 L (r) hp) = (xV k_Sun_dayBy C 16 L (.int (0) :: r) hp) := xVe _ _ _ _ _ _
theorem s_Sun_dayBy_16 (C : xCx) (r : List Value) (hp : xHp) (x : Int32) (a0 a1 a2 a3 a4 a5 a6 a7 : Value) : (xV k_Sun_dayBy C 16 [a0, a1, a2, a3, a4, a5, a6, a7] (.int x :: r) hp) = (5 < 8 ∧ xNl [a0, a1, a2, a3, a4, a5, a6, a7] 5 ∧ xV k_Sun_dayBy C 18 [a0, a1, a2, a3, a4, .int x, a6, a7] r hp) := xVe _ _ _ _ _ _
theorem s_Sun_dayBy_18 (C : xCx) (r : List Value) (hp : xHp) (x : Int32) (a0 a1 a2 a3 a4 a6 a7 : Value) : (xV k_Sun_dayBy C 18 [a0, a1, a2, a3, a4, .int x, a6, a7] r hp) = (xV k_Sun_dayBy C 20 [a0, a1, a2, a3, a4, .int x, a6, a7] (.int x :: r) hp) := xVe _ _ _ _ _ _
theorem s_Sun_dayBy_20 (C : xCx) (r : List Value) (hp : xHp) (x : Nat) (a0 a1 a3 a4 a5 a6 a7 : Value) : (xV k_Sun_dayBy C 20 [a0, a1, .ref x, a3, a4, a5, a6, a7] r hp) = (True ∧ xV k_Sun_dayBy C 21 [a0, a1, .ref x, a3, a4, a5, a6, a7] (.ref x :: r) hp) := xVe _ _ _ _ _ _
theorem s_Sun_dayBy_21 (a : Nat) (l : Launch) (d b lo gz n0 s0 : Nat) (Po : Option Value → xHp → Prop) (L r : List Value) (hp : xHp) : (xV k_Sun_dayBy (l, d + 1, b, lo, gz, n0, s0, m_Sun_dayBy, Po) 21 L (.ref a :: r) hp) = (xO hp a 3 ∧ xcs r 8 ∧ xMi l d b lo gz m_Folk_size [.ref a] hp (fun x hp' => xV k_Sun_dayBy (l, d + 1, b, lo, gz, n0, s0, m_Sun_dayBy, Po) 24 L (.int x :: r) hp')) := xVe _ _ _ _ _ _
theorem s_Sun_dayBy_24 (x y : Int32) (C : xCx) (L r : List Value) (hp : xHp) : (xV k_Sun_dayBy C 24 L (.int y :: .int x :: r) hp) = (((y ≤ x → xV k_Sun_dayBy C 77 L r hp) ∧ (¬ y ≤ x → xV k_Sun_dayBy C 27 L r hp))) := xVe _ _ _ _ _ _
theorem s_Sun_dayBy_27 (C : xCx) (r : List Value) (hp : xHp) (x : Nat) (a0 a1 a3 a4 a5 a6 a7 : Value) : (xV k_Sun_dayBy C 27 [a0, a1, .ref x, a3, a4, a5, a6, a7] r hp) = (True ∧ xV k_Sun_dayBy C 28 [a0, a1, .ref x, a3, a4, a5, a6, a7] (.ref x :: r) hp) := xVe _ _ _ _ _ _
theorem s_Sun_dayBy_28 (C : xCx) (r : List Value) (hp : xHp) (x : Int32) (a0 a1 a2 a3 a4 a6 a7 : Value) : (xV k_Sun_dayBy C 28 [a0, a1, a2, a3, a4, .int x, a6, a7] r hp) = (xV k_Sun_dayBy C 30 [a0, a1, a2, a3, a4, .int x, a6, a7] (.int x :: r) hp) := xVe _ _ _ _ _ _
theorem s_Sun_dayBy_30 (x0 : Int32) (a : Nat) (l : Launch) (d b lo gz n0 s0 : Nat) (Po : Option Value → xHp → Prop) (L r : List Value) (hp : xHp) : (xV k_Sun_dayBy (l, d + 1, b, lo, gz, n0, s0, m_Sun_dayBy, Po) 30 L (.int x0 :: .ref a :: r) hp) = (xO hp a 3 ∧ xcs r 8 ∧ xMi l d b lo gz m_Folk_spot [.ref a, .int x0] hp (fun x hp' => xV k_Sun_dayBy (l, d + 1, b, lo, gz, n0, s0, m_Sun_dayBy, Po) 33 L (.int x :: r) hp')) := xVe _ _ _ _ _ _
theorem s_Sun_dayBy_33 (C : xCx) (r : List Value) (hp : xHp) (x : Int32) (a0 a1 a2 a3 a4 a5 a6 a7 : Value) : (xV k_Sun_dayBy C 33 [a0, a1, a2, a3, a4, a5, a6, a7] (.int x :: r) hp) = (6 < 8 ∧ xNl [a0, a1, a2, a3, a4, a5, a6, a7] 6 ∧ xV k_Sun_dayBy C 35 [a0, a1, a2, a3, a4, a5, .int x, a7] r hp) := xVe _ _ _ _ _ _
theorem s_Sun_dayBy_35 (C : xCx) (r : List Value) (hp : xHp) (x : Nat) (a1 a2 a3 a4 a5 a6 a7 : Value) : (xV k_Sun_dayBy C 35 [.ref x, a1, a2, a3, a4, a5, a6, a7] r hp) = (True ∧ xV k_Sun_dayBy C 36 [.ref x, a1, a2, a3, a4, a5, a6, a7] (.ref x :: r) hp) := xVe _ _ _ _ _ _
theorem s_Sun_dayBy_36 (C : xCx) (r : List Value) (hp : xHp) (x : Nat) (a0 a2 a3 a4 a5 a6 a7 : Value) : (xV k_Sun_dayBy C 36 [a0, .ref x, a2, a3, a4, a5, a6, a7] r hp) = (True ∧ xV k_Sun_dayBy C 37 [a0, .ref x, a2, a3, a4, a5, a6, a7] (.ref x :: r) hp) := xVe _ _ _ _ _ _
theorem s_Sun_dayBy_37 (C : xCx) (r : List Value) (hp : xHp) (x : Nat) (a0 a1 a3 a4 a5 a6 a7 : Value) : (xV k_Sun_dayBy C 37 [a0, a1, .ref x, a3, a4, a5, a6, a7] r hp) = (True ∧ xV k_Sun_dayBy C 38 [a0, a1, .ref x, a3, a4, a5, a6, a7] (.ref x :: r) hp) := xVe _ _ _ _ _ _
theorem s_Sun_dayBy_38 (C : xCx) (r : List Value) (hp : xHp) (x : Int32) (a0 a1 a2 a3 a4 a6 a7 : Value) : (xV k_Sun_dayBy C 38 [a0, a1, a2, a3, a4, .int x, a6, a7] r hp) = (xV k_Sun_dayBy C 40 [a0, a1, a2, a3, a4, .int x, a6, a7] (.int x :: r) hp) := xVe _ _ _ _ _ _
theorem s_Sun_dayBy_40 (C : xCx) (r : List Value) (hp : xHp) (x : Int32) (a0 a1 a2 a3 a4 a5 a7 : Value) : (xV k_Sun_dayBy C 40 [a0, a1, a2, a3, a4, a5, .int x, a7] r hp) = (xV k_Sun_dayBy C 42 [a0, a1, a2, a3, a4, a5, .int x, a7] (.int x :: r) hp) := xVe _ _ _ _ _ _
theorem s_Sun_dayBy_42 (C : xCx) (r : List Value) (hp : xHp) (x : Nat) (a0 a1 a3 a4 a5 a6 a7 : Value) : (xV k_Sun_dayBy C 42 [a0, a1, .ref x, a3, a4, a5, a6, a7] r hp) = (True ∧ xV k_Sun_dayBy C 43 [a0, a1, .ref x, a3, a4, a5, a6, a7] (.ref x :: r) hp) := xVe _ _ _ _ _ _
theorem s_Sun_dayBy_43 (C : xCx) (r : List Value) (hp : xHp) (x : Int32) (a0 a1 a2 a3 a4 a5 a7 : Value) : (xV k_Sun_dayBy C 43 [a0, a1, a2, a3, a4, a5, .int x, a7] r hp) = (xV k_Sun_dayBy C 45 [a0, a1, a2, a3, a4, a5, .int x, a7] (.int x :: r) hp) := xVe _ _ _ _ _ _
theorem s_Sun_dayBy_45 (C : xCx) (r : List Value) (hp : xHp) (x : Int32) (a0 a1 a2 a3 a4 a6 a7 : Value) : (xV k_Sun_dayBy C 45 [a0, a1, a2, a3, a4, .int x, a6, a7] r hp) = (xV k_Sun_dayBy C 47 [a0, a1, a2, a3, a4, .int x, a6, a7] (.int x :: r) hp) := xVe _ _ _ _ _ _
theorem s_Sun_dayBy_47 (x0 : Int32) (x1 : Int32) (a : Nat) (l : Launch) (d b lo gz n0 s0 : Nat) (Po : Option Value → xHp → Prop) (L r : List Value) (hp : xHp) : (xV k_Sun_dayBy (l, d + 1, b, lo, gz, n0, s0, m_Sun_dayBy, Po) 47 L (.int x1 :: .int x0 :: .ref a :: r) hp) = (xO hp a 3 ∧ xcs r 8 ∧ xMi l d b lo gz m_Folk_othersAt [.ref a, .int x0, .int x1] hp (fun x hp' => xV k_Sun_dayBy (l, d + 1, b, lo, gz, n0, s0, m_Sun_dayBy, Po) 50 L (.int x :: r) hp')) := xVe _ _ _ _ _ _
theorem s_Sun_dayBy_50 (C : xCx) (r : List Value) (hp : xHp) (x : Int32) (a0 a1 a2 a4 a5 a6 a7 : Value) : (xV k_Sun_dayBy C 50 [a0, a1, a2, .int x, a4, a5, a6, a7] r hp) = (xV k_Sun_dayBy C 51 [a0, a1, a2, .int x, a4, a5, a6, a7] (.int x :: r) hp) := xVe _ _ _ _ _ _
theorem s_Sun_dayBy_51 (x0 : Nat) (x1 : Nat) (x2 : Int32) (x3 : Int32) (x4 : Int32) (x5 : Int32) (a : Nat) (l : Launch) (d b lo gz n0 s0 : Nat) (Po : Option Value → xHp → Prop) (L r : List Value) (hp : xHp) : (xV k_Sun_dayBy (l, d + 1, b, lo, gz, n0, s0, m_Sun_dayBy, Po) 51 L (.int x5 :: .int x4 :: .int x3 :: .int x2 :: .ref x1 :: .ref x0 :: .ref a :: r) hp) = (xO hp a 9 ∧ xcs r 8 ∧ xMi l d b lo gz m_Sun_hoursBy [.ref a, .ref x0, .ref x1, .int x2, .int x3, .int x4, .int x5] hp (fun x hp' => xV k_Sun_dayBy (l, d + 1, b, lo, gz, n0, s0, m_Sun_dayBy, Po) 54 L (.int x :: r) hp')) := xVe _ _ _ _ _ _
theorem s_Sun_dayBy_54 (C : xCx) (r : List Value) (hp : xHp) (x : Int32) (a0 a1 a2 a3 a4 a5 a6 a7 : Value) : (xV k_Sun_dayBy C 54 [a0, a1, a2, a3, a4, a5, a6, a7] (.int x :: r) hp) = (7 < 8 ∧ xNl [a0, a1, a2, a3, a4, a5, a6, a7] 7 ∧ xV k_Sun_dayBy C 56 [a0, a1, a2, a3, a4, a5, a6, .int x] r hp) := xVe _ _ _ _ _ _
theorem s_Sun_dayBy_56 (C : xCx) (r : List Value) (hp : xHp) (x : Nat) (a0 a1 a3 a4 a5 a6 a7 : Value) : (xV k_Sun_dayBy C 56 [a0, a1, .ref x, a3, a4, a5, a6, a7] r hp) = (True ∧ xV k_Sun_dayBy C 57 [a0, a1, .ref x, a3, a4, a5, a6, a7] (.ref x :: r) hp) := xVe _ _ _ _ _ _
theorem s_Sun_dayBy_57 (C : xCx) (r : List Value) (hp : xHp) (x : Int32) (a0 a1 a2 a3 a4 a6 a7 : Value) : (xV k_Sun_dayBy C 57 [a0, a1, a2, a3, a4, .int x, a6, a7] r hp) = (xV k_Sun_dayBy C 59 [a0, a1, a2, a3, a4, .int x, a6, a7] (.int x :: r) hp) := xVe _ _ _ _ _ _
theorem s_Sun_dayBy_59 (C : xCx) (r : List Value) (hp : xHp) (x : Int32) (a0 a1 a2 a3 a4 a5 a6 : Value) : (xV k_Sun_dayBy C 59 [a0, a1, a2, a3, a4, a5, a6, .int x] r hp) = (xV k_Sun_dayBy C 61 [a0, a1, a2, a3, a4, a5, a6, .int x] (.int x :: r) hp) := xVe _ _ _ _ _ _
theorem s_Sun_dayBy_61 (x0 : Int32) (x1 : Int32) (a : Nat) (l : Launch) (d b lo gz n0 s0 : Nat) (Po : Option Value → xHp → Prop) (L r : List Value) (hp : xHp) : (xV k_Sun_dayBy (l, d + 1, b, lo, gz, n0, s0, m_Sun_dayBy, Po) 61 L (.int x1 :: .int x0 :: .ref a :: r) hp) = (xO hp a 3 ∧ xcs r 8 ∧ xMv l d b lo gz m_Folk_grow [.ref a, .int x0, .int x1] hp (fun hp' => xV k_Sun_dayBy (l, d + 1, b, lo, gz, n0, s0, m_Sun_dayBy, Po) 64 L r hp')) := xVe _ _ _ _ _ _
theorem s_Sun_dayBy_64 (C : xCx) (r : List Value) (hp : xHp) (x : Int32) (a0 a1 a2 a3 a5 a6 a7 : Value) : (xV k_Sun_dayBy C 64 [a0, a1, a2, a3, .int x, a5, a6, a7] r hp) = (xV k_Sun_dayBy C 66 [a0, a1, a2, a3, .int x, a5, a6, a7] (.int x :: r) hp) := xVe _ _ _ _ _ _
theorem s_Sun_dayBy_66 (C : xCx) (r : List Value) (hp : xHp) (x : Int32) (a0 a1 a2 a3 a4 a5 a6 : Value) : (xV k_Sun_dayBy C 66 [a0, a1, a2, a3, a4, a5, a6, .int x] r hp) = (xV k_Sun_dayBy C 68 [a0, a1, a2, a3, a4, a5, a6, .int x] (.int x :: r) hp) := xVe _ _ _ _ _ _
theorem s_Sun_dayBy_68 (x y : Int32) (C : xCx) (L r : List Value) (hp : xHp) : (xV k_Sun_dayBy C 68 L (.int y :: .int x :: r) hp) = (xV k_Sun_dayBy C 69 L (.int (x + y) :: r) hp) := xVe _ _ _ _ _ _
theorem s_Sun_dayBy_69 (C : xCx) (r : List Value) (hp : xHp) (x : Int32) (a0 a1 a2 a3 a4 a5 a6 a7 : Value) : (xV k_Sun_dayBy C 69 [a0, a1, a2, a3, a4, a5, a6, a7] (.int x :: r) hp) = (4 < 8 ∧ xNl [a0, a1, a2, a3, a4, a5, a6, a7] 4 ∧ xV k_Sun_dayBy C 71 [a0, a1, a2, a3, .int x, a5, a6, a7] r hp) := xVe _ _ _ _ _ _
theorem s_Sun_dayBy_71 (C : xCx) (r : List Value) (hp : xHp) (x : Int32) (a0 a1 a2 a3 a4 a6 a7 : Value) : (xV k_Sun_dayBy C 71 [a0, a1, a2, a3, a4, .int x, a6, a7] r hp) = (xNl [a0, a1, a2, a3, a4, .int x, a6, a7] 5 ∧ xV k_Sun_dayBy C 74 [a0, a1, a2, a3, a4, .int (x + (1)), a6, a7] r hp) := xVe _ _ _ _ _ _
theorem s_Sun_dayBy_74 (C : xCx) (L r : List Value) (hp : xHp) : (xV k_Sun_dayBy C 74 L r hp) = (xV k_Sun_dayBy C 18 L r hp) := xVe _ _ _ _ _ _
theorem s_Sun_dayBy_77 (C : xCx) (r : List Value) (hp : xHp) (x : Nat) (a0 a1 a3 a4 a5 a6 a7 : Value) : (xV k_Sun_dayBy C 77 [a0, a1, .ref x, a3, a4, a5, a6, a7] r hp) = (True ∧ xV k_Sun_dayBy C 78 [a0, a1, .ref x, a3, a4, a5, a6, a7] (.ref x :: r) hp) := xVe _ _ _ _ _ _
theorem s_Sun_dayBy_78 (C : xCx) (r : List Value) (hp : xHp) (x : Nat) (a0 a1 a3 a4 a5 a6 a7 : Value) : (xV k_Sun_dayBy C 78 [a0, a1, .ref x, a3, a4, a5, a6, a7] r hp) = (True ∧ xV k_Sun_dayBy C 79 [a0, a1, .ref x, a3, a4, a5, a6, a7] (.ref x :: r) hp) := xVe _ _ _ _ _ _
theorem s_Sun_dayBy_79 (a : Nat) (l : Launch) (d b lo gz n0 s0 : Nat) (Po : Option Value → xHp → Prop) (L r : List Value) (hp : xHp) : (xV k_Sun_dayBy (l, d + 1, b, lo, gz, n0, s0, m_Sun_dayBy, Po) 79 L (.ref a :: r) hp) = (xO hp a 3 ∧ xcs r 8 ∧ xMi l d b lo gz m_Folk_day [.ref a] hp (fun x hp' => xV k_Sun_dayBy (l, d + 1, b, lo, gz, n0, s0, m_Sun_dayBy, Po) 82 L (.int x :: r) hp')) := xVe _ _ _ _ _ _
theorem s_Sun_dayBy_82  (C : xCx) (L r : List Value) (hp : xHp) : (xV k_Sun_dayBy C 82 L (r) hp) = (xV k_Sun_dayBy C 83 L (.int (1) :: r) hp) := xVe _ _ _ _ _ _
theorem s_Sun_dayBy_83 (x y : Int32) (C : xCx) (L r : List Value) (hp : xHp) : (xV k_Sun_dayBy C 83 L (.int y :: .int x :: r) hp) = (xV k_Sun_dayBy C 84 L (.int (x + y) :: r) hp) := xVe _ _ _ _ _ _
theorem s_Sun_dayBy_84 (x0 : Int32) (a : Nat) (l : Launch) (d b lo gz n0 s0 : Nat) (Po : Option Value → xHp → Prop) (L r : List Value) (hp : xHp) : (xV k_Sun_dayBy (l, d + 1, b, lo, gz, n0, s0, m_Sun_dayBy, Po) 84 L (.int x0 :: .ref a :: r) hp) = (xO hp a 3 ∧ xcs r 8 ∧ xMv l d b lo gz m_Folk_setDay [.ref a, .int x0] hp (fun hp' => xV k_Sun_dayBy (l, d + 1, b, lo, gz, n0, s0, m_Sun_dayBy, Po) 87 L r hp')) := xVe _ _ _ _ _ _
theorem s_Sun_dayBy_87 (C : xCx) (r : List Value) (hp : xHp) (x : Int32) (a0 a1 a2 a3 a5 a6 a7 : Value) : (xV k_Sun_dayBy C 87 [a0, a1, a2, a3, .int x, a5, a6, a7] r hp) = (xV k_Sun_dayBy C 89 [a0, a1, a2, a3, .int x, a5, a6, a7] (.int x :: r) hp) := xVe _ _ _ _ _ _
theorem s_Sun_dayBy_89 (v : Int32) (l : Launch) (d b lo gz n0 s0 : Nat) (Po : Option Value → xHp → Prop) (L : List Value) (hp : xHp) : (xV k_Sun_dayBy (l, d, b, lo, gz, n0, s0, m_Sun_dayBy, Po) 89 L [.int v] hp) = (Po (some (.int v)) hp) := xVe _ _ _ _ _ _
theorem ml_Sun_25 : xLk "SunnyOnes$Sun" 25 m_Land_light := Or.inl (wg3 64 (by decide +kernel) rfl)
theorem ml_Sun_31 : xLk "SunnyOnes$Sun" 31 m_So_put := Or.inr ⟨"SunnyOnes", List.mem_of_getElem? (i := 12) (by decide +kernel)⟩
theorem ml_Sun_35 : xLk "SunnyOnes$Sun" 35 m_Folk_age := Or.inl (wg3 66 (by decide +kernel) rfl)
theorem ml_Sun_44 : xLk "SunnyOnes$Sun" 44 m_Rule_value := Or.inl (wg3 70 (by decide +kernel) rfl)
theorem ml_Sun_48 : xLk "SunnyOnes$Sun" 48 m_So_within := Or.inr ⟨"SunnyOnes", List.mem_of_getElem? (i := 13) (by decide +kernel)⟩
def k_Sun_hoursBy : List xEC := [
  (0, .aload_n 0, 1, 0, 0, 0, m_x),
  (1, .getfield 11, 4, 9, 2, 0, m_x),
  (4, .iconst 0, 5, 0, 0, 0, m_x),
  (5, .aload_n 0, 6, 0, 0, 0, m_x),
  (6, .getfield 17, 9, 9, 0, 0, m_x),
  (9, .iload 4, 11, 0, 0, 0, m_x),
  (11, .invokevirtual 25, 14, 4, 0, 0, m_Land_light),
  (14, .invokestatic 31, 17, 0, 0, 0, m_So_put),
  (17, .aload_n 0, 18, 0, 0, 0, m_x),
  (18, .getfield 11, 21, 9, 2, 0, m_x),
  (21, .iconst 1, 22, 0, 0, 0, m_x),
  (22, .iload 6, 24, 0, 0, 0, m_x),
  (24, .invokestatic 31, 27, 0, 0, 0, m_So_put),
  (27, .aload_n 0, 28, 0, 0, 0, m_x),
  (28, .getfield 11, 31, 9, 2, 0, m_x),
  (31, .iconst 2, 32, 0, 0, 0, m_x),
  (32, .aload_n 2, 33, 0, 0, 0, m_x),
  (33, .iload_n 3, 34, 0, 0, 0, m_x),
  (34, .invokevirtual 35, 37, 3, 0, 0, m_Folk_age),
  (37, .bipush 10, 39, 0, 0, 0, m_x),
  (39, .irem, 40, 0, 0, 0, m_x),
  (40, .invokestatic 31, 43, 0, 0, 0, m_So_put),
  (43, .aload_n 0, 44, 0, 0, 0, m_x),
  (44, .getfield 11, 47, 9, 2, 0, m_x),
  (47, .iconst 3, 48, 0, 0, 0, m_x),
  (48, .iload 5, 50, 0, 0, 0, m_x),
  (50, .invokestatic 31, 53, 0, 0, 0, m_So_put),
  (53, .aload_n 0, 54, 0, 0, 0, m_x),
  (54, .getfield 11, 57, 9, 2, 0, m_x),
  (57, .iconst 4, 58, 0, 0, 0, m_x),
  (58, .iload 4, 60, 0, 0, 0, m_x),
  (60, .invokestatic 31, 63, 0, 0, 0, m_So_put),
  (63, .aload_n 0, 64, 0, 0, 0, m_x),
  (64, .getfield 11, 67, 9, 2, 0, m_x),
  (67, .iconst 5, 68, 0, 0, 0, m_x),
  (68, .iload_n 3, 69, 0, 0, 0, m_x),
  (69, .invokestatic 31, 72, 0, 0, 0, m_So_put),
  (72, .aload_n 0, 73, 0, 0, 0, m_x),
  (73, .getfield 11, 76, 9, 2, 0, m_x),
  (76, .bipush 6, 78, 0, 0, 0, m_x),
  (78, .aload_n 2, 79, 0, 0, 0, m_x),
  (79, .invokevirtual 40, 82, 3, 0, 0, m_Folk_day),
  (82, .bipush 7, 84, 0, 0, 0, m_x),
  (84, .irem, 85, 0, 0, 0, m_x),
  (85, .invokestatic 31, 88, 0, 0, 0, m_So_put),
  (88, .aload_n 1, 89, 0, 0, 0, m_x),
  (89, .aload_n 0, 90, 0, 0, 0, m_x),
  (90, .getfield 11, 93, 9, 2, 0, m_x),
  (93, .invokevirtual 44, 96, 8, 0, 0, m_Rule_value),
  (96, .iconst 0, 97, 0, 0, 0, m_x),
  (97, .bipush 9, 99, 0, 0, 0, m_x),
  (99, .invokestatic 48, 102, 0, 0, 0, m_So_within),
  (102, .ireturn, 103, 0, 0, 0, m_x)]
theorem dc_Sun_hoursBy : ∀ E ∈ k_Sun_hoursBy, xDc m_Sun_hoursBy E := by decide +kernel
set_option maxRecDepth 20000 in
theorem ok_Sun_hoursBy : ∀ E ∈ k_Sun_hoursBy, xOk m_Sun_hoursBy E := xok_of dc_Sun_hoursBy (xfc trivial (xfc fl_Sun_11 (xfc trivial (xfc trivial (xfc fl_Sun_17 (xfc trivial (xfc ⟨ml_Sun_25, kd_Land_light⟩ (xfc ⟨ml_Sun_31, kd_So_put⟩ (xfc trivial (xfc fl_Sun_11 (xfc trivial (xfc trivial (xfc ⟨ml_Sun_31, kd_So_put⟩ (xfc trivial (xfc fl_Sun_11 (xfc trivial (xfc trivial (xfc trivial (xfc ⟨ml_Sun_35, kd_Folk_age⟩ (xfc trivial (xfc trivial (xfc ⟨ml_Sun_31, kd_So_put⟩ (xfc trivial (xfc fl_Sun_11 (xfc trivial (xfc trivial (xfc ⟨ml_Sun_31, kd_So_put⟩ (xfc trivial (xfc fl_Sun_11 (xfc trivial (xfc trivial (xfc ⟨ml_Sun_31, kd_So_put⟩ (xfc trivial (xfc fl_Sun_11 (xfc trivial (xfc trivial (xfc ⟨ml_Sun_31, kd_So_put⟩ (xfc trivial (xfc fl_Sun_11 (xfc trivial (xfc trivial (xfc ⟨ml_Sun_40, kd_Folk_day⟩ (xfc trivial (xfc trivial (xfc ⟨ml_Sun_31, kd_So_put⟩ (xfc trivial (xfc trivial (xfc fl_Sun_11 (xfc ⟨ml_Sun_44, kd_Rule_value⟩ (xfc trivial (xfc trivial (xfc ⟨ml_Sun_48, kd_So_within⟩ (xfc trivial (xfn))))))))))))))))))))))))))))))))))))))))))))))))))))))
theorem s_Sun_hoursBy_0 (C : xCx) (r : List Value) (hp : xHp) (x : Nat) (a1 a2 a3 a4 a5 a6 : Value) : (xV k_Sun_hoursBy C 0 [.ref x, a1, a2, a3, a4, a5, a6] r hp) = (True ∧ xV k_Sun_hoursBy C 1 [.ref x, a1, a2, a3, a4, a5, a6] (.ref x :: r) hp) := xVe _ _ _ _ _ _
theorem s_Sun_hoursBy_1 (a : Nat) (C : xCx) (L r : List Value) (hp : xHp) : (xV k_Sun_hoursBy C 1 L (.ref a :: r) hp) = (xF hp a 9 2 (fun v => xV k_Sun_hoursBy C 4 L (v :: r) hp)) := xVe _ _ _ _ _ _
theorem s_Sun_hoursBy_4  (C : xCx) (L r : List Value) (hp : xHp) : (xV k_Sun_hoursBy C 4 L (r) hp) = (xV k_Sun_hoursBy C 5 L (.int (0) :: r) hp) := xVe _ _ _ _ _ _
theorem s_Sun_hoursBy_5 (C : xCx) (r : List Value) (hp : xHp) (x : Nat) (a1 a2 a3 a4 a5 a6 : Value) : (xV k_Sun_hoursBy C 5 [.ref x, a1, a2, a3, a4, a5, a6] r hp) = (True ∧ xV k_Sun_hoursBy C 6 [.ref x, a1, a2, a3, a4, a5, a6] (.ref x :: r) hp) := xVe _ _ _ _ _ _
theorem s_Sun_hoursBy_6 (a : Nat) (C : xCx) (L r : List Value) (hp : xHp) : (xV k_Sun_hoursBy C 6 L (.ref a :: r) hp) = (xF hp a 9 0 (fun v => xV k_Sun_hoursBy C 9 L (v :: r) hp)) := xVe _ _ _ _ _ _
theorem s_Sun_hoursBy_9 (C : xCx) (r : List Value) (hp : xHp) (x : Int32) (a0 a1 a2 a3 a5 a6 : Value) : (xV k_Sun_hoursBy C 9 [a0, a1, a2, a3, .int x, a5, a6] r hp) = (xV k_Sun_hoursBy C 11 [a0, a1, a2, a3, .int x, a5, a6] (.int x :: r) hp) := xVe _ _ _ _ _ _
theorem s_Sun_hoursBy_11 (x0 : Int32) (a : Nat) (l : Launch) (d b lo gz n0 s0 : Nat) (Po : Option Value → xHp → Prop) (L r : List Value) (hp : xHp) : (xV k_Sun_hoursBy (l, d + 1, b, lo, gz, n0, s0, m_Sun_hoursBy, Po) 11 L (.int x0 :: .ref a :: r) hp) = (xO hp a 4 ∧ xcs r 8 ∧ xMi l d b lo gz m_Land_light [.ref a, .int x0] hp (fun x hp' => xV k_Sun_hoursBy (l, d + 1, b, lo, gz, n0, s0, m_Sun_hoursBy, Po) 14 L (.int x :: r) hp')) := xVe _ _ _ _ _ _
theorem s_Sun_hoursBy_14 (x0 : Nat) (x1 : Int32) (x2 : Int32) (l : Launch) (d b lo gz n0 s0 : Nat) (Po : Option Value → xHp → Prop) (L r : List Value) (hp : xHp) : (xV k_Sun_hoursBy (l, d + 1, b, lo, gz, n0, s0, m_Sun_hoursBy, Po) 14 L (.int x2 :: .int x1 :: .ref x0 :: r) hp) = (3 ≤ List.length (.int x2 :: .int x1 :: .ref x0 :: r) ∧ xcs r 8 ∧ xMv l d b lo gz m_So_put [.ref x0, .int x1, .int x2] hp (fun hp' => xV k_Sun_hoursBy (l, d + 1, b, lo, gz, n0, s0, m_Sun_hoursBy, Po) 17 L r hp')) := xVe _ _ _ _ _ _
theorem s_Sun_hoursBy_17 (C : xCx) (r : List Value) (hp : xHp) (x : Nat) (a1 a2 a3 a4 a5 a6 : Value) : (xV k_Sun_hoursBy C 17 [.ref x, a1, a2, a3, a4, a5, a6] r hp) = (True ∧ xV k_Sun_hoursBy C 18 [.ref x, a1, a2, a3, a4, a5, a6] (.ref x :: r) hp) := xVe _ _ _ _ _ _
theorem s_Sun_hoursBy_18 (a : Nat) (C : xCx) (L r : List Value) (hp : xHp) : (xV k_Sun_hoursBy C 18 L (.ref a :: r) hp) = (xF hp a 9 2 (fun v => xV k_Sun_hoursBy C 21 L (v :: r) hp)) := xVe _ _ _ _ _ _
theorem s_Sun_hoursBy_21  (C : xCx) (L r : List Value) (hp : xHp) : (xV k_Sun_hoursBy C 21 L (r) hp) = (xV k_Sun_hoursBy C 22 L (.int (1) :: r) hp) := xVe _ _ _ _ _ _
theorem s_Sun_hoursBy_22 (C : xCx) (r : List Value) (hp : xHp) (x : Int32) (a0 a1 a2 a3 a4 a5 : Value) : (xV k_Sun_hoursBy C 22 [a0, a1, a2, a3, a4, a5, .int x] r hp) = (xV k_Sun_hoursBy C 24 [a0, a1, a2, a3, a4, a5, .int x] (.int x :: r) hp) := xVe _ _ _ _ _ _
theorem s_Sun_hoursBy_24 (x0 : Nat) (x1 : Int32) (x2 : Int32) (l : Launch) (d b lo gz n0 s0 : Nat) (Po : Option Value → xHp → Prop) (L r : List Value) (hp : xHp) : (xV k_Sun_hoursBy (l, d + 1, b, lo, gz, n0, s0, m_Sun_hoursBy, Po) 24 L (.int x2 :: .int x1 :: .ref x0 :: r) hp) = (3 ≤ List.length (.int x2 :: .int x1 :: .ref x0 :: r) ∧ xcs r 8 ∧ xMv l d b lo gz m_So_put [.ref x0, .int x1, .int x2] hp (fun hp' => xV k_Sun_hoursBy (l, d + 1, b, lo, gz, n0, s0, m_Sun_hoursBy, Po) 27 L r hp')) := xVe _ _ _ _ _ _
theorem s_Sun_hoursBy_27 (C : xCx) (r : List Value) (hp : xHp) (x : Nat) (a1 a2 a3 a4 a5 a6 : Value) : (xV k_Sun_hoursBy C 27 [.ref x, a1, a2, a3, a4, a5, a6] r hp) = (True ∧ xV k_Sun_hoursBy C 28 [.ref x, a1, a2, a3, a4, a5, a6] (.ref x :: r) hp) := xVe _ _ _ _ _ _
theorem s_Sun_hoursBy_28 (a : Nat) (C : xCx) (L r : List Value) (hp : xHp) : (xV k_Sun_hoursBy C 28 L (.ref a :: r) hp) = (xF hp a 9 2 (fun v => xV k_Sun_hoursBy C 31 L (v :: r) hp)) := xVe _ _ _ _ _ _
theorem s_Sun_hoursBy_31  (C : xCx) (L r : List Value) (hp : xHp) : (xV k_Sun_hoursBy C 31 L (r) hp) = (xV k_Sun_hoursBy C 32 L (.int (2) :: r) hp) := xVe _ _ _ _ _ _
theorem s_Sun_hoursBy_32 (C : xCx) (r : List Value) (hp : xHp) (x : Nat) (a0 a1 a3 a4 a5 a6 : Value) : (xV k_Sun_hoursBy C 32 [a0, a1, .ref x, a3, a4, a5, a6] r hp) = (True ∧ xV k_Sun_hoursBy C 33 [a0, a1, .ref x, a3, a4, a5, a6] (.ref x :: r) hp) := xVe _ _ _ _ _ _
theorem s_Sun_hoursBy_33 (C : xCx) (r : List Value) (hp : xHp) (x : Int32) (a0 a1 a2 a4 a5 a6 : Value) : (xV k_Sun_hoursBy C 33 [a0, a1, a2, .int x, a4, a5, a6] r hp) = (xV k_Sun_hoursBy C 34 [a0, a1, a2, .int x, a4, a5, a6] (.int x :: r) hp) := xVe _ _ _ _ _ _
theorem s_Sun_hoursBy_34 (x0 : Int32) (a : Nat) (l : Launch) (d b lo gz n0 s0 : Nat) (Po : Option Value → xHp → Prop) (L r : List Value) (hp : xHp) : (xV k_Sun_hoursBy (l, d + 1, b, lo, gz, n0, s0, m_Sun_hoursBy, Po) 34 L (.int x0 :: .ref a :: r) hp) = (xO hp a 3 ∧ xcs r 8 ∧ xMi l d b lo gz m_Folk_age [.ref a, .int x0] hp (fun x hp' => xV k_Sun_hoursBy (l, d + 1, b, lo, gz, n0, s0, m_Sun_hoursBy, Po) 37 L (.int x :: r) hp')) := xVe _ _ _ _ _ _
theorem s_Sun_hoursBy_37  (C : xCx) (L r : List Value) (hp : xHp) : (xV k_Sun_hoursBy C 37 L (r) hp) = (xV k_Sun_hoursBy C 39 L (.int (10) :: r) hp) := xVe _ _ _ _ _ _
theorem s_Sun_hoursBy_39 (x y : Int32) (C : xCx) (L r : List Value) (hp : xHp) : (xV k_Sun_hoursBy C 39 L (.int y :: .int x :: r) hp) = (¬ y = 0 ∧ xV k_Sun_hoursBy C 40 L (.int (x - x / y * y) :: r) hp) := xVe _ _ _ _ _ _
theorem s_Sun_hoursBy_40 (x0 : Nat) (x1 : Int32) (x2 : Int32) (l : Launch) (d b lo gz n0 s0 : Nat) (Po : Option Value → xHp → Prop) (L r : List Value) (hp : xHp) : (xV k_Sun_hoursBy (l, d + 1, b, lo, gz, n0, s0, m_Sun_hoursBy, Po) 40 L (.int x2 :: .int x1 :: .ref x0 :: r) hp) = (3 ≤ List.length (.int x2 :: .int x1 :: .ref x0 :: r) ∧ xcs r 8 ∧ xMv l d b lo gz m_So_put [.ref x0, .int x1, .int x2] hp (fun hp' => xV k_Sun_hoursBy (l, d + 1, b, lo, gz, n0, s0, m_Sun_hoursBy, Po) 43 L r hp')) := xVe _ _ _ _ _ _
theorem s_Sun_hoursBy_43 (C : xCx) (r : List Value) (hp : xHp) (x : Nat) (a1 a2 a3 a4 a5 a6 : Value) : (xV k_Sun_hoursBy C 43 [.ref x, a1, a2, a3, a4, a5, a6] r hp) = (True ∧ xV k_Sun_hoursBy C 44 [.ref x, a1, a2, a3, a4, a5, a6] (.ref x :: r) hp) := xVe _ _ _ _ _ _
theorem s_Sun_hoursBy_44 (a : Nat) (C : xCx) (L r : List Value) (hp : xHp) : (xV k_Sun_hoursBy C 44 L (.ref a :: r) hp) = (xF hp a 9 2 (fun v => xV k_Sun_hoursBy C 47 L (v :: r) hp)) := xVe _ _ _ _ _ _
theorem s_Sun_hoursBy_47  (C : xCx) (L r : List Value) (hp : xHp) : (xV k_Sun_hoursBy C 47 L (r) hp) = (xV k_Sun_hoursBy C 48 L (.int (3) :: r) hp) := xVe _ _ _ _ _ _
theorem s_Sun_hoursBy_48 (C : xCx) (r : List Value) (hp : xHp) (x : Int32) (a0 a1 a2 a3 a4 a6 : Value) : (xV k_Sun_hoursBy C 48 [a0, a1, a2, a3, a4, .int x, a6] r hp) = (xV k_Sun_hoursBy C 50 [a0, a1, a2, a3, a4, .int x, a6] (.int x :: r) hp) := xVe _ _ _ _ _ _
theorem s_Sun_hoursBy_50 (x0 : Nat) (x1 : Int32) (x2 : Int32) (l : Launch) (d b lo gz n0 s0 : Nat) (Po : Option Value → xHp → Prop) (L r : List Value) (hp : xHp) : (xV k_Sun_hoursBy (l, d + 1, b, lo, gz, n0, s0, m_Sun_hoursBy, Po) 50 L (.int x2 :: .int x1 :: .ref x0 :: r) hp) = (3 ≤ List.length (.int x2 :: .int x1 :: .ref x0 :: r) ∧ xcs r 8 ∧ xMv l d b lo gz m_So_put [.ref x0, .int x1, .int x2] hp (fun hp' => xV k_Sun_hoursBy (l, d + 1, b, lo, gz, n0, s0, m_Sun_hoursBy, Po) 53 L r hp')) := xVe _ _ _ _ _ _
theorem s_Sun_hoursBy_53 (C : xCx) (r : List Value) (hp : xHp) (x : Nat) (a1 a2 a3 a4 a5 a6 : Value) : (xV k_Sun_hoursBy C 53 [.ref x, a1, a2, a3, a4, a5, a6] r hp) = (True ∧ xV k_Sun_hoursBy C 54 [.ref x, a1, a2, a3, a4, a5, a6] (.ref x :: r) hp) := xVe _ _ _ _ _ _
theorem s_Sun_hoursBy_54 (a : Nat) (C : xCx) (L r : List Value) (hp : xHp) : (xV k_Sun_hoursBy C 54 L (.ref a :: r) hp) = (xF hp a 9 2 (fun v => xV k_Sun_hoursBy C 57 L (v :: r) hp)) := xVe _ _ _ _ _ _
theorem s_Sun_hoursBy_57  (C : xCx) (L r : List Value) (hp : xHp) : (xV k_Sun_hoursBy C 57 L (r) hp) = (xV k_Sun_hoursBy C 58 L (.int (4) :: r) hp) := xVe _ _ _ _ _ _
theorem s_Sun_hoursBy_58 (C : xCx) (r : List Value) (hp : xHp) (x : Int32) (a0 a1 a2 a3 a5 a6 : Value) : (xV k_Sun_hoursBy C 58 [a0, a1, a2, a3, .int x, a5, a6] r hp) = (xV k_Sun_hoursBy C 60 [a0, a1, a2, a3, .int x, a5, a6] (.int x :: r) hp) := xVe _ _ _ _ _ _
theorem s_Sun_hoursBy_60 (x0 : Nat) (x1 : Int32) (x2 : Int32) (l : Launch) (d b lo gz n0 s0 : Nat) (Po : Option Value → xHp → Prop) (L r : List Value) (hp : xHp) : (xV k_Sun_hoursBy (l, d + 1, b, lo, gz, n0, s0, m_Sun_hoursBy, Po) 60 L (.int x2 :: .int x1 :: .ref x0 :: r) hp) = (3 ≤ List.length (.int x2 :: .int x1 :: .ref x0 :: r) ∧ xcs r 8 ∧ xMv l d b lo gz m_So_put [.ref x0, .int x1, .int x2] hp (fun hp' => xV k_Sun_hoursBy (l, d + 1, b, lo, gz, n0, s0, m_Sun_hoursBy, Po) 63 L r hp')) := xVe _ _ _ _ _ _
theorem s_Sun_hoursBy_63 (C : xCx) (r : List Value) (hp : xHp) (x : Nat) (a1 a2 a3 a4 a5 a6 : Value) : (xV k_Sun_hoursBy C 63 [.ref x, a1, a2, a3, a4, a5, a6] r hp) = (True ∧ xV k_Sun_hoursBy C 64 [.ref x, a1, a2, a3, a4, a5, a6] (.ref x :: r) hp) := xVe _ _ _ _ _ _
theorem s_Sun_hoursBy_64 (a : Nat) (C : xCx) (L r : List Value) (hp : xHp) : (xV k_Sun_hoursBy C 64 L (.ref a :: r) hp) = (xF hp a 9 2 (fun v => xV k_Sun_hoursBy C 67 L (v :: r) hp)) := xVe _ _ _ _ _ _
theorem s_Sun_hoursBy_67  (C : xCx) (L r : List Value) (hp : xHp) : (xV k_Sun_hoursBy C 67 L (r) hp) = (xV k_Sun_hoursBy C 68 L (.int (5) :: r) hp) := xVe _ _ _ _ _ _
theorem s_Sun_hoursBy_68 (C : xCx) (r : List Value) (hp : xHp) (x : Int32) (a0 a1 a2 a4 a5 a6 : Value) : (xV k_Sun_hoursBy C 68 [a0, a1, a2, .int x, a4, a5, a6] r hp) = (xV k_Sun_hoursBy C 69 [a0, a1, a2, .int x, a4, a5, a6] (.int x :: r) hp) := xVe _ _ _ _ _ _
theorem s_Sun_hoursBy_69 (x0 : Nat) (x1 : Int32) (x2 : Int32) (l : Launch) (d b lo gz n0 s0 : Nat) (Po : Option Value → xHp → Prop) (L r : List Value) (hp : xHp) : (xV k_Sun_hoursBy (l, d + 1, b, lo, gz, n0, s0, m_Sun_hoursBy, Po) 69 L (.int x2 :: .int x1 :: .ref x0 :: r) hp) = (3 ≤ List.length (.int x2 :: .int x1 :: .ref x0 :: r) ∧ xcs r 8 ∧ xMv l d b lo gz m_So_put [.ref x0, .int x1, .int x2] hp (fun hp' => xV k_Sun_hoursBy (l, d + 1, b, lo, gz, n0, s0, m_Sun_hoursBy, Po) 72 L r hp')) := xVe _ _ _ _ _ _
theorem s_Sun_hoursBy_72 (C : xCx) (r : List Value) (hp : xHp) (x : Nat) (a1 a2 a3 a4 a5 a6 : Value) : (xV k_Sun_hoursBy C 72 [.ref x, a1, a2, a3, a4, a5, a6] r hp) = (True ∧ xV k_Sun_hoursBy C 73 [.ref x, a1, a2, a3, a4, a5, a6] (.ref x :: r) hp) := xVe _ _ _ _ _ _
theorem s_Sun_hoursBy_73 (a : Nat) (C : xCx) (L r : List Value) (hp : xHp) : (xV k_Sun_hoursBy C 73 L (.ref a :: r) hp) = (xF hp a 9 2 (fun v => xV k_Sun_hoursBy C 76 L (v :: r) hp)) := xVe _ _ _ _ _ _
theorem s_Sun_hoursBy_76  (C : xCx) (L r : List Value) (hp : xHp) : (xV k_Sun_hoursBy C 76 L (r) hp) = (xV k_Sun_hoursBy C 78 L (.int (6) :: r) hp) := xVe _ _ _ _ _ _
theorem s_Sun_hoursBy_78 (C : xCx) (r : List Value) (hp : xHp) (x : Nat) (a0 a1 a3 a4 a5 a6 : Value) : (xV k_Sun_hoursBy C 78 [a0, a1, .ref x, a3, a4, a5, a6] r hp) = (True ∧ xV k_Sun_hoursBy C 79 [a0, a1, .ref x, a3, a4, a5, a6] (.ref x :: r) hp) := xVe _ _ _ _ _ _
theorem s_Sun_hoursBy_79 (a : Nat) (l : Launch) (d b lo gz n0 s0 : Nat) (Po : Option Value → xHp → Prop) (L r : List Value) (hp : xHp) : (xV k_Sun_hoursBy (l, d + 1, b, lo, gz, n0, s0, m_Sun_hoursBy, Po) 79 L (.ref a :: r) hp) = (xO hp a 3 ∧ xcs r 8 ∧ xMi l d b lo gz m_Folk_day [.ref a] hp (fun x hp' => xV k_Sun_hoursBy (l, d + 1, b, lo, gz, n0, s0, m_Sun_hoursBy, Po) 82 L (.int x :: r) hp')) := xVe _ _ _ _ _ _
theorem s_Sun_hoursBy_82  (C : xCx) (L r : List Value) (hp : xHp) : (xV k_Sun_hoursBy C 82 L (r) hp) = (xV k_Sun_hoursBy C 84 L (.int (7) :: r) hp) := xVe _ _ _ _ _ _
theorem s_Sun_hoursBy_84 (x y : Int32) (C : xCx) (L r : List Value) (hp : xHp) : (xV k_Sun_hoursBy C 84 L (.int y :: .int x :: r) hp) = (¬ y = 0 ∧ xV k_Sun_hoursBy C 85 L (.int (x - x / y * y) :: r) hp) := xVe _ _ _ _ _ _
theorem s_Sun_hoursBy_85 (x0 : Nat) (x1 : Int32) (x2 : Int32) (l : Launch) (d b lo gz n0 s0 : Nat) (Po : Option Value → xHp → Prop) (L r : List Value) (hp : xHp) : (xV k_Sun_hoursBy (l, d + 1, b, lo, gz, n0, s0, m_Sun_hoursBy, Po) 85 L (.int x2 :: .int x1 :: .ref x0 :: r) hp) = (3 ≤ List.length (.int x2 :: .int x1 :: .ref x0 :: r) ∧ xcs r 8 ∧ xMv l d b lo gz m_So_put [.ref x0, .int x1, .int x2] hp (fun hp' => xV k_Sun_hoursBy (l, d + 1, b, lo, gz, n0, s0, m_Sun_hoursBy, Po) 88 L r hp')) := xVe _ _ _ _ _ _
theorem s_Sun_hoursBy_88 (C : xCx) (r : List Value) (hp : xHp) (x : Nat) (a0 a2 a3 a4 a5 a6 : Value) : (xV k_Sun_hoursBy C 88 [a0, .ref x, a2, a3, a4, a5, a6] r hp) = (True ∧ xV k_Sun_hoursBy C 89 [a0, .ref x, a2, a3, a4, a5, a6] (.ref x :: r) hp) := xVe _ _ _ _ _ _
theorem s_Sun_hoursBy_89 (C : xCx) (r : List Value) (hp : xHp) (x : Nat) (a1 a2 a3 a4 a5 a6 : Value) : (xV k_Sun_hoursBy C 89 [.ref x, a1, a2, a3, a4, a5, a6] r hp) = (True ∧ xV k_Sun_hoursBy C 90 [.ref x, a1, a2, a3, a4, a5, a6] (.ref x :: r) hp) := xVe _ _ _ _ _ _
theorem s_Sun_hoursBy_90 (a : Nat) (C : xCx) (L r : List Value) (hp : xHp) : (xV k_Sun_hoursBy C 90 L (.ref a :: r) hp) = (xF hp a 9 2 (fun v => xV k_Sun_hoursBy C 93 L (v :: r) hp)) := xVe _ _ _ _ _ _
theorem s_Sun_hoursBy_93 (x0 : Nat) (a : Nat) (l : Launch) (d b lo gz n0 s0 : Nat) (Po : Option Value → xHp → Prop) (L r : List Value) (hp : xHp) : (xV k_Sun_hoursBy (l, d + 1, b, lo, gz, n0, s0, m_Sun_hoursBy, Po) 93 L (.ref x0 :: .ref a :: r) hp) = (xO hp a 8 ∧ xcs r 8 ∧ xMi l d b lo gz m_Rule_value [.ref a, .ref x0] hp (fun x hp' => xV k_Sun_hoursBy (l, d + 1, b, lo, gz, n0, s0, m_Sun_hoursBy, Po) 96 L (.int x :: r) hp')) := xVe _ _ _ _ _ _
theorem s_Sun_hoursBy_96  (C : xCx) (L r : List Value) (hp : xHp) : (xV k_Sun_hoursBy C 96 L (r) hp) = (xV k_Sun_hoursBy C 97 L (.int (0) :: r) hp) := xVe _ _ _ _ _ _
theorem s_Sun_hoursBy_97  (C : xCx) (L r : List Value) (hp : xHp) : (xV k_Sun_hoursBy C 97 L (r) hp) = (xV k_Sun_hoursBy C 99 L (.int (9) :: r) hp) := xVe _ _ _ _ _ _
theorem s_Sun_hoursBy_99 (x0 : Int32) (x1 : Int32) (x2 : Int32) (l : Launch) (d b lo gz n0 s0 : Nat) (Po : Option Value → xHp → Prop) (L r : List Value) (hp : xHp) : (xV k_Sun_hoursBy (l, d + 1, b, lo, gz, n0, s0, m_Sun_hoursBy, Po) 99 L (.int x2 :: .int x1 :: .int x0 :: r) hp) = (3 ≤ List.length (.int x2 :: .int x1 :: .int x0 :: r) ∧ xcs r 8 ∧ xMi l d b lo gz m_So_within [.int x0, .int x1, .int x2] hp (fun x hp' => xV k_Sun_hoursBy (l, d + 1, b, lo, gz, n0, s0, m_Sun_hoursBy, Po) 102 L (.int x :: r) hp')) := xVe _ _ _ _ _ _
theorem s_Sun_hoursBy_102 (v : Int32) (l : Launch) (d b lo gz n0 s0 : Nat) (Po : Option Value → xHp → Prop) (L : List Value) (hp : xHp) : (xV k_Sun_hoursBy (l, d, b, lo, gz, n0, s0, m_Sun_hoursBy, Po) 102 L [.int v] hp) = (Po (some (.int v)) hp) := xVe _ _ _ _ _ _
theorem ml_Rule_85 : xLk "SunnyOnes$Rule" 85 m_Rule_reckon := Or.inl (wg3 74 (by decide +kernel) rfl)
def k_Rule_value : List xEC := [
  (0, .iconst 0, 1, 0, 0, 0, m_x),
  (1, .istore_n 2, 2, 0, 0, 0, m_x),
  (2, .iconst 0, 3, 0, 0, 0, m_x),
  (3, .istore_n 3, 4, 0, 0, 0, m_x),
  (4, .iload_n 3, 5, 0, 0, 0, m_x),
  (5, .aload_n 0, 6, 0, 0, 0, m_x),
  (6, .getfield 25, 9, 8, 3, 0, m_x),
  (9, .if_icmp .ge 140, 12, 0, 149, 0, m_x),
  (12, .aload_n 0, 13, 0, 0, 0, m_x),
  (13, .getfield 11, 16, 8, 1, 0, m_x),
  (16, .iload_n 3, 17, 0, 0, 0, m_x),
  (17, .invokestatic 29, 20, 0, 0, 0, m_So_at),
  (20, .istore 4, 22, 0, 0, 0, m_x),
  (22, .iload 4, 24, 0, 0, 0, m_x),
  (24, .ifCond .lt 19, 27, 0, 43, 0, m_x),
  (27, .aload_n 0, 28, 0, 0, 0, m_x),
  (28, .getfield 15, 31, 8, 2, 0, m_x),
  (31, .iload_n 2, 32, 0, 0, 0, m_x),
  (32, .iload 4, 34, 0, 0, 0, m_x),
  (34, .invokestatic 33, 37, 0, 0, 0, m_So_put),
  (37, .iinc 2 1, 40, 0, 0, 0, m_x),
  (40, .goto 103, 43, 0, 143, 0, m_x),
  (43, .iload 4, 45, 0, 0, 0, m_x),
  (45, .bipush (-7), 47, 0, 0, 0, m_x),
  (47, .if_icmp .lt 25, 50, 0, 72, 0, m_x),
  (50, .aload_n 0, 51, 0, 0, 0, m_x),
  (51, .getfield 15, 54, 8, 2, 0, m_x),
  (54, .iload_n 2, 55, 0, 0, 0, m_x),
  (55, .aload_n 1, 56, 0, 0, 0, m_x),
  (56, .iconst (-1), 57, 0, 0, 0, m_x),
  (57, .iload 4, 59, 0, 0, 0, m_x),
  (59, .isub, 60, 0, 0, 0, m_x),
  (60, .invokestatic 29, 63, 0, 0, 0, m_So_at),
  (63, .invokestatic 33, 66, 0, 0, 0, m_So_put),
  (66, .iinc 2 1, 69, 0, 0, 0, m_x),
  (69, .goto 74, 72, 0, 143, 0, m_x),
  (72, .iload 4, 74, 0, 0, 0, m_x),
  (74, .bipush (-18), 76, 0, 0, 0, m_x),
  (76, .if_icmp .ne 27, 79, 0, 103, 0, m_x),
  (79, .aload_n 0, 80, 0, 0, 0, m_x),
  (80, .getfield 15, 83, 8, 2, 0, m_x),
  (83, .iload_n 2, 84, 0, 0, 0, m_x),
  (84, .iconst 1, 85, 0, 0, 0, m_x),
  (85, .isub, 86, 0, 0, 0, m_x),
  (86, .aload_n 0, 87, 0, 0, 0, m_x),
  (87, .getfield 15, 90, 8, 2, 0, m_x),
  (90, .iload_n 2, 91, 0, 0, 0, m_x),
  (91, .iconst 1, 92, 0, 0, 0, m_x),
  (92, .isub, 93, 0, 0, 0, m_x),
  (93, .invokestatic 29, 96, 0, 0, 0, m_So_at),
  (96, .ineg, 97, 0, 0, 0, m_x),
  (97, .invokestatic 33, 100, 0, 0, 0, m_So_put),
  (100, .goto 43, 103, 0, 143, 0, m_x),
  (103, .iinc 2 (-1), 106, 0, 0, 0, m_x),
  (106, .aload_n 0, 107, 0, 0, 0, m_x),
  (107, .getfield 15, 110, 8, 2, 0, m_x),
  (110, .iload_n 2, 111, 0, 0, 0, m_x),
  (111, .iconst 1, 112, 0, 0, 0, m_x),
  (112, .isub, 113, 0, 0, 0, m_x),
  (113, .invokestatic 29, 116, 0, 0, 0, m_So_at),
  (116, .istore 5, 118, 0, 0, 0, m_x),
  (118, .aload_n 0, 119, 0, 0, 0, m_x),
  (119, .getfield 15, 122, 8, 2, 0, m_x),
  (122, .iload_n 2, 123, 0, 0, 0, m_x),
  (123, .iconst 1, 124, 0, 0, 0, m_x),
  (124, .isub, 125, 0, 0, 0, m_x),
  (125, .iload 4, 127, 0, 0, 0, m_x),
  (127, .iload 5, 129, 0, 0, 0, m_x),
  (129, .aload_n 0, 130, 0, 0, 0, m_x),
  (130, .getfield 15, 133, 8, 2, 0, m_x),
  (133, .iload_n 2, 134, 0, 0, 0, m_x),
  (134, .invokestatic 29, 137, 0, 0, 0, m_So_at),
  (137, .invokestatic 85, 140, 0, 0, 0, m_Rule_reckon),
  (140, .invokestatic 33, 143, 0, 0, 0, m_So_put),
  (143, .iinc 3 1, 146, 0, 0, 0, m_x),
  (146, .goto (-142), 149, 0, 4, 0, m_x),
  (149, .aload_n 0, 150, 0, 0, 0, m_x),
  (150, .getfield 15, 153, 8, 2, 0, m_x),
  (153, .iconst 0, 154, 0, 0, 0, m_x),
  (154, .invokestatic 29, 157, 0, 0, 0, m_So_at),
  (157, .ireturn, 158, 0, 0, 0, m_x)]
theorem dc_Rule_value : ∀ E ∈ k_Rule_value, xDc m_Rule_value E := by decide +kernel
set_option maxRecDepth 20000 in
theorem ok_Rule_value : ∀ E ∈ k_Rule_value, xOk m_Rule_value E := xok_of dc_Rule_value (xfc trivial (xfc trivial (xfc trivial (xfc trivial (xfc trivial (xfc trivial (xfc fl_Rule_25 (xfc (show ((9 : Nat) : Int) + (140) = ((149 : Nat) : Int) from by decide) (xfc trivial (xfc fl_Rule_11 (xfc trivial (xfc ⟨ml_Rule_29, kd_So_at⟩ (xfc trivial (xfc trivial (xfc (show ((24 : Nat) : Int) + (19) = ((43 : Nat) : Int) from by decide) (xfc trivial (xfc fl_Rule_15 (xfc trivial (xfc trivial (xfc ⟨ml_Rule_33, kd_So_put⟩ (xfc trivial (xfc (show ((40 : Nat) : Int) + (103) = ((143 : Nat) : Int) from by decide) (xfc trivial (xfc trivial (xfc (show ((47 : Nat) : Int) + (25) = ((72 : Nat) : Int) from by decide) (xfc trivial (xfc fl_Rule_15 (xfc trivial (xfc trivial (xfc trivial (xfc trivial (xfc trivial (xfc ⟨ml_Rule_29, kd_So_at⟩ (xfc ⟨ml_Rule_33, kd_So_put⟩ (xfc trivial (xfc (show ((69 : Nat) : Int) + (74) = ((143 : Nat) : Int) from by decide) (xfc trivial (xfc trivial (xfc (show ((76 : Nat) : Int) + (27) = ((103 : Nat) : Int) from by decide) (xfc trivial (xfc fl_Rule_15 (xfc trivial (xfc trivial (xfc trivial (xfc trivial (xfc fl_Rule_15 (xfc trivial (xfc trivial (xfc trivial (xfc ⟨ml_Rule_29, kd_So_at⟩ (xfc trivial (xfc ⟨ml_Rule_33, kd_So_put⟩ (xfc (show ((100 : Nat) : Int) + (43) = ((143 : Nat) : Int) from by decide) (xfc trivial (xfc trivial (xfc fl_Rule_15 (xfc trivial (xfc trivial (xfc trivial (xfc ⟨ml_Rule_29, kd_So_at⟩ (xfc trivial (xfc trivial (xfc fl_Rule_15 (xfc trivial (xfc trivial (xfc trivial (xfc trivial (xfc trivial (xfc trivial (xfc fl_Rule_15 (xfc trivial (xfc ⟨ml_Rule_29, kd_So_at⟩ (xfc ⟨ml_Rule_85, kd_Rule_reckon⟩ (xfc ⟨ml_Rule_33, kd_So_put⟩ (xfc trivial (xfc (show ((146 : Nat) : Int) + (-142) = ((4 : Nat) : Int) from by decide) (xfc trivial (xfc fl_Rule_15 (xfc trivial (xfc ⟨ml_Rule_29, kd_So_at⟩ (xfc trivial (xfn))))))))))))))))))))))))))))))))))))))))))))))))))))))))))))))))))))))))))))))))))
theorem s_Rule_value_0  (C : xCx) (L r : List Value) (hp : xHp) : (xV k_Rule_value C 0 L (r) hp) = (xV k_Rule_value C 1 L (.int (0) :: r) hp) := xVe _ _ _ _ _ _
theorem s_Rule_value_1 (C : xCx) (r : List Value) (hp : xHp) (x : Int32) (a0 a1 a2 a3 a4 a5 : Value) : (xV k_Rule_value C 1 [a0, a1, a2, a3, a4, a5] (.int x :: r) hp) = (2 < 6 ∧ xNl [a0, a1, a2, a3, a4, a5] 2 ∧ xV k_Rule_value C 2 [a0, a1, .int x, a3, a4, a5] r hp) := xVe _ _ _ _ _ _
theorem s_Rule_value_2  (C : xCx) (L r : List Value) (hp : xHp) : (xV k_Rule_value C 2 L (r) hp) = (xV k_Rule_value C 3 L (.int (0) :: r) hp) := xVe _ _ _ _ _ _
theorem s_Rule_value_3 (C : xCx) (r : List Value) (hp : xHp) (x : Int32) (a0 a1 a2 a3 a4 a5 : Value) : (xV k_Rule_value C 3 [a0, a1, a2, a3, a4, a5] (.int x :: r) hp) = (3 < 6 ∧ xNl [a0, a1, a2, a3, a4, a5] 3 ∧ xV k_Rule_value C 4 [a0, a1, a2, .int x, a4, a5] r hp) := xVe _ _ _ _ _ _
theorem s_Rule_value_4 (C : xCx) (r : List Value) (hp : xHp) (x : Int32) (a0 a1 a2 a4 a5 : Value) : (xV k_Rule_value C 4 [a0, a1, a2, .int x, a4, a5] r hp) = (xV k_Rule_value C 5 [a0, a1, a2, .int x, a4, a5] (.int x :: r) hp) := xVe _ _ _ _ _ _
theorem s_Rule_value_5 (C : xCx) (r : List Value) (hp : xHp) (x : Nat) (a1 a2 a3 a4 a5 : Value) : (xV k_Rule_value C 5 [.ref x, a1, a2, a3, a4, a5] r hp) = (True ∧ xV k_Rule_value C 6 [.ref x, a1, a2, a3, a4, a5] (.ref x :: r) hp) := xVe _ _ _ _ _ _
theorem s_Rule_value_6 (a : Nat) (C : xCx) (L r : List Value) (hp : xHp) : (xV k_Rule_value C 6 L (.ref a :: r) hp) = (xF hp a 8 3 (fun v => xV k_Rule_value C 9 L (v :: r) hp)) := xVe _ _ _ _ _ _
theorem s_Rule_value_9 (x y : Int32) (C : xCx) (L r : List Value) (hp : xHp) : (xV k_Rule_value C 9 L (.int y :: .int x :: r) hp) = (((y ≤ x → xV k_Rule_value C 149 L r hp) ∧ (¬ y ≤ x → xV k_Rule_value C 12 L r hp))) := xVe _ _ _ _ _ _
theorem s_Rule_value_12 (C : xCx) (r : List Value) (hp : xHp) (x : Nat) (a1 a2 a3 a4 a5 : Value) : (xV k_Rule_value C 12 [.ref x, a1, a2, a3, a4, a5] r hp) = (True ∧ xV k_Rule_value C 13 [.ref x, a1, a2, a3, a4, a5] (.ref x :: r) hp) := xVe _ _ _ _ _ _
theorem s_Rule_value_13 (a : Nat) (C : xCx) (L r : List Value) (hp : xHp) : (xV k_Rule_value C 13 L (.ref a :: r) hp) = (xF hp a 8 1 (fun v => xV k_Rule_value C 16 L (v :: r) hp)) := xVe _ _ _ _ _ _
theorem s_Rule_value_16 (C : xCx) (r : List Value) (hp : xHp) (x : Int32) (a0 a1 a2 a4 a5 : Value) : (xV k_Rule_value C 16 [a0, a1, a2, .int x, a4, a5] r hp) = (xV k_Rule_value C 17 [a0, a1, a2, .int x, a4, a5] (.int x :: r) hp) := xVe _ _ _ _ _ _
theorem s_Rule_value_17 (x0 : Nat) (x1 : Int32) (l : Launch) (d b lo gz n0 s0 : Nat) (Po : Option Value → xHp → Prop) (L r : List Value) (hp : xHp) : (xV k_Rule_value (l, d + 1, b, lo, gz, n0, s0, m_Rule_value, Po) 17 L (.int x1 :: .ref x0 :: r) hp) = (2 ≤ List.length (.int x1 :: .ref x0 :: r) ∧ xcs r 8 ∧ xMi l d b lo gz m_So_at [.ref x0, .int x1] hp (fun x hp' => xV k_Rule_value (l, d + 1, b, lo, gz, n0, s0, m_Rule_value, Po) 20 L (.int x :: r) hp')) := xVe _ _ _ _ _ _
theorem s_Rule_value_20 (C : xCx) (r : List Value) (hp : xHp) (x : Int32) (a0 a1 a2 a3 a4 a5 : Value) : (xV k_Rule_value C 20 [a0, a1, a2, a3, a4, a5] (.int x :: r) hp) = (4 < 6 ∧ xNl [a0, a1, a2, a3, a4, a5] 4 ∧ xV k_Rule_value C 22 [a0, a1, a2, a3, .int x, a5] r hp) := xVe _ _ _ _ _ _
theorem s_Rule_value_22 (C : xCx) (r : List Value) (hp : xHp) (x : Int32) (a0 a1 a2 a3 a5 : Value) : (xV k_Rule_value C 22 [a0, a1, a2, a3, .int x, a5] r hp) = (xV k_Rule_value C 24 [a0, a1, a2, a3, .int x, a5] (.int x :: r) hp) := xVe _ _ _ _ _ _
theorem s_Rule_value_24 (x : Int32) (C : xCx) (L r : List Value) (hp : xHp) : (xV k_Rule_value C 24 L (.int x :: r) hp) = (((x < 0 → xV k_Rule_value C 43 L r hp) ∧ (¬ x < 0 → xV k_Rule_value C 27 L r hp))) := xVe _ _ _ _ _ _
theorem s_Rule_value_27 (C : xCx) (r : List Value) (hp : xHp) (x : Nat) (a1 a2 a3 a4 a5 : Value) : (xV k_Rule_value C 27 [.ref x, a1, a2, a3, a4, a5] r hp) = (True ∧ xV k_Rule_value C 28 [.ref x, a1, a2, a3, a4, a5] (.ref x :: r) hp) := xVe _ _ _ _ _ _
theorem s_Rule_value_28 (a : Nat) (C : xCx) (L r : List Value) (hp : xHp) : (xV k_Rule_value C 28 L (.ref a :: r) hp) = (xF hp a 8 2 (fun v => xV k_Rule_value C 31 L (v :: r) hp)) := xVe _ _ _ _ _ _
theorem s_Rule_value_31 (C : xCx) (r : List Value) (hp : xHp) (x : Int32) (a0 a1 a3 a4 a5 : Value) : (xV k_Rule_value C 31 [a0, a1, .int x, a3, a4, a5] r hp) = (xV k_Rule_value C 32 [a0, a1, .int x, a3, a4, a5] (.int x :: r) hp) := xVe _ _ _ _ _ _
theorem s_Rule_value_32 (C : xCx) (r : List Value) (hp : xHp) (x : Int32) (a0 a1 a2 a3 a5 : Value) : (xV k_Rule_value C 32 [a0, a1, a2, a3, .int x, a5] r hp) = (xV k_Rule_value C 34 [a0, a1, a2, a3, .int x, a5] (.int x :: r) hp) := xVe _ _ _ _ _ _
theorem s_Rule_value_34 (x0 : Nat) (x1 : Int32) (x2 : Int32) (l : Launch) (d b lo gz n0 s0 : Nat) (Po : Option Value → xHp → Prop) (L r : List Value) (hp : xHp) : (xV k_Rule_value (l, d + 1, b, lo, gz, n0, s0, m_Rule_value, Po) 34 L (.int x2 :: .int x1 :: .ref x0 :: r) hp) = (3 ≤ List.length (.int x2 :: .int x1 :: .ref x0 :: r) ∧ xcs r 8 ∧ xMv l d b lo gz m_So_put [.ref x0, .int x1, .int x2] hp (fun hp' => xV k_Rule_value (l, d + 1, b, lo, gz, n0, s0, m_Rule_value, Po) 37 L r hp')) := xVe _ _ _ _ _ _
theorem s_Rule_value_37 (C : xCx) (r : List Value) (hp : xHp) (x : Int32) (a0 a1 a3 a4 a5 : Value) : (xV k_Rule_value C 37 [a0, a1, .int x, a3, a4, a5] r hp) = (xNl [a0, a1, .int x, a3, a4, a5] 2 ∧ xV k_Rule_value C 40 [a0, a1, .int (x + (1)), a3, a4, a5] r hp) := xVe _ _ _ _ _ _
theorem s_Rule_value_40 (C : xCx) (L r : List Value) (hp : xHp) : (xV k_Rule_value C 40 L r hp) = (xV k_Rule_value C 143 L r hp) := xVe _ _ _ _ _ _
theorem s_Rule_value_43 (C : xCx) (r : List Value) (hp : xHp) (x : Int32) (a0 a1 a2 a3 a5 : Value) : (xV k_Rule_value C 43 [a0, a1, a2, a3, .int x, a5] r hp) = (xV k_Rule_value C 45 [a0, a1, a2, a3, .int x, a5] (.int x :: r) hp) := xVe _ _ _ _ _ _
theorem s_Rule_value_45  (C : xCx) (L r : List Value) (hp : xHp) : (xV k_Rule_value C 45 L (r) hp) = (xV k_Rule_value C 47 L (.int (-7) :: r) hp) := xVe _ _ _ _ _ _
theorem s_Rule_value_47 (x y : Int32) (C : xCx) (L r : List Value) (hp : xHp) : (xV k_Rule_value C 47 L (.int y :: .int x :: r) hp) = (((x < y → xV k_Rule_value C 72 L r hp) ∧ (¬ x < y → xV k_Rule_value C 50 L r hp))) := xVe _ _ _ _ _ _
theorem s_Rule_value_50 (C : xCx) (r : List Value) (hp : xHp) (x : Nat) (a1 a2 a3 a4 a5 : Value) : (xV k_Rule_value C 50 [.ref x, a1, a2, a3, a4, a5] r hp) = (True ∧ xV k_Rule_value C 51 [.ref x, a1, a2, a3, a4, a5] (.ref x :: r) hp) := xVe _ _ _ _ _ _
theorem s_Rule_value_51 (a : Nat) (C : xCx) (L r : List Value) (hp : xHp) : (xV k_Rule_value C 51 L (.ref a :: r) hp) = (xF hp a 8 2 (fun v => xV k_Rule_value C 54 L (v :: r) hp)) := xVe _ _ _ _ _ _
theorem s_Rule_value_54 (C : xCx) (r : List Value) (hp : xHp) (x : Int32) (a0 a1 a3 a4 a5 : Value) : (xV k_Rule_value C 54 [a0, a1, .int x, a3, a4, a5] r hp) = (xV k_Rule_value C 55 [a0, a1, .int x, a3, a4, a5] (.int x :: r) hp) := xVe _ _ _ _ _ _
theorem s_Rule_value_55 (C : xCx) (r : List Value) (hp : xHp) (x : Nat) (a0 a2 a3 a4 a5 : Value) : (xV k_Rule_value C 55 [a0, .ref x, a2, a3, a4, a5] r hp) = (True ∧ xV k_Rule_value C 56 [a0, .ref x, a2, a3, a4, a5] (.ref x :: r) hp) := xVe _ _ _ _ _ _
theorem s_Rule_value_56  (C : xCx) (L r : List Value) (hp : xHp) : (xV k_Rule_value C 56 L (r) hp) = (xV k_Rule_value C 57 L (.int (-1) :: r) hp) := xVe _ _ _ _ _ _
theorem s_Rule_value_57 (C : xCx) (r : List Value) (hp : xHp) (x : Int32) (a0 a1 a2 a3 a5 : Value) : (xV k_Rule_value C 57 [a0, a1, a2, a3, .int x, a5] r hp) = (xV k_Rule_value C 59 [a0, a1, a2, a3, .int x, a5] (.int x :: r) hp) := xVe _ _ _ _ _ _
theorem s_Rule_value_59 (x y : Int32) (C : xCx) (L r : List Value) (hp : xHp) : (xV k_Rule_value C 59 L (.int y :: .int x :: r) hp) = (xV k_Rule_value C 60 L (.int (x - y) :: r) hp) := xVe _ _ _ _ _ _
theorem s_Rule_value_60 (x0 : Nat) (x1 : Int32) (l : Launch) (d b lo gz n0 s0 : Nat) (Po : Option Value → xHp → Prop) (L r : List Value) (hp : xHp) : (xV k_Rule_value (l, d + 1, b, lo, gz, n0, s0, m_Rule_value, Po) 60 L (.int x1 :: .ref x0 :: r) hp) = (2 ≤ List.length (.int x1 :: .ref x0 :: r) ∧ xcs r 8 ∧ xMi l d b lo gz m_So_at [.ref x0, .int x1] hp (fun x hp' => xV k_Rule_value (l, d + 1, b, lo, gz, n0, s0, m_Rule_value, Po) 63 L (.int x :: r) hp')) := xVe _ _ _ _ _ _
theorem s_Rule_value_63 (x0 : Nat) (x1 : Int32) (x2 : Int32) (l : Launch) (d b lo gz n0 s0 : Nat) (Po : Option Value → xHp → Prop) (L r : List Value) (hp : xHp) : (xV k_Rule_value (l, d + 1, b, lo, gz, n0, s0, m_Rule_value, Po) 63 L (.int x2 :: .int x1 :: .ref x0 :: r) hp) = (3 ≤ List.length (.int x2 :: .int x1 :: .ref x0 :: r) ∧ xcs r 8 ∧ xMv l d b lo gz m_So_put [.ref x0, .int x1, .int x2] hp (fun hp' => xV k_Rule_value (l, d + 1, b, lo, gz, n0, s0, m_Rule_value, Po) 66 L r hp')) := xVe _ _ _ _ _ _
theorem s_Rule_value_66 (C : xCx) (r : List Value) (hp : xHp) (x : Int32) (a0 a1 a3 a4 a5 : Value) : (xV k_Rule_value C 66 [a0, a1, .int x, a3, a4, a5] r hp) = (xNl [a0, a1, .int x, a3, a4, a5] 2 ∧ xV k_Rule_value C 69 [a0, a1, .int (x + (1)), a3, a4, a5] r hp) := xVe _ _ _ _ _ _
theorem s_Rule_value_69 (C : xCx) (L r : List Value) (hp : xHp) : (xV k_Rule_value C 69 L r hp) = (xV k_Rule_value C 143 L r hp) := xVe _ _ _ _ _ _
theorem s_Rule_value_72 (C : xCx) (r : List Value) (hp : xHp) (x : Int32) (a0 a1 a2 a3 a5 : Value) : (xV k_Rule_value C 72 [a0, a1, a2, a3, .int x, a5] r hp) = (xV k_Rule_value C 74 [a0, a1, a2, a3, .int x, a5] (.int x :: r) hp) := xVe _ _ _ _ _ _
theorem s_Rule_value_74  (C : xCx) (L r : List Value) (hp : xHp) : (xV k_Rule_value C 74 L (r) hp) = (xV k_Rule_value C 76 L (.int (-18) :: r) hp) := xVe _ _ _ _ _ _
theorem s_Rule_value_76 (x y : Int32) (C : xCx) (L r : List Value) (hp : xHp) : (xV k_Rule_value C 76 L (.int y :: .int x :: r) hp) = (((¬ x = y → xV k_Rule_value C 103 L r hp) ∧ (x = y → xV k_Rule_value C 79 L r hp))) := xVe _ _ _ _ _ _
theorem s_Rule_value_79 (C : xCx) (r : List Value) (hp : xHp) (x : Nat) (a1 a2 a3 a4 a5 : Value) : (xV k_Rule_value C 79 [.ref x, a1, a2, a3, a4, a5] r hp) = (True ∧ xV k_Rule_value C 80 [.ref x, a1, a2, a3, a4, a5] (.ref x :: r) hp) := xVe _ _ _ _ _ _
theorem s_Rule_value_80 (a : Nat) (C : xCx) (L r : List Value) (hp : xHp) : (xV k_Rule_value C 80 L (.ref a :: r) hp) = (xF hp a 8 2 (fun v => xV k_Rule_value C 83 L (v :: r) hp)) := xVe _ _ _ _ _ _
theorem s_Rule_value_83 (C : xCx) (r : List Value) (hp : xHp) (x : Int32) (a0 a1 a3 a4 a5 : Value) : (xV k_Rule_value C 83 [a0, a1, .int x, a3, a4, a5] r hp) = (xV k_Rule_value C 84 [a0, a1, .int x, a3, a4, a5] (.int x :: r) hp) := xVe _ _ _ _ _ _
theorem s_Rule_value_84  (C : xCx) (L r : List Value) (hp : xHp) : (xV k_Rule_value C 84 L (r) hp) = (xV k_Rule_value C 85 L (.int (1) :: r) hp) := xVe _ _ _ _ _ _
theorem s_Rule_value_85 (x y : Int32) (C : xCx) (L r : List Value) (hp : xHp) : (xV k_Rule_value C 85 L (.int y :: .int x :: r) hp) = (xV k_Rule_value C 86 L (.int (x - y) :: r) hp) := xVe _ _ _ _ _ _
theorem s_Rule_value_86 (C : xCx) (r : List Value) (hp : xHp) (x : Nat) (a1 a2 a3 a4 a5 : Value) : (xV k_Rule_value C 86 [.ref x, a1, a2, a3, a4, a5] r hp) = (True ∧ xV k_Rule_value C 87 [.ref x, a1, a2, a3, a4, a5] (.ref x :: r) hp) := xVe _ _ _ _ _ _
theorem s_Rule_value_87 (a : Nat) (C : xCx) (L r : List Value) (hp : xHp) : (xV k_Rule_value C 87 L (.ref a :: r) hp) = (xF hp a 8 2 (fun v => xV k_Rule_value C 90 L (v :: r) hp)) := xVe _ _ _ _ _ _
theorem s_Rule_value_90 (C : xCx) (r : List Value) (hp : xHp) (x : Int32) (a0 a1 a3 a4 a5 : Value) : (xV k_Rule_value C 90 [a0, a1, .int x, a3, a4, a5] r hp) = (xV k_Rule_value C 91 [a0, a1, .int x, a3, a4, a5] (.int x :: r) hp) := xVe _ _ _ _ _ _
theorem s_Rule_value_91  (C : xCx) (L r : List Value) (hp : xHp) : (xV k_Rule_value C 91 L (r) hp) = (xV k_Rule_value C 92 L (.int (1) :: r) hp) := xVe _ _ _ _ _ _
theorem s_Rule_value_92 (x y : Int32) (C : xCx) (L r : List Value) (hp : xHp) : (xV k_Rule_value C 92 L (.int y :: .int x :: r) hp) = (xV k_Rule_value C 93 L (.int (x - y) :: r) hp) := xVe _ _ _ _ _ _
theorem s_Rule_value_93 (x0 : Nat) (x1 : Int32) (l : Launch) (d b lo gz n0 s0 : Nat) (Po : Option Value → xHp → Prop) (L r : List Value) (hp : xHp) : (xV k_Rule_value (l, d + 1, b, lo, gz, n0, s0, m_Rule_value, Po) 93 L (.int x1 :: .ref x0 :: r) hp) = (2 ≤ List.length (.int x1 :: .ref x0 :: r) ∧ xcs r 8 ∧ xMi l d b lo gz m_So_at [.ref x0, .int x1] hp (fun x hp' => xV k_Rule_value (l, d + 1, b, lo, gz, n0, s0, m_Rule_value, Po) 96 L (.int x :: r) hp')) := xVe _ _ _ _ _ _
theorem s_Rule_value_96 (x : Int32) (C : xCx) (L r : List Value) (hp : xHp) : (xV k_Rule_value C 96 L (.int x :: r) hp) = (xV k_Rule_value C 97 L (.int (-x) :: r) hp) := xVe _ _ _ _ _ _
theorem s_Rule_value_97 (x0 : Nat) (x1 : Int32) (x2 : Int32) (l : Launch) (d b lo gz n0 s0 : Nat) (Po : Option Value → xHp → Prop) (L r : List Value) (hp : xHp) : (xV k_Rule_value (l, d + 1, b, lo, gz, n0, s0, m_Rule_value, Po) 97 L (.int x2 :: .int x1 :: .ref x0 :: r) hp) = (3 ≤ List.length (.int x2 :: .int x1 :: .ref x0 :: r) ∧ xcs r 8 ∧ xMv l d b lo gz m_So_put [.ref x0, .int x1, .int x2] hp (fun hp' => xV k_Rule_value (l, d + 1, b, lo, gz, n0, s0, m_Rule_value, Po) 100 L r hp')) := xVe _ _ _ _ _ _
theorem s_Rule_value_100 (C : xCx) (L r : List Value) (hp : xHp) : (xV k_Rule_value C 100 L r hp) = (xV k_Rule_value C 143 L r hp) := xVe _ _ _ _ _ _
theorem s_Rule_value_103 (C : xCx) (r : List Value) (hp : xHp) (x : Int32) (a0 a1 a3 a4 a5 : Value) : (xV k_Rule_value C 103 [a0, a1, .int x, a3, a4, a5] r hp) = (xNl [a0, a1, .int x, a3, a4, a5] 2 ∧ xV k_Rule_value C 106 [a0, a1, .int (x + (-1)), a3, a4, a5] r hp) := xVe _ _ _ _ _ _
theorem s_Rule_value_106 (C : xCx) (r : List Value) (hp : xHp) (x : Nat) (a1 a2 a3 a4 a5 : Value) : (xV k_Rule_value C 106 [.ref x, a1, a2, a3, a4, a5] r hp) = (True ∧ xV k_Rule_value C 107 [.ref x, a1, a2, a3, a4, a5] (.ref x :: r) hp) := xVe _ _ _ _ _ _
theorem s_Rule_value_107 (a : Nat) (C : xCx) (L r : List Value) (hp : xHp) : (xV k_Rule_value C 107 L (.ref a :: r) hp) = (xF hp a 8 2 (fun v => xV k_Rule_value C 110 L (v :: r) hp)) := xVe _ _ _ _ _ _
theorem s_Rule_value_110 (C : xCx) (r : List Value) (hp : xHp) (x : Int32) (a0 a1 a3 a4 a5 : Value) : (xV k_Rule_value C 110 [a0, a1, .int x, a3, a4, a5] r hp) = (xV k_Rule_value C 111 [a0, a1, .int x, a3, a4, a5] (.int x :: r) hp) := xVe _ _ _ _ _ _
theorem s_Rule_value_111  (C : xCx) (L r : List Value) (hp : xHp) : (xV k_Rule_value C 111 L (r) hp) = (xV k_Rule_value C 112 L (.int (1) :: r) hp) := xVe _ _ _ _ _ _
theorem s_Rule_value_112 (x y : Int32) (C : xCx) (L r : List Value) (hp : xHp) : (xV k_Rule_value C 112 L (.int y :: .int x :: r) hp) = (xV k_Rule_value C 113 L (.int (x - y) :: r) hp) := xVe _ _ _ _ _ _
theorem s_Rule_value_113 (x0 : Nat) (x1 : Int32) (l : Launch) (d b lo gz n0 s0 : Nat) (Po : Option Value → xHp → Prop) (L r : List Value) (hp : xHp) : (xV k_Rule_value (l, d + 1, b, lo, gz, n0, s0, m_Rule_value, Po) 113 L (.int x1 :: .ref x0 :: r) hp) = (2 ≤ List.length (.int x1 :: .ref x0 :: r) ∧ xcs r 8 ∧ xMi l d b lo gz m_So_at [.ref x0, .int x1] hp (fun x hp' => xV k_Rule_value (l, d + 1, b, lo, gz, n0, s0, m_Rule_value, Po) 116 L (.int x :: r) hp')) := xVe _ _ _ _ _ _
theorem s_Rule_value_116 (C : xCx) (r : List Value) (hp : xHp) (x : Int32) (a0 a1 a2 a3 a4 a5 : Value) : (xV k_Rule_value C 116 [a0, a1, a2, a3, a4, a5] (.int x :: r) hp) = (5 < 6 ∧ xNl [a0, a1, a2, a3, a4, a5] 5 ∧ xV k_Rule_value C 118 [a0, a1, a2, a3, a4, .int x] r hp) := xVe _ _ _ _ _ _
theorem s_Rule_value_118 (C : xCx) (r : List Value) (hp : xHp) (x : Nat) (a1 a2 a3 a4 a5 : Value) : (xV k_Rule_value C 118 [.ref x, a1, a2, a3, a4, a5] r hp) = (True ∧ xV k_Rule_value C 119 [.ref x, a1, a2, a3, a4, a5] (.ref x :: r) hp) := xVe _ _ _ _ _ _
theorem s_Rule_value_119 (a : Nat) (C : xCx) (L r : List Value) (hp : xHp) : (xV k_Rule_value C 119 L (.ref a :: r) hp) = (xF hp a 8 2 (fun v => xV k_Rule_value C 122 L (v :: r) hp)) := xVe _ _ _ _ _ _
theorem s_Rule_value_122 (C : xCx) (r : List Value) (hp : xHp) (x : Int32) (a0 a1 a3 a4 a5 : Value) : (xV k_Rule_value C 122 [a0, a1, .int x, a3, a4, a5] r hp) = (xV k_Rule_value C 123 [a0, a1, .int x, a3, a4, a5] (.int x :: r) hp) := xVe _ _ _ _ _ _
theorem s_Rule_value_123  (C : xCx) (L r : List Value) (hp : xHp) : (xV k_Rule_value C 123 L (r) hp) = (xV k_Rule_value C 124 L (.int (1) :: r) hp) := xVe _ _ _ _ _ _
theorem s_Rule_value_124 (x y : Int32) (C : xCx) (L r : List Value) (hp : xHp) : (xV k_Rule_value C 124 L (.int y :: .int x :: r) hp) = (xV k_Rule_value C 125 L (.int (x - y) :: r) hp) := xVe _ _ _ _ _ _
theorem s_Rule_value_125 (C : xCx) (r : List Value) (hp : xHp) (x : Int32) (a0 a1 a2 a3 a5 : Value) : (xV k_Rule_value C 125 [a0, a1, a2, a3, .int x, a5] r hp) = (xV k_Rule_value C 127 [a0, a1, a2, a3, .int x, a5] (.int x :: r) hp) := xVe _ _ _ _ _ _
theorem s_Rule_value_127 (C : xCx) (r : List Value) (hp : xHp) (x : Int32) (a0 a1 a2 a3 a4 : Value) : (xV k_Rule_value C 127 [a0, a1, a2, a3, a4, .int x] r hp) = (xV k_Rule_value C 129 [a0, a1, a2, a3, a4, .int x] (.int x :: r) hp) := xVe _ _ _ _ _ _
theorem s_Rule_value_129 (C : xCx) (r : List Value) (hp : xHp) (x : Nat) (a1 a2 a3 a4 a5 : Value) : (xV k_Rule_value C 129 [.ref x, a1, a2, a3, a4, a5] r hp) = (True ∧ xV k_Rule_value C 130 [.ref x, a1, a2, a3, a4, a5] (.ref x :: r) hp) := xVe _ _ _ _ _ _
theorem s_Rule_value_130 (a : Nat) (C : xCx) (L r : List Value) (hp : xHp) : (xV k_Rule_value C 130 L (.ref a :: r) hp) = (xF hp a 8 2 (fun v => xV k_Rule_value C 133 L (v :: r) hp)) := xVe _ _ _ _ _ _
theorem s_Rule_value_133 (C : xCx) (r : List Value) (hp : xHp) (x : Int32) (a0 a1 a3 a4 a5 : Value) : (xV k_Rule_value C 133 [a0, a1, .int x, a3, a4, a5] r hp) = (xV k_Rule_value C 134 [a0, a1, .int x, a3, a4, a5] (.int x :: r) hp) := xVe _ _ _ _ _ _
theorem s_Rule_value_134 (x0 : Nat) (x1 : Int32) (l : Launch) (d b lo gz n0 s0 : Nat) (Po : Option Value → xHp → Prop) (L r : List Value) (hp : xHp) : (xV k_Rule_value (l, d + 1, b, lo, gz, n0, s0, m_Rule_value, Po) 134 L (.int x1 :: .ref x0 :: r) hp) = (2 ≤ List.length (.int x1 :: .ref x0 :: r) ∧ xcs r 8 ∧ xMi l d b lo gz m_So_at [.ref x0, .int x1] hp (fun x hp' => xV k_Rule_value (l, d + 1, b, lo, gz, n0, s0, m_Rule_value, Po) 137 L (.int x :: r) hp')) := xVe _ _ _ _ _ _
theorem s_Rule_value_137 (x0 : Int32) (x1 : Int32) (x2 : Int32) (l : Launch) (d b lo gz n0 s0 : Nat) (Po : Option Value → xHp → Prop) (L r : List Value) (hp : xHp) : (xV k_Rule_value (l, d + 1, b, lo, gz, n0, s0, m_Rule_value, Po) 137 L (.int x2 :: .int x1 :: .int x0 :: r) hp) = (3 ≤ List.length (.int x2 :: .int x1 :: .int x0 :: r) ∧ xcs r 8 ∧ xMi l d b lo gz m_Rule_reckon [.int x0, .int x1, .int x2] hp (fun x hp' => xV k_Rule_value (l, d + 1, b, lo, gz, n0, s0, m_Rule_value, Po) 140 L (.int x :: r) hp')) := xVe _ _ _ _ _ _
theorem s_Rule_value_140 (x0 : Nat) (x1 : Int32) (x2 : Int32) (l : Launch) (d b lo gz n0 s0 : Nat) (Po : Option Value → xHp → Prop) (L r : List Value) (hp : xHp) : (xV k_Rule_value (l, d + 1, b, lo, gz, n0, s0, m_Rule_value, Po) 140 L (.int x2 :: .int x1 :: .ref x0 :: r) hp) = (3 ≤ List.length (.int x2 :: .int x1 :: .ref x0 :: r) ∧ xcs r 8 ∧ xMv l d b lo gz m_So_put [.ref x0, .int x1, .int x2] hp (fun hp' => xV k_Rule_value (l, d + 1, b, lo, gz, n0, s0, m_Rule_value, Po) 143 L r hp')) := xVe _ _ _ _ _ _
theorem s_Rule_value_143 (C : xCx) (r : List Value) (hp : xHp) (x : Int32) (a0 a1 a2 a4 a5 : Value) : (xV k_Rule_value C 143 [a0, a1, a2, .int x, a4, a5] r hp) = (xNl [a0, a1, a2, .int x, a4, a5] 3 ∧ xV k_Rule_value C 146 [a0, a1, a2, .int (x + (1)), a4, a5] r hp) := xVe _ _ _ _ _ _
theorem s_Rule_value_146 (C : xCx) (L r : List Value) (hp : xHp) : (xV k_Rule_value C 146 L r hp) = (xV k_Rule_value C 4 L r hp) := xVe _ _ _ _ _ _
theorem s_Rule_value_149 (C : xCx) (r : List Value) (hp : xHp) (x : Nat) (a1 a2 a3 a4 a5 : Value) : (xV k_Rule_value C 149 [.ref x, a1, a2, a3, a4, a5] r hp) = (True ∧ xV k_Rule_value C 150 [.ref x, a1, a2, a3, a4, a5] (.ref x :: r) hp) := xVe _ _ _ _ _ _
theorem s_Rule_value_150 (a : Nat) (C : xCx) (L r : List Value) (hp : xHp) : (xV k_Rule_value C 150 L (.ref a :: r) hp) = (xF hp a 8 2 (fun v => xV k_Rule_value C 153 L (v :: r) hp)) := xVe _ _ _ _ _ _
theorem s_Rule_value_153  (C : xCx) (L r : List Value) (hp : xHp) : (xV k_Rule_value C 153 L (r) hp) = (xV k_Rule_value C 154 L (.int (0) :: r) hp) := xVe _ _ _ _ _ _
theorem s_Rule_value_154 (x0 : Nat) (x1 : Int32) (l : Launch) (d b lo gz n0 s0 : Nat) (Po : Option Value → xHp → Prop) (L r : List Value) (hp : xHp) : (xV k_Rule_value (l, d + 1, b, lo, gz, n0, s0, m_Rule_value, Po) 154 L (.int x1 :: .ref x0 :: r) hp) = (2 ≤ List.length (.int x1 :: .ref x0 :: r) ∧ xcs r 8 ∧ xMi l d b lo gz m_So_at [.ref x0, .int x1] hp (fun x hp' => xV k_Rule_value (l, d + 1, b, lo, gz, n0, s0, m_Rule_value, Po) 157 L (.int x :: r) hp')) := xVe _ _ _ _ _ _
theorem s_Rule_value_157 (v : Int32) (l : Launch) (d b lo gz n0 s0 : Nat) (Po : Option Value → xHp → Prop) (L : List Value) (hp : xHp) : (xV k_Rule_value (l, d, b, lo, gz, n0, s0, m_Rule_value, Po) 157 L [.int v] hp) = (Po (some (.int v)) hp) := xVe _ _ _ _ _ _
def k_Rule_reckon : List xEC := [
  (0, .iload_n 0, 1, 0, 0, 0, m_x),
  (1, .tableswitch 100 (-17) (-11) #[88, 84, 80, 76, 65, 54, 43], 44, 0, 0, 0, m_x),
  (44, .iload_n 1, 45, 0, 0, 0, m_x),
  (45, .iload_n 2, 46, 0, 0, 0, m_x),
  (46, .if_icmp .ge 7, 49, 0, 53, 0, m_x),
  (49, .iconst 1, 50, 0, 0, 0, m_x),
  (50, .goto 4, 53, 0, 54, 0, m_x),
  (53, .iconst 0, 54, 0, 0, 0, m_x),
  (54, .ireturn, 55, 0, 0, 0, m_x),
  (55, .iload_n 1, 56, 0, 0, 0, m_x),
  (56, .iload_n 2, 57, 0, 0, 0, m_x),
  (57, .if_icmp .le 7, 60, 0, 64, 0, m_x),
  (60, .iconst 1, 61, 0, 0, 0, m_x),
  (61, .goto 4, 64, 0, 65, 0, m_x),
  (64, .iconst 0, 65, 0, 0, 0, m_x),
  (65, .ireturn, 66, 0, 0, 0, m_x),
  (66, .iload_n 1, 67, 0, 0, 0, m_x),
  (67, .iload_n 2, 68, 0, 0, 0, m_x),
  (68, .if_icmp .ne 7, 71, 0, 75, 0, m_x),
  (71, .iconst 1, 72, 0, 0, 0, m_x),
  (72, .goto 4, 75, 0, 76, 0, m_x),
  (75, .iconst 0, 76, 0, 0, 0, m_x),
  (76, .ireturn, 77, 0, 0, 0, m_x),
  (77, .iload_n 1, 78, 0, 0, 0, m_x),
  (78, .iload_n 2, 79, 0, 0, 0, m_x),
  (79, .iadd, 80, 0, 0, 0, m_x),
  (80, .ireturn, 81, 0, 0, 0, m_x),
  (81, .iload_n 1, 82, 0, 0, 0, m_x),
  (82, .iload_n 2, 83, 0, 0, 0, m_x),
  (83, .isub, 84, 0, 0, 0, m_x),
  (84, .ireturn, 85, 0, 0, 0, m_x),
  (85, .iload_n 1, 86, 0, 0, 0, m_x),
  (86, .iload_n 2, 87, 0, 0, 0, m_x),
  (87, .imul, 88, 0, 0, 0, m_x),
  (88, .ireturn, 89, 0, 0, 0, m_x),
  (89, .iload_n 2, 90, 0, 0, 0, m_x),
  (90, .ifCond .eq 9, 93, 0, 99, 0, m_x),
  (93, .iload_n 1, 94, 0, 0, 0, m_x),
  (94, .iload_n 2, 95, 0, 0, 0, m_x),
  (95, .idiv, 96, 0, 0, 0, m_x),
  (96, .goto 4, 99, 0, 100, 0, m_x),
  (99, .iconst 0, 100, 0, 0, 0, m_x),
  (100, .ireturn, 101, 0, 0, 0, m_x),
  (101, .iconst 0, 102, 0, 0, 0, m_x),
  (102, .ireturn, 103, 0, 0, 0, m_x)]
theorem dc_Rule_reckon : ∀ E ∈ k_Rule_reckon, xDc m_Rule_reckon E := by decide +kernel
set_option maxRecDepth 20000 in
theorem ok_Rule_reckon : ∀ E ∈ k_Rule_reckon, xOk m_Rule_reckon E := xok_of dc_Rule_reckon (xfc trivial (xfc (show (-2147483648 : Int) ≤ (-17) ∧ (-17) + ((#[88, 84, 80, 76, 65, 54, 43] : Array Int).size : Int) ≤ 2147483648 ∧ (-11 : Int) = (-17) + ((#[88, 84, 80, 76, 65, 54, 43] : Array Int).size : Int) - 1 ∧ (0 : Int) ≤ ((1 : Nat) : Int) + (100) ∧ ∀ o ∈ (#[88, 84, 80, 76, 65, 54, 43] : Array Int).toList, (0 : Int) ≤ ((1 : Nat) : Int) + o from by decide) (xfc trivial (xfc trivial (xfc (show ((46 : Nat) : Int) + (7) = ((53 : Nat) : Int) from by decide) (xfc trivial (xfc (show ((50 : Nat) : Int) + (4) = ((54 : Nat) : Int) from by decide) (xfc trivial (xfc trivial (xfc trivial (xfc trivial (xfc (show ((57 : Nat) : Int) + (7) = ((64 : Nat) : Int) from by decide) (xfc trivial (xfc (show ((61 : Nat) : Int) + (4) = ((65 : Nat) : Int) from by decide) (xfc trivial (xfc trivial (xfc trivial (xfc trivial (xfc (show ((68 : Nat) : Int) + (7) = ((75 : Nat) : Int) from by decide) (xfc trivial (xfc (show ((72 : Nat) : Int) + (4) = ((76 : Nat) : Int) from by decide) (xfc trivial (xfc trivial (xfc trivial (xfc trivial (xfc trivial (xfc trivial (xfc trivial (xfc trivial (xfc trivial (xfc trivial (xfc trivial (xfc trivial (xfc trivial (xfc trivial (xfc trivial (xfc (show ((90 : Nat) : Int) + (9) = ((99 : Nat) : Int) from by decide) (xfc trivial (xfc trivial (xfc trivial (xfc (show ((96 : Nat) : Int) + (4) = ((100 : Nat) : Int) from by decide) (xfc trivial (xfc trivial (xfc trivial (xfc trivial (xfn))))))))))))))))))))))))))))))))))))))))))))))
theorem s_Rule_reckon_0 (C : xCx) (r : List Value) (hp : xHp) (x : Int32) (a1 a2 : Value) : (xV k_Rule_reckon C 0 [.int x, a1, a2] r hp) = (xV k_Rule_reckon C 1 [.int x, a1, a2] (.int x :: r) hp) := xVe _ _ _ _ _ _
theorem s_Rule_reckon_1 (x : Int32) (C : xCx) (L r : List Value) (hp : xHp) : (xV k_Rule_reckon C 1 L (.int x :: r) hp) = (((x = (-17) → xV k_Rule_reckon C 89 L r hp) ∧ (¬ x = (-17) → ((x = (-16) → xV k_Rule_reckon C 85 L r hp) ∧ (¬ x = (-16) → ((x = (-15) → xV k_Rule_reckon C 81 L r hp) ∧ (¬ x = (-15) → ((x = (-14) → xV k_Rule_reckon C 77 L r hp) ∧ (¬ x = (-14) → ((x = (-13) → xV k_Rule_reckon C 66 L r hp) ∧ (¬ x = (-13) → ((x = (-12) → xV k_Rule_reckon C 55 L r hp) ∧ (¬ x = (-12) → ((x = (-11) → xV k_Rule_reckon C 44 L r hp) ∧ (¬ x = (-11) → xV k_Rule_reckon C 101 L r hp))))))))))))))) := xVe _ _ _ _ _ _
theorem s_Rule_reckon_44 (C : xCx) (r : List Value) (hp : xHp) (x : Int32) (a0 a2 : Value) : (xV k_Rule_reckon C 44 [a0, .int x, a2] r hp) = (xV k_Rule_reckon C 45 [a0, .int x, a2] (.int x :: r) hp) := xVe _ _ _ _ _ _
theorem s_Rule_reckon_45 (C : xCx) (r : List Value) (hp : xHp) (x : Int32) (a0 a1 : Value) : (xV k_Rule_reckon C 45 [a0, a1, .int x] r hp) = (xV k_Rule_reckon C 46 [a0, a1, .int x] (.int x :: r) hp) := xVe _ _ _ _ _ _
theorem s_Rule_reckon_46 (x y : Int32) (C : xCx) (L r : List Value) (hp : xHp) : (xV k_Rule_reckon C 46 L (.int y :: .int x :: r) hp) = (((y ≤ x → xV k_Rule_reckon C 53 L r hp) ∧ (¬ y ≤ x → xV k_Rule_reckon C 49 L r hp))) := xVe _ _ _ _ _ _
theorem s_Rule_reckon_49  (C : xCx) (L r : List Value) (hp : xHp) : (xV k_Rule_reckon C 49 L (r) hp) = (xV k_Rule_reckon C 50 L (.int (1) :: r) hp) := xVe _ _ _ _ _ _
theorem s_Rule_reckon_50 (C : xCx) (L r : List Value) (hp : xHp) : (xV k_Rule_reckon C 50 L r hp) = (xV k_Rule_reckon C 54 L r hp) := xVe _ _ _ _ _ _
theorem s_Rule_reckon_53  (C : xCx) (L r : List Value) (hp : xHp) : (xV k_Rule_reckon C 53 L (r) hp) = (xV k_Rule_reckon C 54 L (.int (0) :: r) hp) := xVe _ _ _ _ _ _
theorem s_Rule_reckon_54 (v : Int32) (l : Launch) (d b lo gz n0 s0 : Nat) (Po : Option Value → xHp → Prop) (L : List Value) (hp : xHp) : (xV k_Rule_reckon (l, d, b, lo, gz, n0, s0, m_Rule_reckon, Po) 54 L [.int v] hp) = (Po (some (.int v)) hp) := xVe _ _ _ _ _ _
theorem s_Rule_reckon_55 (C : xCx) (r : List Value) (hp : xHp) (x : Int32) (a0 a2 : Value) : (xV k_Rule_reckon C 55 [a0, .int x, a2] r hp) = (xV k_Rule_reckon C 56 [a0, .int x, a2] (.int x :: r) hp) := xVe _ _ _ _ _ _
theorem s_Rule_reckon_56 (C : xCx) (r : List Value) (hp : xHp) (x : Int32) (a0 a1 : Value) : (xV k_Rule_reckon C 56 [a0, a1, .int x] r hp) = (xV k_Rule_reckon C 57 [a0, a1, .int x] (.int x :: r) hp) := xVe _ _ _ _ _ _
theorem s_Rule_reckon_57 (x y : Int32) (C : xCx) (L r : List Value) (hp : xHp) : (xV k_Rule_reckon C 57 L (.int y :: .int x :: r) hp) = (((x ≤ y → xV k_Rule_reckon C 64 L r hp) ∧ (¬ x ≤ y → xV k_Rule_reckon C 60 L r hp))) := xVe _ _ _ _ _ _
theorem s_Rule_reckon_60  (C : xCx) (L r : List Value) (hp : xHp) : (xV k_Rule_reckon C 60 L (r) hp) = (xV k_Rule_reckon C 61 L (.int (1) :: r) hp) := xVe _ _ _ _ _ _
theorem s_Rule_reckon_61 (C : xCx) (L r : List Value) (hp : xHp) : (xV k_Rule_reckon C 61 L r hp) = (xV k_Rule_reckon C 65 L r hp) := xVe _ _ _ _ _ _
theorem s_Rule_reckon_64  (C : xCx) (L r : List Value) (hp : xHp) : (xV k_Rule_reckon C 64 L (r) hp) = (xV k_Rule_reckon C 65 L (.int (0) :: r) hp) := xVe _ _ _ _ _ _
theorem s_Rule_reckon_65 (v : Int32) (l : Launch) (d b lo gz n0 s0 : Nat) (Po : Option Value → xHp → Prop) (L : List Value) (hp : xHp) : (xV k_Rule_reckon (l, d, b, lo, gz, n0, s0, m_Rule_reckon, Po) 65 L [.int v] hp) = (Po (some (.int v)) hp) := xVe _ _ _ _ _ _
theorem s_Rule_reckon_66 (C : xCx) (r : List Value) (hp : xHp) (x : Int32) (a0 a2 : Value) : (xV k_Rule_reckon C 66 [a0, .int x, a2] r hp) = (xV k_Rule_reckon C 67 [a0, .int x, a2] (.int x :: r) hp) := xVe _ _ _ _ _ _
theorem s_Rule_reckon_67 (C : xCx) (r : List Value) (hp : xHp) (x : Int32) (a0 a1 : Value) : (xV k_Rule_reckon C 67 [a0, a1, .int x] r hp) = (xV k_Rule_reckon C 68 [a0, a1, .int x] (.int x :: r) hp) := xVe _ _ _ _ _ _
theorem s_Rule_reckon_68 (x y : Int32) (C : xCx) (L r : List Value) (hp : xHp) : (xV k_Rule_reckon C 68 L (.int y :: .int x :: r) hp) = (((¬ x = y → xV k_Rule_reckon C 75 L r hp) ∧ (x = y → xV k_Rule_reckon C 71 L r hp))) := xVe _ _ _ _ _ _
theorem s_Rule_reckon_71  (C : xCx) (L r : List Value) (hp : xHp) : (xV k_Rule_reckon C 71 L (r) hp) = (xV k_Rule_reckon C 72 L (.int (1) :: r) hp) := xVe _ _ _ _ _ _
theorem s_Rule_reckon_72 (C : xCx) (L r : List Value) (hp : xHp) : (xV k_Rule_reckon C 72 L r hp) = (xV k_Rule_reckon C 76 L r hp) := xVe _ _ _ _ _ _
theorem s_Rule_reckon_75  (C : xCx) (L r : List Value) (hp : xHp) : (xV k_Rule_reckon C 75 L (r) hp) = (xV k_Rule_reckon C 76 L (.int (0) :: r) hp) := xVe _ _ _ _ _ _
theorem s_Rule_reckon_76 (v : Int32) (l : Launch) (d b lo gz n0 s0 : Nat) (Po : Option Value → xHp → Prop) (L : List Value) (hp : xHp) : (xV k_Rule_reckon (l, d, b, lo, gz, n0, s0, m_Rule_reckon, Po) 76 L [.int v] hp) = (Po (some (.int v)) hp) := xVe _ _ _ _ _ _
theorem s_Rule_reckon_77 (C : xCx) (r : List Value) (hp : xHp) (x : Int32) (a0 a2 : Value) : (xV k_Rule_reckon C 77 [a0, .int x, a2] r hp) = (xV k_Rule_reckon C 78 [a0, .int x, a2] (.int x :: r) hp) := xVe _ _ _ _ _ _
theorem s_Rule_reckon_78 (C : xCx) (r : List Value) (hp : xHp) (x : Int32) (a0 a1 : Value) : (xV k_Rule_reckon C 78 [a0, a1, .int x] r hp) = (xV k_Rule_reckon C 79 [a0, a1, .int x] (.int x :: r) hp) := xVe _ _ _ _ _ _
theorem s_Rule_reckon_79 (x y : Int32) (C : xCx) (L r : List Value) (hp : xHp) : (xV k_Rule_reckon C 79 L (.int y :: .int x :: r) hp) = (xV k_Rule_reckon C 80 L (.int (x + y) :: r) hp) := xVe _ _ _ _ _ _
theorem s_Rule_reckon_80 (v : Int32) (l : Launch) (d b lo gz n0 s0 : Nat) (Po : Option Value → xHp → Prop) (L : List Value) (hp : xHp) : (xV k_Rule_reckon (l, d, b, lo, gz, n0, s0, m_Rule_reckon, Po) 80 L [.int v] hp) = (Po (some (.int v)) hp) := xVe _ _ _ _ _ _
theorem s_Rule_reckon_81 (C : xCx) (r : List Value) (hp : xHp) (x : Int32) (a0 a2 : Value) : (xV k_Rule_reckon C 81 [a0, .int x, a2] r hp) = (xV k_Rule_reckon C 82 [a0, .int x, a2] (.int x :: r) hp) := xVe _ _ _ _ _ _
theorem s_Rule_reckon_82 (C : xCx) (r : List Value) (hp : xHp) (x : Int32) (a0 a1 : Value) : (xV k_Rule_reckon C 82 [a0, a1, .int x] r hp) = (xV k_Rule_reckon C 83 [a0, a1, .int x] (.int x :: r) hp) := xVe _ _ _ _ _ _
theorem s_Rule_reckon_83 (x y : Int32) (C : xCx) (L r : List Value) (hp : xHp) : (xV k_Rule_reckon C 83 L (.int y :: .int x :: r) hp) = (xV k_Rule_reckon C 84 L (.int (x - y) :: r) hp) := xVe _ _ _ _ _ _
theorem s_Rule_reckon_84 (v : Int32) (l : Launch) (d b lo gz n0 s0 : Nat) (Po : Option Value → xHp → Prop) (L : List Value) (hp : xHp) : (xV k_Rule_reckon (l, d, b, lo, gz, n0, s0, m_Rule_reckon, Po) 84 L [.int v] hp) = (Po (some (.int v)) hp) := xVe _ _ _ _ _ _
theorem s_Rule_reckon_85 (C : xCx) (r : List Value) (hp : xHp) (x : Int32) (a0 a2 : Value) : (xV k_Rule_reckon C 85 [a0, .int x, a2] r hp) = (xV k_Rule_reckon C 86 [a0, .int x, a2] (.int x :: r) hp) := xVe _ _ _ _ _ _
theorem s_Rule_reckon_86 (C : xCx) (r : List Value) (hp : xHp) (x : Int32) (a0 a1 : Value) : (xV k_Rule_reckon C 86 [a0, a1, .int x] r hp) = (xV k_Rule_reckon C 87 [a0, a1, .int x] (.int x :: r) hp) := xVe _ _ _ _ _ _
theorem s_Rule_reckon_87 (x y : Int32) (C : xCx) (L r : List Value) (hp : xHp) : (xV k_Rule_reckon C 87 L (.int y :: .int x :: r) hp) = (xV k_Rule_reckon C 88 L (.int (x * y) :: r) hp) := xVe _ _ _ _ _ _
theorem s_Rule_reckon_88 (v : Int32) (l : Launch) (d b lo gz n0 s0 : Nat) (Po : Option Value → xHp → Prop) (L : List Value) (hp : xHp) : (xV k_Rule_reckon (l, d, b, lo, gz, n0, s0, m_Rule_reckon, Po) 88 L [.int v] hp) = (Po (some (.int v)) hp) := xVe _ _ _ _ _ _
theorem s_Rule_reckon_89 (C : xCx) (r : List Value) (hp : xHp) (x : Int32) (a0 a1 : Value) : (xV k_Rule_reckon C 89 [a0, a1, .int x] r hp) = (xV k_Rule_reckon C 90 [a0, a1, .int x] (.int x :: r) hp) := xVe _ _ _ _ _ _
theorem s_Rule_reckon_90 (x : Int32) (C : xCx) (L r : List Value) (hp : xHp) : (xV k_Rule_reckon C 90 L (.int x :: r) hp) = (((x = 0 → xV k_Rule_reckon C 99 L r hp) ∧ (¬ x = 0 → xV k_Rule_reckon C 93 L r hp))) := xVe _ _ _ _ _ _
theorem s_Rule_reckon_93 (C : xCx) (r : List Value) (hp : xHp) (x : Int32) (a0 a2 : Value) : (xV k_Rule_reckon C 93 [a0, .int x, a2] r hp) = (xV k_Rule_reckon C 94 [a0, .int x, a2] (.int x :: r) hp) := xVe _ _ _ _ _ _
theorem s_Rule_reckon_94 (C : xCx) (r : List Value) (hp : xHp) (x : Int32) (a0 a1 : Value) : (xV k_Rule_reckon C 94 [a0, a1, .int x] r hp) = (xV k_Rule_reckon C 95 [a0, a1, .int x] (.int x :: r) hp) := xVe _ _ _ _ _ _
theorem s_Rule_reckon_95 (x y : Int32) (C : xCx) (L r : List Value) (hp : xHp) : (xV k_Rule_reckon C 95 L (.int y :: .int x :: r) hp) = (¬ y = 0 ∧ xV k_Rule_reckon C 96 L (.int (x / y) :: r) hp) := xVe _ _ _ _ _ _
theorem s_Rule_reckon_96 (C : xCx) (L r : List Value) (hp : xHp) : (xV k_Rule_reckon C 96 L r hp) = (xV k_Rule_reckon C 100 L r hp) := xVe _ _ _ _ _ _
theorem s_Rule_reckon_99  (C : xCx) (L r : List Value) (hp : xHp) : (xV k_Rule_reckon C 99 L (r) hp) = (xV k_Rule_reckon C 100 L (.int (0) :: r) hp) := xVe _ _ _ _ _ _
theorem s_Rule_reckon_100 (v : Int32) (l : Launch) (d b lo gz n0 s0 : Nat) (Po : Option Value → xHp → Prop) (L : List Value) (hp : xHp) : (xV k_Rule_reckon (l, d, b, lo, gz, n0, s0, m_Rule_reckon, Po) 100 L [.int v] hp) = (Po (some (.int v)) hp) := xVe _ _ _ _ _ _
theorem s_Rule_reckon_101  (C : xCx) (L r : List Value) (hp : xHp) : (xV k_Rule_reckon C 101 L (r) hp) = (xV k_Rule_reckon C 102 L (.int (0) :: r) hp) := xVe _ _ _ _ _ _
theorem s_Rule_reckon_102 (v : Int32) (l : Launch) (d b lo gz n0 s0 : Nat) (Po : Option Value → xHp → Prop) (L : List Value) (hp : xHp) : (xV k_Rule_reckon (l, d, b, lo, gz, n0, s0, m_Rule_reckon, Po) 102 L [.int v] hp) = (Po (some (.int v)) hp) := xVe _ _ _ _ _ _
def k_Sun_hoursOf : List xEC := [
  (0, .aload_n 1, 1, 0, 0, 0, m_x),
  (1, .iload_n 2, 2, 0, 0, 0, m_x),
  (2, .invokevirtual 52, 5, 3, 0, 0, m_Folk_spot),
  (5, .istore_n 3, 6, 0, 0, 0, m_x),
  (6, .aload_n 1, 7, 0, 0, 0, m_x),
  (7, .iload_n 3, 8, 0, 0, 0, m_x),
  (8, .iload_n 2, 9, 0, 0, 0, m_x),
  (9, .invokevirtual 55, 12, 3, 0, 0, m_Folk_othersAt),
  (12, .istore 4, 14, 0, 0, 0, m_x),
  (14, .aload_n 0, 15, 0, 0, 0, m_x),
  (15, .aload_n 0, 16, 0, 0, 0, m_x),
  (16, .getfield 21, 19, 9, 1, 0, m_x),
  (19, .aload_n 1, 20, 0, 0, 0, m_x),
  (20, .iload_n 2, 21, 0, 0, 0, m_x),
  (21, .iload_n 3, 22, 0, 0, 0, m_x),
  (22, .iload 4, 24, 0, 0, 0, m_x),
  (24, .aload_n 0, 25, 0, 0, 0, m_x),
  (25, .getfield 17, 28, 9, 0, 0, m_x),
  (28, .aload_n 1, 29, 0, 0, 0, m_x),
  (29, .invokevirtual 40, 32, 3, 0, 0, m_Folk_day),
  (32, .invokevirtual 59, 35, 4, 0, 0, m_Land_skyOn),
  (35, .invokevirtual 62, 38, 9, 0, 0, m_Sun_hoursBy),
  (38, .ireturn, 39, 0, 0, 0, m_x)]
theorem dc_Sun_hoursOf : ∀ E ∈ k_Sun_hoursOf, xDc m_Sun_hoursOf E := by decide +kernel
set_option maxRecDepth 20000 in
theorem ok_Sun_hoursOf : ∀ E ∈ k_Sun_hoursOf, xOk m_Sun_hoursOf E := xok_of dc_Sun_hoursOf (xfc trivial (xfc trivial (xfc ⟨ml_Sun_52, kd_Folk_spot⟩ (xfc trivial (xfc trivial (xfc trivial (xfc trivial (xfc ⟨ml_Sun_55, kd_Folk_othersAt⟩ (xfc trivial (xfc trivial (xfc trivial (xfc fl_Sun_21 (xfc trivial (xfc trivial (xfc trivial (xfc trivial (xfc trivial (xfc fl_Sun_17 (xfc trivial (xfc ⟨ml_Sun_40, kd_Folk_day⟩ (xfc ⟨ml_Sun_59, kd_Land_skyOn⟩ (xfc ⟨ml_Sun_62, kd_Sun_hoursBy⟩ (xfc trivial (xfn))))))))))))))))))))))))
theorem s_Sun_hoursOf_0 (C : xCx) (r : List Value) (hp : xHp) (x : Nat) (a0 a2 a3 a4 : Value) : (xV k_Sun_hoursOf C 0 [a0, .ref x, a2, a3, a4] r hp) = (True ∧ xV k_Sun_hoursOf C 1 [a0, .ref x, a2, a3, a4] (.ref x :: r) hp) := xVe _ _ _ _ _ _
theorem s_Sun_hoursOf_1 (C : xCx) (r : List Value) (hp : xHp) (x : Int32) (a0 a1 a3 a4 : Value) : (xV k_Sun_hoursOf C 1 [a0, a1, .int x, a3, a4] r hp) = (xV k_Sun_hoursOf C 2 [a0, a1, .int x, a3, a4] (.int x :: r) hp) := xVe _ _ _ _ _ _
theorem s_Sun_hoursOf_2 (x0 : Int32) (a : Nat) (l : Launch) (d b lo gz n0 s0 : Nat) (Po : Option Value → xHp → Prop) (L r : List Value) (hp : xHp) : (xV k_Sun_hoursOf (l, d + 1, b, lo, gz, n0, s0, m_Sun_hoursOf, Po) 2 L (.int x0 :: .ref a :: r) hp) = (xO hp a 3 ∧ xcs r 8 ∧ xMi l d b lo gz m_Folk_spot [.ref a, .int x0] hp (fun x hp' => xV k_Sun_hoursOf (l, d + 1, b, lo, gz, n0, s0, m_Sun_hoursOf, Po) 5 L (.int x :: r) hp')) := xVe _ _ _ _ _ _
theorem s_Sun_hoursOf_5 (C : xCx) (r : List Value) (hp : xHp) (x : Int32) (a0 a1 a2 a3 a4 : Value) : (xV k_Sun_hoursOf C 5 [a0, a1, a2, a3, a4] (.int x :: r) hp) = (3 < 5 ∧ xNl [a0, a1, a2, a3, a4] 3 ∧ xV k_Sun_hoursOf C 6 [a0, a1, a2, .int x, a4] r hp) := xVe _ _ _ _ _ _
theorem s_Sun_hoursOf_6 (C : xCx) (r : List Value) (hp : xHp) (x : Nat) (a0 a2 a3 a4 : Value) : (xV k_Sun_hoursOf C 6 [a0, .ref x, a2, a3, a4] r hp) = (True ∧ xV k_Sun_hoursOf C 7 [a0, .ref x, a2, a3, a4] (.ref x :: r) hp) := xVe _ _ _ _ _ _
theorem s_Sun_hoursOf_7 (C : xCx) (r : List Value) (hp : xHp) (x : Int32) (a0 a1 a2 a4 : Value) : (xV k_Sun_hoursOf C 7 [a0, a1, a2, .int x, a4] r hp) = (xV k_Sun_hoursOf C 8 [a0, a1, a2, .int x, a4] (.int x :: r) hp) := xVe _ _ _ _ _ _
theorem s_Sun_hoursOf_8 (C : xCx) (r : List Value) (hp : xHp) (x : Int32) (a0 a1 a3 a4 : Value) : (xV k_Sun_hoursOf C 8 [a0, a1, .int x, a3, a4] r hp) = (xV k_Sun_hoursOf C 9 [a0, a1, .int x, a3, a4] (.int x :: r) hp) := xVe _ _ _ _ _ _
theorem s_Sun_hoursOf_9 (x0 : Int32) (x1 : Int32) (a : Nat) (l : Launch) (d b lo gz n0 s0 : Nat) (Po : Option Value → xHp → Prop) (L r : List Value) (hp : xHp) : (xV k_Sun_hoursOf (l, d + 1, b, lo, gz, n0, s0, m_Sun_hoursOf, Po) 9 L (.int x1 :: .int x0 :: .ref a :: r) hp) = (xO hp a 3 ∧ xcs r 8 ∧ xMi l d b lo gz m_Folk_othersAt [.ref a, .int x0, .int x1] hp (fun x hp' => xV k_Sun_hoursOf (l, d + 1, b, lo, gz, n0, s0, m_Sun_hoursOf, Po) 12 L (.int x :: r) hp')) := xVe _ _ _ _ _ _
theorem s_Sun_hoursOf_12 (C : xCx) (r : List Value) (hp : xHp) (x : Int32) (a0 a1 a2 a3 a4 : Value) : (xV k_Sun_hoursOf C 12 [a0, a1, a2, a3, a4] (.int x :: r) hp) = (4 < 5 ∧ xNl [a0, a1, a2, a3, a4] 4 ∧ xV k_Sun_hoursOf C 14 [a0, a1, a2, a3, .int x] r hp) := xVe _ _ _ _ _ _
theorem s_Sun_hoursOf_14 (C : xCx) (r : List Value) (hp : xHp) (x : Nat) (a1 a2 a3 a4 : Value) : (xV k_Sun_hoursOf C 14 [.ref x, a1, a2, a3, a4] r hp) = (True ∧ xV k_Sun_hoursOf C 15 [.ref x, a1, a2, a3, a4] (.ref x :: r) hp) := xVe _ _ _ _ _ _
theorem s_Sun_hoursOf_15 (C : xCx) (r : List Value) (hp : xHp) (x : Nat) (a1 a2 a3 a4 : Value) : (xV k_Sun_hoursOf C 15 [.ref x, a1, a2, a3, a4] r hp) = (True ∧ xV k_Sun_hoursOf C 16 [.ref x, a1, a2, a3, a4] (.ref x :: r) hp) := xVe _ _ _ _ _ _
theorem s_Sun_hoursOf_16 (a : Nat) (C : xCx) (L r : List Value) (hp : xHp) : (xV k_Sun_hoursOf C 16 L (.ref a :: r) hp) = (xF hp a 9 1 (fun v => xV k_Sun_hoursOf C 19 L (v :: r) hp)) := xVe _ _ _ _ _ _
theorem s_Sun_hoursOf_19 (C : xCx) (r : List Value) (hp : xHp) (x : Nat) (a0 a2 a3 a4 : Value) : (xV k_Sun_hoursOf C 19 [a0, .ref x, a2, a3, a4] r hp) = (True ∧ xV k_Sun_hoursOf C 20 [a0, .ref x, a2, a3, a4] (.ref x :: r) hp) := xVe _ _ _ _ _ _
theorem s_Sun_hoursOf_20 (C : xCx) (r : List Value) (hp : xHp) (x : Int32) (a0 a1 a3 a4 : Value) : (xV k_Sun_hoursOf C 20 [a0, a1, .int x, a3, a4] r hp) = (xV k_Sun_hoursOf C 21 [a0, a1, .int x, a3, a4] (.int x :: r) hp) := xVe _ _ _ _ _ _
theorem s_Sun_hoursOf_21 (C : xCx) (r : List Value) (hp : xHp) (x : Int32) (a0 a1 a2 a4 : Value) : (xV k_Sun_hoursOf C 21 [a0, a1, a2, .int x, a4] r hp) = (xV k_Sun_hoursOf C 22 [a0, a1, a2, .int x, a4] (.int x :: r) hp) := xVe _ _ _ _ _ _
theorem s_Sun_hoursOf_22 (C : xCx) (r : List Value) (hp : xHp) (x : Int32) (a0 a1 a2 a3 : Value) : (xV k_Sun_hoursOf C 22 [a0, a1, a2, a3, .int x] r hp) = (xV k_Sun_hoursOf C 24 [a0, a1, a2, a3, .int x] (.int x :: r) hp) := xVe _ _ _ _ _ _
theorem s_Sun_hoursOf_24 (C : xCx) (r : List Value) (hp : xHp) (x : Nat) (a1 a2 a3 a4 : Value) : (xV k_Sun_hoursOf C 24 [.ref x, a1, a2, a3, a4] r hp) = (True ∧ xV k_Sun_hoursOf C 25 [.ref x, a1, a2, a3, a4] (.ref x :: r) hp) := xVe _ _ _ _ _ _
theorem s_Sun_hoursOf_25 (a : Nat) (C : xCx) (L r : List Value) (hp : xHp) : (xV k_Sun_hoursOf C 25 L (.ref a :: r) hp) = (xF hp a 9 0 (fun v => xV k_Sun_hoursOf C 28 L (v :: r) hp)) := xVe _ _ _ _ _ _
theorem s_Sun_hoursOf_28 (C : xCx) (r : List Value) (hp : xHp) (x : Nat) (a0 a2 a3 a4 : Value) : (xV k_Sun_hoursOf C 28 [a0, .ref x, a2, a3, a4] r hp) = (True ∧ xV k_Sun_hoursOf C 29 [a0, .ref x, a2, a3, a4] (.ref x :: r) hp) := xVe _ _ _ _ _ _
theorem s_Sun_hoursOf_29 (a : Nat) (l : Launch) (d b lo gz n0 s0 : Nat) (Po : Option Value → xHp → Prop) (L r : List Value) (hp : xHp) : (xV k_Sun_hoursOf (l, d + 1, b, lo, gz, n0, s0, m_Sun_hoursOf, Po) 29 L (.ref a :: r) hp) = (xO hp a 3 ∧ xcs r 8 ∧ xMi l d b lo gz m_Folk_day [.ref a] hp (fun x hp' => xV k_Sun_hoursOf (l, d + 1, b, lo, gz, n0, s0, m_Sun_hoursOf, Po) 32 L (.int x :: r) hp')) := xVe _ _ _ _ _ _
theorem s_Sun_hoursOf_32 (x0 : Int32) (a : Nat) (l : Launch) (d b lo gz n0 s0 : Nat) (Po : Option Value → xHp → Prop) (L r : List Value) (hp : xHp) : (xV k_Sun_hoursOf (l, d + 1, b, lo, gz, n0, s0, m_Sun_hoursOf, Po) 32 L (.int x0 :: .ref a :: r) hp) = (xO hp a 4 ∧ xcs r 8 ∧ xMi l d b lo gz m_Land_skyOn [.ref a, .int x0] hp (fun x hp' => xV k_Sun_hoursOf (l, d + 1, b, lo, gz, n0, s0, m_Sun_hoursOf, Po) 35 L (.int x :: r) hp')) := xVe _ _ _ _ _ _
theorem s_Sun_hoursOf_35 (x0 : Nat) (x1 : Nat) (x2 : Int32) (x3 : Int32) (x4 : Int32) (x5 : Int32) (a : Nat) (l : Launch) (d b lo gz n0 s0 : Nat) (Po : Option Value → xHp → Prop) (L r : List Value) (hp : xHp) : (xV k_Sun_hoursOf (l, d + 1, b, lo, gz, n0, s0, m_Sun_hoursOf, Po) 35 L (.int x5 :: .int x4 :: .int x3 :: .int x2 :: .ref x1 :: .ref x0 :: .ref a :: r) hp) = (xO hp a 9 ∧ xcs r 8 ∧ xMi l d b lo gz m_Sun_hoursBy [.ref a, .ref x0, .ref x1, .int x2, .int x3, .int x4, .int x5] hp (fun x hp' => xV k_Sun_hoursOf (l, d + 1, b, lo, gz, n0, s0, m_Sun_hoursOf, Po) 38 L (.int x :: r) hp')) := xVe _ _ _ _ _ _
theorem s_Sun_hoursOf_38 (v : Int32) (l : Launch) (d b lo gz n0 s0 : Nat) (Po : Option Value → xHp → Prop) (L : List Value) (hp : xHp) : (xV k_Sun_hoursOf (l, d, b, lo, gz, n0, s0, m_Sun_hoursOf, Po) 38 L [.int v] hp) = (Po (some (.int v)) hp) := xVe _ _ _ _ _ _
theorem ml_Sun_69 : xLk "SunnyOnes$Sun" 69 m_Sun_hoursOf := Or.inl (wg3 238 (by decide +kernel) rfl)
def k_Sun_dayFor : List xEC := [
  (0, .aload_n 0, 1, 0, 0, 0, m_x),
  (1, .aload_n 1, 2, 0, 0, 0, m_x),
  (2, .iload_n 2, 3, 0, 0, 0, m_x),
  (3, .invokevirtual 69, 6, 9, 0, 0, m_Sun_hoursOf),
  (6, .istore_n 3, 7, 0, 0, 0, m_x),
  (7, .aload_n 1, 8, 0, 0, 0, m_x),
  (8, .iload_n 2, 9, 0, 0, 0, m_x),
  (9, .iload_n 3, 10, 0, 0, 0, m_x),
  (10, .invokevirtual 73, 13, 3, 0, 0, m_Folk_grow),
  (13, .aload_n 1, 14, 0, 0, 0, m_x),
  (14, .aload_n 1, 15, 0, 0, 0, m_x),
  (15, .invokevirtual 40, 18, 3, 0, 0, m_Folk_day),
  (18, .iconst 1, 19, 0, 0, 0, m_x),
  (19, .iadd, 20, 0, 0, 0, m_x),
  (20, .invokevirtual 77, 23, 3, 0, 0, m_Folk_setDay),
  (23, .iload_n 3, 24, 0, 0, 0, m_x),
  (24, .ireturn, 25, 0, 0, 0, m_x)]
theorem dc_Sun_dayFor : ∀ E ∈ k_Sun_dayFor, xDc m_Sun_dayFor E := by decide +kernel
set_option maxRecDepth 20000 in
theorem ok_Sun_dayFor : ∀ E ∈ k_Sun_dayFor, xOk m_Sun_dayFor E := xok_of dc_Sun_dayFor (xfc trivial (xfc trivial (xfc trivial (xfc ⟨ml_Sun_69, kd_Sun_hoursOf⟩ (xfc trivial (xfc trivial (xfc trivial (xfc trivial (xfc ⟨ml_Sun_73, kd_Folk_grow⟩ (xfc trivial (xfc trivial (xfc ⟨ml_Sun_40, kd_Folk_day⟩ (xfc trivial (xfc trivial (xfc ⟨ml_Sun_77, kd_Folk_setDay⟩ (xfc trivial (xfc trivial (xfn))))))))))))))))))
theorem s_Sun_dayFor_0 (C : xCx) (r : List Value) (hp : xHp) (x : Nat) (a1 a2 a3 : Value) : (xV k_Sun_dayFor C 0 [.ref x, a1, a2, a3] r hp) = (True ∧ xV k_Sun_dayFor C 1 [.ref x, a1, a2, a3] (.ref x :: r) hp) := xVe _ _ _ _ _ _
theorem s_Sun_dayFor_1 (C : xCx) (r : List Value) (hp : xHp) (x : Nat) (a0 a2 a3 : Value) : (xV k_Sun_dayFor C 1 [a0, .ref x, a2, a3] r hp) = (True ∧ xV k_Sun_dayFor C 2 [a0, .ref x, a2, a3] (.ref x :: r) hp) := xVe _ _ _ _ _ _
theorem s_Sun_dayFor_2 (C : xCx) (r : List Value) (hp : xHp) (x : Int32) (a0 a1 a3 : Value) : (xV k_Sun_dayFor C 2 [a0, a1, .int x, a3] r hp) = (xV k_Sun_dayFor C 3 [a0, a1, .int x, a3] (.int x :: r) hp) := xVe _ _ _ _ _ _
theorem s_Sun_dayFor_3 (x0 : Nat) (x1 : Int32) (a : Nat) (l : Launch) (d b lo gz n0 s0 : Nat) (Po : Option Value → xHp → Prop) (L r : List Value) (hp : xHp) : (xV k_Sun_dayFor (l, d + 1, b, lo, gz, n0, s0, m_Sun_dayFor, Po) 3 L (.int x1 :: .ref x0 :: .ref a :: r) hp) = (xO hp a 9 ∧ xcs r 8 ∧ xMi l d b lo gz m_Sun_hoursOf [.ref a, .ref x0, .int x1] hp (fun x hp' => xV k_Sun_dayFor (l, d + 1, b, lo, gz, n0, s0, m_Sun_dayFor, Po) 6 L (.int x :: r) hp')) := xVe _ _ _ _ _ _
theorem s_Sun_dayFor_6 (C : xCx) (r : List Value) (hp : xHp) (x : Int32) (a0 a1 a2 a3 : Value) : (xV k_Sun_dayFor C 6 [a0, a1, a2, a3] (.int x :: r) hp) = (3 < 4 ∧ xNl [a0, a1, a2, a3] 3 ∧ xV k_Sun_dayFor C 7 [a0, a1, a2, .int x] r hp) := xVe _ _ _ _ _ _
theorem s_Sun_dayFor_7 (C : xCx) (r : List Value) (hp : xHp) (x : Nat) (a0 a2 a3 : Value) : (xV k_Sun_dayFor C 7 [a0, .ref x, a2, a3] r hp) = (True ∧ xV k_Sun_dayFor C 8 [a0, .ref x, a2, a3] (.ref x :: r) hp) := xVe _ _ _ _ _ _
theorem s_Sun_dayFor_8 (C : xCx) (r : List Value) (hp : xHp) (x : Int32) (a0 a1 a3 : Value) : (xV k_Sun_dayFor C 8 [a0, a1, .int x, a3] r hp) = (xV k_Sun_dayFor C 9 [a0, a1, .int x, a3] (.int x :: r) hp) := xVe _ _ _ _ _ _
theorem s_Sun_dayFor_9 (C : xCx) (r : List Value) (hp : xHp) (x : Int32) (a0 a1 a2 : Value) : (xV k_Sun_dayFor C 9 [a0, a1, a2, .int x] r hp) = (xV k_Sun_dayFor C 10 [a0, a1, a2, .int x] (.int x :: r) hp) := xVe _ _ _ _ _ _
theorem s_Sun_dayFor_10 (x0 : Int32) (x1 : Int32) (a : Nat) (l : Launch) (d b lo gz n0 s0 : Nat) (Po : Option Value → xHp → Prop) (L r : List Value) (hp : xHp) : (xV k_Sun_dayFor (l, d + 1, b, lo, gz, n0, s0, m_Sun_dayFor, Po) 10 L (.int x1 :: .int x0 :: .ref a :: r) hp) = (xO hp a 3 ∧ xcs r 8 ∧ xMv l d b lo gz m_Folk_grow [.ref a, .int x0, .int x1] hp (fun hp' => xV k_Sun_dayFor (l, d + 1, b, lo, gz, n0, s0, m_Sun_dayFor, Po) 13 L r hp')) := xVe _ _ _ _ _ _
theorem s_Sun_dayFor_13 (C : xCx) (r : List Value) (hp : xHp) (x : Nat) (a0 a2 a3 : Value) : (xV k_Sun_dayFor C 13 [a0, .ref x, a2, a3] r hp) = (True ∧ xV k_Sun_dayFor C 14 [a0, .ref x, a2, a3] (.ref x :: r) hp) := xVe _ _ _ _ _ _
theorem s_Sun_dayFor_14 (C : xCx) (r : List Value) (hp : xHp) (x : Nat) (a0 a2 a3 : Value) : (xV k_Sun_dayFor C 14 [a0, .ref x, a2, a3] r hp) = (True ∧ xV k_Sun_dayFor C 15 [a0, .ref x, a2, a3] (.ref x :: r) hp) := xVe _ _ _ _ _ _
theorem s_Sun_dayFor_15 (a : Nat) (l : Launch) (d b lo gz n0 s0 : Nat) (Po : Option Value → xHp → Prop) (L r : List Value) (hp : xHp) : (xV k_Sun_dayFor (l, d + 1, b, lo, gz, n0, s0, m_Sun_dayFor, Po) 15 L (.ref a :: r) hp) = (xO hp a 3 ∧ xcs r 8 ∧ xMi l d b lo gz m_Folk_day [.ref a] hp (fun x hp' => xV k_Sun_dayFor (l, d + 1, b, lo, gz, n0, s0, m_Sun_dayFor, Po) 18 L (.int x :: r) hp')) := xVe _ _ _ _ _ _
theorem s_Sun_dayFor_18  (C : xCx) (L r : List Value) (hp : xHp) : (xV k_Sun_dayFor C 18 L (r) hp) = (xV k_Sun_dayFor C 19 L (.int (1) :: r) hp) := xVe _ _ _ _ _ _
theorem s_Sun_dayFor_19 (x y : Int32) (C : xCx) (L r : List Value) (hp : xHp) : (xV k_Sun_dayFor C 19 L (.int y :: .int x :: r) hp) = (xV k_Sun_dayFor C 20 L (.int (x + y) :: r) hp) := xVe _ _ _ _ _ _
theorem s_Sun_dayFor_20 (x0 : Int32) (a : Nat) (l : Launch) (d b lo gz n0 s0 : Nat) (Po : Option Value → xHp → Prop) (L r : List Value) (hp : xHp) : (xV k_Sun_dayFor (l, d + 1, b, lo, gz, n0, s0, m_Sun_dayFor, Po) 20 L (.int x0 :: .ref a :: r) hp) = (xO hp a 3 ∧ xcs r 8 ∧ xMv l d b lo gz m_Folk_setDay [.ref a, .int x0] hp (fun hp' => xV k_Sun_dayFor (l, d + 1, b, lo, gz, n0, s0, m_Sun_dayFor, Po) 23 L r hp')) := xVe _ _ _ _ _ _
theorem s_Sun_dayFor_23 (C : xCx) (r : List Value) (hp : xHp) (x : Int32) (a0 a1 a2 : Value) : (xV k_Sun_dayFor C 23 [a0, a1, a2, .int x] r hp) = (xV k_Sun_dayFor C 24 [a0, a1, a2, .int x] (.int x :: r) hp) := xVe _ _ _ _ _ _
theorem s_Sun_dayFor_24 (v : Int32) (l : Launch) (d b lo gz n0 s0 : Nat) (Po : Option Value → xHp → Prop) (L : List Value) (hp : xHp) : (xV k_Sun_dayFor (l, d, b, lo, gz, n0, s0, m_Sun_dayFor, Po) 24 L [.int v] hp) = (Po (some (.int v)) hp) := xVe _ _ _ _ _ _
def k_Sun_dayForTwo : List xEC := [
  (0, .aload_n 1, 1, 0, 0, 0, m_x),
  (1, .iload_n 2, 2, 0, 0, 0, m_x),
  (2, .aload_n 0, 3, 0, 0, 0, m_x),
  (3, .aload_n 1, 4, 0, 0, 0, m_x),
  (4, .iload_n 2, 5, 0, 0, 0, m_x),
  (5, .invokevirtual 69, 8, 9, 0, 0, m_Sun_hoursOf),
  (8, .invokevirtual 73, 11, 3, 0, 0, m_Folk_grow),
  (11, .aload_n 1, 12, 0, 0, 0, m_x),
  (12, .iload_n 3, 13, 0, 0, 0, m_x),
  (13, .aload_n 0, 14, 0, 0, 0, m_x),
  (14, .aload_n 1, 15, 0, 0, 0, m_x),
  (15, .iload_n 3, 16, 0, 0, 0, m_x),
  (16, .invokevirtual 69, 19, 9, 0, 0, m_Sun_hoursOf),
  (19, .invokevirtual 73, 22, 3, 0, 0, m_Folk_grow),
  (22, .aload_n 1, 23, 0, 0, 0, m_x),
  (23, .aload_n 1, 24, 0, 0, 0, m_x),
  (24, .invokevirtual 40, 27, 3, 0, 0, m_Folk_day),
  (27, .iconst 1, 28, 0, 0, 0, m_x),
  (28, .iadd, 29, 0, 0, 0, m_x),
  (29, .invokevirtual 77, 32, 3, 0, 0, m_Folk_setDay),
  (32, .return_, 33, 0, 0, 0, m_x)]
theorem dc_Sun_dayForTwo : ∀ E ∈ k_Sun_dayForTwo, xDc m_Sun_dayForTwo E := by decide +kernel
set_option maxRecDepth 20000 in
theorem ok_Sun_dayForTwo : ∀ E ∈ k_Sun_dayForTwo, xOk m_Sun_dayForTwo E := xok_of dc_Sun_dayForTwo (xfc trivial (xfc trivial (xfc trivial (xfc trivial (xfc trivial (xfc ⟨ml_Sun_69, kd_Sun_hoursOf⟩ (xfc ⟨ml_Sun_73, kd_Folk_grow⟩ (xfc trivial (xfc trivial (xfc trivial (xfc trivial (xfc trivial (xfc ⟨ml_Sun_69, kd_Sun_hoursOf⟩ (xfc ⟨ml_Sun_73, kd_Folk_grow⟩ (xfc trivial (xfc trivial (xfc ⟨ml_Sun_40, kd_Folk_day⟩ (xfc trivial (xfc trivial (xfc ⟨ml_Sun_77, kd_Folk_setDay⟩ (xfc trivial (xfn))))))))))))))))))))))
theorem s_Sun_dayForTwo_0 (C : xCx) (r : List Value) (hp : xHp) (x : Nat) (a0 a2 a3 : Value) : (xV k_Sun_dayForTwo C 0 [a0, .ref x, a2, a3] r hp) = (True ∧ xV k_Sun_dayForTwo C 1 [a0, .ref x, a2, a3] (.ref x :: r) hp) := xVe _ _ _ _ _ _
theorem s_Sun_dayForTwo_1 (C : xCx) (r : List Value) (hp : xHp) (x : Int32) (a0 a1 a3 : Value) : (xV k_Sun_dayForTwo C 1 [a0, a1, .int x, a3] r hp) = (xV k_Sun_dayForTwo C 2 [a0, a1, .int x, a3] (.int x :: r) hp) := xVe _ _ _ _ _ _
theorem s_Sun_dayForTwo_2 (C : xCx) (r : List Value) (hp : xHp) (x : Nat) (a1 a2 a3 : Value) : (xV k_Sun_dayForTwo C 2 [.ref x, a1, a2, a3] r hp) = (True ∧ xV k_Sun_dayForTwo C 3 [.ref x, a1, a2, a3] (.ref x :: r) hp) := xVe _ _ _ _ _ _
theorem s_Sun_dayForTwo_3 (C : xCx) (r : List Value) (hp : xHp) (x : Nat) (a0 a2 a3 : Value) : (xV k_Sun_dayForTwo C 3 [a0, .ref x, a2, a3] r hp) = (True ∧ xV k_Sun_dayForTwo C 4 [a0, .ref x, a2, a3] (.ref x :: r) hp) := xVe _ _ _ _ _ _
theorem s_Sun_dayForTwo_4 (C : xCx) (r : List Value) (hp : xHp) (x : Int32) (a0 a1 a3 : Value) : (xV k_Sun_dayForTwo C 4 [a0, a1, .int x, a3] r hp) = (xV k_Sun_dayForTwo C 5 [a0, a1, .int x, a3] (.int x :: r) hp) := xVe _ _ _ _ _ _
theorem s_Sun_dayForTwo_5 (x0 : Nat) (x1 : Int32) (a : Nat) (l : Launch) (d b lo gz n0 s0 : Nat) (Po : Option Value → xHp → Prop) (L r : List Value) (hp : xHp) : (xV k_Sun_dayForTwo (l, d + 1, b, lo, gz, n0, s0, m_Sun_dayForTwo, Po) 5 L (.int x1 :: .ref x0 :: .ref a :: r) hp) = (xO hp a 9 ∧ xcs r 8 ∧ xMi l d b lo gz m_Sun_hoursOf [.ref a, .ref x0, .int x1] hp (fun x hp' => xV k_Sun_dayForTwo (l, d + 1, b, lo, gz, n0, s0, m_Sun_dayForTwo, Po) 8 L (.int x :: r) hp')) := xVe _ _ _ _ _ _
theorem s_Sun_dayForTwo_8 (x0 : Int32) (x1 : Int32) (a : Nat) (l : Launch) (d b lo gz n0 s0 : Nat) (Po : Option Value → xHp → Prop) (L r : List Value) (hp : xHp) : (xV k_Sun_dayForTwo (l, d + 1, b, lo, gz, n0, s0, m_Sun_dayForTwo, Po) 8 L (.int x1 :: .int x0 :: .ref a :: r) hp) = (xO hp a 3 ∧ xcs r 8 ∧ xMv l d b lo gz m_Folk_grow [.ref a, .int x0, .int x1] hp (fun hp' => xV k_Sun_dayForTwo (l, d + 1, b, lo, gz, n0, s0, m_Sun_dayForTwo, Po) 11 L r hp')) := xVe _ _ _ _ _ _
theorem s_Sun_dayForTwo_11 (C : xCx) (r : List Value) (hp : xHp) (x : Nat) (a0 a2 a3 : Value) : (xV k_Sun_dayForTwo C 11 [a0, .ref x, a2, a3] r hp) = (True ∧ xV k_Sun_dayForTwo C 12 [a0, .ref x, a2, a3] (.ref x :: r) hp) := xVe _ _ _ _ _ _
theorem s_Sun_dayForTwo_12 (C : xCx) (r : List Value) (hp : xHp) (x : Int32) (a0 a1 a2 : Value) : (xV k_Sun_dayForTwo C 12 [a0, a1, a2, .int x] r hp) = (xV k_Sun_dayForTwo C 13 [a0, a1, a2, .int x] (.int x :: r) hp) := xVe _ _ _ _ _ _
theorem s_Sun_dayForTwo_13 (C : xCx) (r : List Value) (hp : xHp) (x : Nat) (a1 a2 a3 : Value) : (xV k_Sun_dayForTwo C 13 [.ref x, a1, a2, a3] r hp) = (True ∧ xV k_Sun_dayForTwo C 14 [.ref x, a1, a2, a3] (.ref x :: r) hp) := xVe _ _ _ _ _ _
theorem s_Sun_dayForTwo_14 (C : xCx) (r : List Value) (hp : xHp) (x : Nat) (a0 a2 a3 : Value) : (xV k_Sun_dayForTwo C 14 [a0, .ref x, a2, a3] r hp) = (True ∧ xV k_Sun_dayForTwo C 15 [a0, .ref x, a2, a3] (.ref x :: r) hp) := xVe _ _ _ _ _ _
theorem s_Sun_dayForTwo_15 (C : xCx) (r : List Value) (hp : xHp) (x : Int32) (a0 a1 a2 : Value) : (xV k_Sun_dayForTwo C 15 [a0, a1, a2, .int x] r hp) = (xV k_Sun_dayForTwo C 16 [a0, a1, a2, .int x] (.int x :: r) hp) := xVe _ _ _ _ _ _
theorem s_Sun_dayForTwo_16 (x0 : Nat) (x1 : Int32) (a : Nat) (l : Launch) (d b lo gz n0 s0 : Nat) (Po : Option Value → xHp → Prop) (L r : List Value) (hp : xHp) : (xV k_Sun_dayForTwo (l, d + 1, b, lo, gz, n0, s0, m_Sun_dayForTwo, Po) 16 L (.int x1 :: .ref x0 :: .ref a :: r) hp) = (xO hp a 9 ∧ xcs r 8 ∧ xMi l d b lo gz m_Sun_hoursOf [.ref a, .ref x0, .int x1] hp (fun x hp' => xV k_Sun_dayForTwo (l, d + 1, b, lo, gz, n0, s0, m_Sun_dayForTwo, Po) 19 L (.int x :: r) hp')) := xVe _ _ _ _ _ _
theorem s_Sun_dayForTwo_19 (x0 : Int32) (x1 : Int32) (a : Nat) (l : Launch) (d b lo gz n0 s0 : Nat) (Po : Option Value → xHp → Prop) (L r : List Value) (hp : xHp) : (xV k_Sun_dayForTwo (l, d + 1, b, lo, gz, n0, s0, m_Sun_dayForTwo, Po) 19 L (.int x1 :: .int x0 :: .ref a :: r) hp) = (xO hp a 3 ∧ xcs r 8 ∧ xMv l d b lo gz m_Folk_grow [.ref a, .int x0, .int x1] hp (fun hp' => xV k_Sun_dayForTwo (l, d + 1, b, lo, gz, n0, s0, m_Sun_dayForTwo, Po) 22 L r hp')) := xVe _ _ _ _ _ _
theorem s_Sun_dayForTwo_22 (C : xCx) (r : List Value) (hp : xHp) (x : Nat) (a0 a2 a3 : Value) : (xV k_Sun_dayForTwo C 22 [a0, .ref x, a2, a3] r hp) = (True ∧ xV k_Sun_dayForTwo C 23 [a0, .ref x, a2, a3] (.ref x :: r) hp) := xVe _ _ _ _ _ _
theorem s_Sun_dayForTwo_23 (C : xCx) (r : List Value) (hp : xHp) (x : Nat) (a0 a2 a3 : Value) : (xV k_Sun_dayForTwo C 23 [a0, .ref x, a2, a3] r hp) = (True ∧ xV k_Sun_dayForTwo C 24 [a0, .ref x, a2, a3] (.ref x :: r) hp) := xVe _ _ _ _ _ _
theorem s_Sun_dayForTwo_24 (a : Nat) (l : Launch) (d b lo gz n0 s0 : Nat) (Po : Option Value → xHp → Prop) (L r : List Value) (hp : xHp) : (xV k_Sun_dayForTwo (l, d + 1, b, lo, gz, n0, s0, m_Sun_dayForTwo, Po) 24 L (.ref a :: r) hp) = (xO hp a 3 ∧ xcs r 8 ∧ xMi l d b lo gz m_Folk_day [.ref a] hp (fun x hp' => xV k_Sun_dayForTwo (l, d + 1, b, lo, gz, n0, s0, m_Sun_dayForTwo, Po) 27 L (.int x :: r) hp')) := xVe _ _ _ _ _ _
theorem s_Sun_dayForTwo_27  (C : xCx) (L r : List Value) (hp : xHp) : (xV k_Sun_dayForTwo C 27 L (r) hp) = (xV k_Sun_dayForTwo C 28 L (.int (1) :: r) hp) := xVe _ _ _ _ _ _
theorem s_Sun_dayForTwo_28 (x y : Int32) (C : xCx) (L r : List Value) (hp : xHp) : (xV k_Sun_dayForTwo C 28 L (.int y :: .int x :: r) hp) = (xV k_Sun_dayForTwo C 29 L (.int (x + y) :: r) hp) := xVe _ _ _ _ _ _
theorem s_Sun_dayForTwo_29 (x0 : Int32) (a : Nat) (l : Launch) (d b lo gz n0 s0 : Nat) (Po : Option Value → xHp → Prop) (L r : List Value) (hp : xHp) : (xV k_Sun_dayForTwo (l, d + 1, b, lo, gz, n0, s0, m_Sun_dayForTwo, Po) 29 L (.int x0 :: .ref a :: r) hp) = (xO hp a 3 ∧ xcs r 8 ∧ xMv l d b lo gz m_Folk_setDay [.ref a, .int x0] hp (fun hp' => xV k_Sun_dayForTwo (l, d + 1, b, lo, gz, n0, s0, m_Sun_dayForTwo, Po) 32 L r hp')) := xVe _ _ _ _ _ _
theorem s_Sun_dayForTwo_32 (l : Launch) (d b lo gz n0 s0 : Nat) (Po : Option Value → xHp → Prop) (L : List Value) (hp : xHp) : (xV k_Sun_dayForTwo (l, d, b, lo, gz, n0, s0, m_Sun_dayForTwo, Po) 32 L [] hp) = (Po (none) hp) := xVe _ _ _ _ _ _
theorem ml_Walk_49 : xLk "SunnyOnes$Walk" 49 m_Walk_start := Or.inl (wg4 57 (by decide +kernel) rfl)
theorem ml_Walk_53 : xLk "SunnyOnes$Walk" 53 m_Walk_reaches := Or.inl (wg4 62 (by decide +kernel) rfl)
def k_Walk_comesTo : List xEC := [
  (0, .aload_n 0, 1, 0, 0, 0, m_x),
  (1, .iload_n 1, 2, 0, 0, 0, m_x),
  (2, .iload_n 2, 3, 0, 0, 0, m_x),
  (3, .iload_n 3, 4, 0, 0, 0, m_x),
  (4, .invokevirtual 49, 7, 11, 0, 0, m_Walk_start),
  (7, .aload_n 0, 8, 0, 0, 0, m_x),
  (8, .iconst 0, 9, 0, 0, 0, m_x),
  (9, .invokevirtual 53, 12, 11, 0, 0, m_Walk_reaches),
  (12, .ireturn, 13, 0, 0, 0, m_x)]
theorem dc_Walk_comesTo : ∀ E ∈ k_Walk_comesTo, xDc m_Walk_comesTo E := by decide +kernel
set_option maxRecDepth 20000 in
theorem ok_Walk_comesTo : ∀ E ∈ k_Walk_comesTo, xOk m_Walk_comesTo E := xok_of dc_Walk_comesTo (xfc trivial (xfc trivial (xfc trivial (xfc trivial (xfc ⟨ml_Walk_49, kd_Walk_start⟩ (xfc trivial (xfc trivial (xfc ⟨ml_Walk_53, kd_Walk_reaches⟩ (xfc trivial (xfn))))))))))
theorem s_Walk_comesTo_0 (C : xCx) (r : List Value) (hp : xHp) (x : Nat) (a1 a2 a3 : Value) : (xV k_Walk_comesTo C 0 [.ref x, a1, a2, a3] r hp) = (True ∧ xV k_Walk_comesTo C 1 [.ref x, a1, a2, a3] (.ref x :: r) hp) := xVe _ _ _ _ _ _
theorem s_Walk_comesTo_1 (C : xCx) (r : List Value) (hp : xHp) (x : Int32) (a0 a2 a3 : Value) : (xV k_Walk_comesTo C 1 [a0, .int x, a2, a3] r hp) = (xV k_Walk_comesTo C 2 [a0, .int x, a2, a3] (.int x :: r) hp) := xVe _ _ _ _ _ _
theorem s_Walk_comesTo_2 (C : xCx) (r : List Value) (hp : xHp) (x : Int32) (a0 a1 a3 : Value) : (xV k_Walk_comesTo C 2 [a0, a1, .int x, a3] r hp) = (xV k_Walk_comesTo C 3 [a0, a1, .int x, a3] (.int x :: r) hp) := xVe _ _ _ _ _ _
theorem s_Walk_comesTo_3 (C : xCx) (r : List Value) (hp : xHp) (x : Int32) (a0 a1 a2 : Value) : (xV k_Walk_comesTo C 3 [a0, a1, a2, .int x] r hp) = (xV k_Walk_comesTo C 4 [a0, a1, a2, .int x] (.int x :: r) hp) := xVe _ _ _ _ _ _
theorem s_Walk_comesTo_4 (x0 : Int32) (x1 : Int32) (x2 : Int32) (a : Nat) (l : Launch) (d b lo gz n0 s0 : Nat) (Po : Option Value → xHp → Prop) (L r : List Value) (hp : xHp) : (xV k_Walk_comesTo (l, d + 1, b, lo, gz, n0, s0, m_Walk_comesTo, Po) 4 L (.int x2 :: .int x1 :: .int x0 :: .ref a :: r) hp) = (xO hp a 11 ∧ xcs r 8 ∧ xMv l d b lo gz m_Walk_start [.ref a, .int x0, .int x1, .int x2] hp (fun hp' => xV k_Walk_comesTo (l, d + 1, b, lo, gz, n0, s0, m_Walk_comesTo, Po) 7 L r hp')) := xVe _ _ _ _ _ _
theorem s_Walk_comesTo_7 (C : xCx) (r : List Value) (hp : xHp) (x : Nat) (a1 a2 a3 : Value) : (xV k_Walk_comesTo C 7 [.ref x, a1, a2, a3] r hp) = (True ∧ xV k_Walk_comesTo C 8 [.ref x, a1, a2, a3] (.ref x :: r) hp) := xVe _ _ _ _ _ _
theorem s_Walk_comesTo_8  (C : xCx) (L r : List Value) (hp : xHp) : (xV k_Walk_comesTo C 8 L (r) hp) = (xV k_Walk_comesTo C 9 L (.int (0) :: r) hp) := xVe _ _ _ _ _ _
theorem s_Walk_comesTo_9 (x0 : Int32) (a : Nat) (l : Launch) (d b lo gz n0 s0 : Nat) (Po : Option Value → xHp → Prop) (L r : List Value) (hp : xHp) : (xV k_Walk_comesTo (l, d + 1, b, lo, gz, n0, s0, m_Walk_comesTo, Po) 9 L (.int x0 :: .ref a :: r) hp) = (xO hp a 11 ∧ xcs r 8 ∧ xMi l d b lo gz m_Walk_reaches [.ref a, .int x0] hp (fun x hp' => xV k_Walk_comesTo (l, d + 1, b, lo, gz, n0, s0, m_Walk_comesTo, Po) 12 L (.int x :: r) hp')) := xVe _ _ _ _ _ _
theorem s_Walk_comesTo_12 (v : Int32) (l : Launch) (d b lo gz n0 s0 : Nat) (Po : Option Value → xHp → Prop) (L : List Value) (hp : xHp) : (xV k_Walk_comesTo (l, d, b, lo, gz, n0, s0, m_Walk_comesTo, Po) 12 L [.int v] hp) = ((v = 0 ∨ v = 1) ∧ Po (some (.int v)) hp) := xVe _ _ _ _ _ _
theorem fl_Walk_30 : xFl "SunnyOnes$Walk" 30 11 5 := ⟨("SunnyOnes$Walk", F_Walk, 9), rfl, by decide, wg1 205 (by decide +kernel) rfl⟩
theorem fl_Walk_34 : xFl "SunnyOnes$Walk" 34 11 6 := ⟨("SunnyOnes$Walk", F_Walk, 9), rfl, by decide, wg1 206 (by decide +kernel) rfl⟩
theorem ml_Walk_37 : xLk "SunnyOnes$Walk" 37 m_Math_min := Or.inl (wg4 61 (by decide +kernel) rfl)
theorem fl_Walk_43 : xFl "SunnyOnes$Walk" 43 11 7 := ⟨("SunnyOnes$Walk", F_Walk, 9), rfl, by decide, wg1 207 (by decide +kernel) rfl⟩
theorem fl_Walk_46 : xFl "SunnyOnes$Walk" 46 11 8 := ⟨("SunnyOnes$Walk", F_Walk, 9), rfl, by decide, wg1 208 (by decide +kernel) rfl⟩
def k_Walk_start : List xEC := [
  (0, .aload_n 0, 1, 0, 0, 0, m_x),
  (1, .iload_n 1, 2, 0, 0, 0, m_x),
  (2, .putfield 30, 5, 11, 5, 0, m_x),
  (5, .aload_n 0, 6, 0, 0, 0, m_x),
  (6, .iload_n 2, 7, 0, 0, 0, m_x),
  (7, .putfield 34, 10, 11, 6, 0, m_x),
  (10, .aload_n 0, 11, 0, 0, 0, m_x),
  (11, .iload_n 3, 12, 0, 0, 0, m_x),
  (12, .iconst 4, 13, 0, 0, 0, m_x),
  (13, .invokestatic 37, 16, 0, 0, 0, m_Math_min),
  (16, .putfield 43, 19, 11, 7, 0, m_x),
  (19, .aload_n 0, 20, 0, 0, 0, m_x),
  (20, .iconst 0, 21, 0, 0, 0, m_x),
  (21, .putfield 46, 24, 11, 8, 0, m_x),
  (24, .return_, 25, 0, 0, 0, m_x)]
theorem dc_Walk_start : ∀ E ∈ k_Walk_start, xDc m_Walk_start E := by decide +kernel
set_option maxRecDepth 20000 in
theorem ok_Walk_start : ∀ E ∈ k_Walk_start, xOk m_Walk_start E := xok_of dc_Walk_start (xfc trivial (xfc trivial (xfc ⟨fl_Walk_30, fun q h f => by cases h; exact absurd f (by decide)⟩ (xfc trivial (xfc trivial (xfc ⟨fl_Walk_34, fun q h f => by cases h; exact absurd f (by decide)⟩ (xfc trivial (xfc trivial (xfc trivial (xfc ⟨ml_Walk_37, kd_Math_min⟩ (xfc ⟨fl_Walk_43, fun q h f => by cases h; exact absurd f (by decide)⟩ (xfc trivial (xfc trivial (xfc ⟨fl_Walk_46, fun q h f => by cases h; exact absurd f (by decide)⟩ (xfc trivial (xfn))))))))))))))))
theorem s_Walk_start_0 (C : xCx) (r : List Value) (hp : xHp) (x : Nat) (a1 a2 a3 : Value) : (xV k_Walk_start C 0 [.ref x, a1, a2, a3] r hp) = (True ∧ xV k_Walk_start C 1 [.ref x, a1, a2, a3] (.ref x :: r) hp) := xVe _ _ _ _ _ _
theorem s_Walk_start_1 (C : xCx) (r : List Value) (hp : xHp) (x : Int32) (a0 a2 a3 : Value) : (xV k_Walk_start C 1 [a0, .int x, a2, a3] r hp) = (xV k_Walk_start C 2 [a0, .int x, a2, a3] (.int x :: r) hp) := xVe _ _ _ _ _ _
theorem s_Walk_start_2 (x : Int32) (a : Nat) (C : xCx) (L r : List Value) (hp : xHp) : (xV k_Walk_start C 2 L (.int x :: .ref a :: r) hp) = (True ∧ xPf hp a 11 5 (.int x) (fun hp' => xV k_Walk_start C 5 L r hp')) := xVe _ _ _ _ _ _
theorem s_Walk_start_5 (C : xCx) (r : List Value) (hp : xHp) (x : Nat) (a1 a2 a3 : Value) : (xV k_Walk_start C 5 [.ref x, a1, a2, a3] r hp) = (True ∧ xV k_Walk_start C 6 [.ref x, a1, a2, a3] (.ref x :: r) hp) := xVe _ _ _ _ _ _
theorem s_Walk_start_6 (C : xCx) (r : List Value) (hp : xHp) (x : Int32) (a0 a1 a3 : Value) : (xV k_Walk_start C 6 [a0, a1, .int x, a3] r hp) = (xV k_Walk_start C 7 [a0, a1, .int x, a3] (.int x :: r) hp) := xVe _ _ _ _ _ _
theorem s_Walk_start_7 (x : Int32) (a : Nat) (C : xCx) (L r : List Value) (hp : xHp) : (xV k_Walk_start C 7 L (.int x :: .ref a :: r) hp) = (True ∧ xPf hp a 11 6 (.int x) (fun hp' => xV k_Walk_start C 10 L r hp')) := xVe _ _ _ _ _ _
theorem s_Walk_start_10 (C : xCx) (r : List Value) (hp : xHp) (x : Nat) (a1 a2 a3 : Value) : (xV k_Walk_start C 10 [.ref x, a1, a2, a3] r hp) = (True ∧ xV k_Walk_start C 11 [.ref x, a1, a2, a3] (.ref x :: r) hp) := xVe _ _ _ _ _ _
theorem s_Walk_start_11 (C : xCx) (r : List Value) (hp : xHp) (x : Int32) (a0 a1 a2 : Value) : (xV k_Walk_start C 11 [a0, a1, a2, .int x] r hp) = (xV k_Walk_start C 12 [a0, a1, a2, .int x] (.int x :: r) hp) := xVe _ _ _ _ _ _
theorem s_Walk_start_12  (C : xCx) (L r : List Value) (hp : xHp) : (xV k_Walk_start C 12 L (r) hp) = (xV k_Walk_start C 13 L (.int (4) :: r) hp) := xVe _ _ _ _ _ _
theorem s_Walk_start_13 (x0 : Int32) (x1 : Int32) (l : Launch) (d b lo gz n0 s0 : Nat) (Po : Option Value → xHp → Prop) (L r : List Value) (hp : xHp) : (xV k_Walk_start (l, d + 1, b, lo, gz, n0, s0, m_Walk_start, Po) 13 L (.int x1 :: .int x0 :: r) hp) = (2 ≤ List.length (.int x1 :: .int x0 :: r) ∧ xcs r 8 ∧ xMi l d b lo gz m_Math_min [.int x0, .int x1] hp (fun x hp' => xV k_Walk_start (l, d + 1, b, lo, gz, n0, s0, m_Walk_start, Po) 16 L (.int x :: r) hp')) := xVe _ _ _ _ _ _
theorem s_Walk_start_16 (x : Int32) (a : Nat) (C : xCx) (L r : List Value) (hp : xHp) : (xV k_Walk_start C 16 L (.int x :: .ref a :: r) hp) = (True ∧ xPf hp a 11 7 (.int x) (fun hp' => xV k_Walk_start C 19 L r hp')) := xVe _ _ _ _ _ _
theorem s_Walk_start_19 (C : xCx) (r : List Value) (hp : xHp) (x : Nat) (a1 a2 a3 : Value) : (xV k_Walk_start C 19 [.ref x, a1, a2, a3] r hp) = (True ∧ xV k_Walk_start C 20 [.ref x, a1, a2, a3] (.ref x :: r) hp) := xVe _ _ _ _ _ _
theorem s_Walk_start_20  (C : xCx) (L r : List Value) (hp : xHp) : (xV k_Walk_start C 20 L (r) hp) = (xV k_Walk_start C 21 L (.int (0) :: r) hp) := xVe _ _ _ _ _ _
theorem s_Walk_start_21 (x : Int32) (a : Nat) (C : xCx) (L r : List Value) (hp : xHp) : (xV k_Walk_start C 21 L (.int x :: .ref a :: r) hp) = (True ∧ xPf hp a 11 8 (.int x) (fun hp' => xV k_Walk_start C 24 L r hp')) := xVe _ _ _ _ _ _
theorem s_Walk_start_24 (l : Launch) (d b lo gz n0 s0 : Nat) (Po : Option Value → xHp → Prop) (L : List Value) (hp : xHp) : (xV k_Walk_start (l, d, b, lo, gz, n0, s0, m_Walk_start, Po) 24 L [] hp) = (Po (none) hp) := xVe _ _ _ _ _ _
theorem ml_Walk_57 : xLk "SunnyOnes$Walk" 57 m_Folk_age := Or.inl (wg4 66 (by decide +kernel) rfl)
theorem ml_Walk_63 : xLk "SunnyOnes$Walk" 63 m_Walk_leadsNowhere := Or.inl (wg4 67 (by decide +kernel) rfl)
theorem ml_Walk_67 : xLk "SunnyOnes$Walk" 67 m_Land_size := Or.inl (wg4 70 (by decide +kernel) rfl)
theorem ml_Walk_73 : xLk "SunnyOnes$Walk" 73 m_Walk_stay := Or.inl (wg4 71 (by decide +kernel) rfl)
theorem ml_Walk_76 : xLk "SunnyOnes$Walk" 76 m_Walk_back := Or.inl (wg4 83 (by decide +kernel) rfl)
def k_Walk_reaches : List xEC := [
  (0, .aload_n 0, 1, 0, 0, 0, m_x),
  (1, .getfield 26, 4, 11, 2, 0, m_x),
  (4, .aload_n 0, 5, 0, 0, 0, m_x),
  (5, .getfield 30, 8, 11, 5, 0, m_x),
  (8, .invokevirtual 57, 11, 3, 0, 0, m_Folk_age),
  (11, .istore_n 2, 12, 0, 0, 0, m_x),
  (12, .aload_n 0, 13, 0, 0, 0, m_x),
  (13, .getfield 34, 16, 11, 6, 0, m_x),
  (16, .iload_n 2, 17, 0, 0, 0, m_x),
  (17, .isub, 18, 0, 0, 0, m_x),
  (18, .aload_n 0, 19, 0, 0, 0, m_x),
  (19, .getfield 43, 22, 11, 7, 0, m_x),
  (22, .iload_n 1, 23, 0, 0, 0, m_x),
  (23, .isub, 24, 0, 0, 0, m_x),
  (24, .invokestatic 63, 27, 0, 0, 0, m_Walk_leadsNowhere),
  (27, .ifCond .eq 5, 30, 0, 32, 0, m_x),
  (30, .iconst 0, 31, 0, 0, 0, m_x),
  (31, .ireturn, 32, 0, 0, 0, m_x),
  (32, .iload_n 1, 33, 0, 0, 0, m_x),
  (33, .aload_n 0, 34, 0, 0, 0, m_x),
  (34, .getfield 43, 37, 11, 7, 0, m_x),
  (37, .if_icmp .lt 5, 40, 0, 42, 0, m_x),
  (40, .iconst 1, 41, 0, 0, 0, m_x),
  (41, .ireturn, 42, 0, 0, 0, m_x),
  (42, .iconst 0, 43, 0, 0, 0, m_x),
  (43, .istore_n 3, 44, 0, 0, 0, m_x),
  (44, .iload_n 3, 45, 0, 0, 0, m_x),
  (45, .aload_n 0, 46, 0, 0, 0, m_x),
  (46, .getfield 18, 49, 11, 0, 0, m_x),
  (49, .invokevirtual 67, 52, 4, 0, 0, m_Land_size),
  (52, .if_icmp .ge 37, 55, 0, 89, 0, m_x),
  (55, .aload_n 0, 56, 0, 0, 0, m_x),
  (56, .iload_n 1, 57, 0, 0, 0, m_x),
  (57, .iload_n 3, 58, 0, 0, 0, m_x),
  (58, .invokevirtual 73, 61, 11, 0, 0, m_Walk_stay),
  (61, .pop, 62, 0, 0, 0, m_x),
  (62, .aload_n 0, 63, 0, 0, 0, m_x),
  (63, .iload_n 1, 64, 0, 0, 0, m_x),
  (64, .iconst 1, 65, 0, 0, 0, m_x),
  (65, .iadd, 66, 0, 0, 0, m_x),
  (66, .invokevirtual 53, 69, 11, 0, 0, m_Walk_reaches),
  (69, .istore 4, 71, 0, 0, 0, m_x),
  (71, .aload_n 0, 72, 0, 0, 0, m_x),
  (72, .iload_n 2, 73, 0, 0, 0, m_x),
  (73, .invokevirtual 76, 76, 11, 0, 0, m_Walk_back),
  (76, .iload 4, 78, 0, 0, 0, m_x),
  (78, .ifCond .eq 5, 81, 0, 83, 0, m_x),
  (81, .iconst 1, 82, 0, 0, 0, m_x),
  (82, .ireturn, 83, 0, 0, 0, m_x),
  (83, .iinc 3 1, 86, 0, 0, 0, m_x),
  (86, .goto (-42), 89, 0, 44, 0, m_x),
  (89, .iconst 0, 90, 0, 0, 0, m_x),
  (90, .ireturn, 91, 0, 0, 0, m_x)]
theorem dc_Walk_reaches : ∀ E ∈ k_Walk_reaches, xDc m_Walk_reaches E := by decide +kernel
set_option maxRecDepth 20000 in
theorem ok_Walk_reaches : ∀ E ∈ k_Walk_reaches, xOk m_Walk_reaches E := xok_of dc_Walk_reaches (xfc trivial (xfc fl_Walk_26 (xfc trivial (xfc fl_Walk_30 (xfc ⟨ml_Walk_57, kd_Folk_age⟩ (xfc trivial (xfc trivial (xfc fl_Walk_34 (xfc trivial (xfc trivial (xfc trivial (xfc fl_Walk_43 (xfc trivial (xfc trivial (xfc ⟨ml_Walk_63, kd_Walk_leadsNowhere⟩ (xfc (show ((27 : Nat) : Int) + (5) = ((32 : Nat) : Int) from by decide) (xfc trivial (xfc trivial (xfc trivial (xfc trivial (xfc fl_Walk_43 (xfc (show ((37 : Nat) : Int) + (5) = ((42 : Nat) : Int) from by decide) (xfc trivial (xfc trivial (xfc trivial (xfc trivial (xfc trivial (xfc trivial (xfc fl_Walk_18 (xfc ⟨ml_Walk_67, kd_Land_size⟩ (xfc (show ((52 : Nat) : Int) + (37) = ((89 : Nat) : Int) from by decide) (xfc trivial (xfc trivial (xfc trivial (xfc ⟨ml_Walk_73, kd_Walk_stay⟩ (xfc trivial (xfc trivial (xfc trivial (xfc trivial (xfc trivial (xfc ⟨ml_Walk_53, kd_Walk_reaches⟩ (xfc trivial (xfc trivial (xfc trivial (xfc ⟨ml_Walk_76, kd_Walk_back⟩ (xfc trivial (xfc (show ((78 : Nat) : Int) + (5) = ((83 : Nat) : Int) from by decide) (xfc trivial (xfc trivial (xfc trivial (xfc (show ((86 : Nat) : Int) + (-42) = ((44 : Nat) : Int) from by decide) (xfc trivial (xfc trivial (xfn))))))))))))))))))))))))))))))))))))))))))))))))))))))
theorem s_Walk_reaches_0 (C : xCx) (r : List Value) (hp : xHp) (x : Nat) (a1 a2 a3 a4 : Value) : (xV k_Walk_reaches C 0 [.ref x, a1, a2, a3, a4] r hp) = (True ∧ xV k_Walk_reaches C 1 [.ref x, a1, a2, a3, a4] (.ref x :: r) hp) := xVe _ _ _ _ _ _
theorem s_Walk_reaches_1 (a : Nat) (C : xCx) (L r : List Value) (hp : xHp) : (xV k_Walk_reaches C 1 L (.ref a :: r) hp) = (xF hp a 11 2 (fun v => xV k_Walk_reaches C 4 L (v :: r) hp)) := xVe _ _ _ _ _ _
theorem s_Walk_reaches_4 (C : xCx) (r : List Value) (hp : xHp) (x : Nat) (a1 a2 a3 a4 : Value) : (xV k_Walk_reaches C 4 [.ref x, a1, a2, a3, a4] r hp) = (True ∧ xV k_Walk_reaches C 5 [.ref x, a1, a2, a3, a4] (.ref x :: r) hp) := xVe _ _ _ _ _ _
theorem s_Walk_reaches_5 (a : Nat) (C : xCx) (L r : List Value) (hp : xHp) : (xV k_Walk_reaches C 5 L (.ref a :: r) hp) = (xF hp a 11 5 (fun v => xV k_Walk_reaches C 8 L (v :: r) hp)) := xVe _ _ _ _ _ _
theorem s_Walk_reaches_8 (x0 : Int32) (a : Nat) (l : Launch) (d b lo gz n0 s0 : Nat) (Po : Option Value → xHp → Prop) (L r : List Value) (hp : xHp) : (xV k_Walk_reaches (l, d + 1, b, lo, gz, n0, s0, m_Walk_reaches, Po) 8 L (.int x0 :: .ref a :: r) hp) = (xO hp a 3 ∧ xcs r 8 ∧ xMi l d b lo gz m_Folk_age [.ref a, .int x0] hp (fun x hp' => xV k_Walk_reaches (l, d + 1, b, lo, gz, n0, s0, m_Walk_reaches, Po) 11 L (.int x :: r) hp')) := xVe _ _ _ _ _ _
theorem s_Walk_reaches_11 (C : xCx) (r : List Value) (hp : xHp) (x : Int32) (a0 a1 a2 a3 a4 : Value) : (xV k_Walk_reaches C 11 [a0, a1, a2, a3, a4] (.int x :: r) hp) = (2 < 5 ∧ xNl [a0, a1, a2, a3, a4] 2 ∧ xV k_Walk_reaches C 12 [a0, a1, .int x, a3, a4] r hp) := xVe _ _ _ _ _ _
theorem s_Walk_reaches_12 (C : xCx) (r : List Value) (hp : xHp) (x : Nat) (a1 a2 a3 a4 : Value) : (xV k_Walk_reaches C 12 [.ref x, a1, a2, a3, a4] r hp) = (True ∧ xV k_Walk_reaches C 13 [.ref x, a1, a2, a3, a4] (.ref x :: r) hp) := xVe _ _ _ _ _ _
theorem s_Walk_reaches_13 (a : Nat) (C : xCx) (L r : List Value) (hp : xHp) : (xV k_Walk_reaches C 13 L (.ref a :: r) hp) = (xF hp a 11 6 (fun v => xV k_Walk_reaches C 16 L (v :: r) hp)) := xVe _ _ _ _ _ _
theorem s_Walk_reaches_16 (C : xCx) (r : List Value) (hp : xHp) (x : Int32) (a0 a1 a3 a4 : Value) : (xV k_Walk_reaches C 16 [a0, a1, .int x, a3, a4] r hp) = (xV k_Walk_reaches C 17 [a0, a1, .int x, a3, a4] (.int x :: r) hp) := xVe _ _ _ _ _ _
theorem s_Walk_reaches_17 (x y : Int32) (C : xCx) (L r : List Value) (hp : xHp) : (xV k_Walk_reaches C 17 L (.int y :: .int x :: r) hp) = (xV k_Walk_reaches C 18 L (.int (x - y) :: r) hp) := xVe _ _ _ _ _ _
theorem s_Walk_reaches_18 (C : xCx) (r : List Value) (hp : xHp) (x : Nat) (a1 a2 a3 a4 : Value) : (xV k_Walk_reaches C 18 [.ref x, a1, a2, a3, a4] r hp) = (True ∧ xV k_Walk_reaches C 19 [.ref x, a1, a2, a3, a4] (.ref x :: r) hp) := xVe _ _ _ _ _ _
theorem s_Walk_reaches_19 (a : Nat) (C : xCx) (L r : List Value) (hp : xHp) : (xV k_Walk_reaches C 19 L (.ref a :: r) hp) = (xF hp a 11 7 (fun v => xV k_Walk_reaches C 22 L (v :: r) hp)) := xVe _ _ _ _ _ _
theorem s_Walk_reaches_22 (C : xCx) (r : List Value) (hp : xHp) (x : Int32) (a0 a2 a3 a4 : Value) : (xV k_Walk_reaches C 22 [a0, .int x, a2, a3, a4] r hp) = (xV k_Walk_reaches C 23 [a0, .int x, a2, a3, a4] (.int x :: r) hp) := xVe _ _ _ _ _ _
theorem s_Walk_reaches_23 (x y : Int32) (C : xCx) (L r : List Value) (hp : xHp) : (xV k_Walk_reaches C 23 L (.int y :: .int x :: r) hp) = (xV k_Walk_reaches C 24 L (.int (x - y) :: r) hp) := xVe _ _ _ _ _ _
theorem s_Walk_reaches_24 (x0 : Int32) (x1 : Int32) (l : Launch) (d b lo gz n0 s0 : Nat) (Po : Option Value → xHp → Prop) (L r : List Value) (hp : xHp) : (xV k_Walk_reaches (l, d + 1, b, lo, gz, n0, s0, m_Walk_reaches, Po) 24 L (.int x1 :: .int x0 :: r) hp) = (2 ≤ List.length (.int x1 :: .int x0 :: r) ∧ xcs r 8 ∧ xMi l d b lo gz m_Walk_leadsNowhere [.int x0, .int x1] hp (fun x hp' => xV k_Walk_reaches (l, d + 1, b, lo, gz, n0, s0, m_Walk_reaches, Po) 27 L (.int x :: r) hp')) := xVe _ _ _ _ _ _
theorem s_Walk_reaches_27 (x : Int32) (C : xCx) (L r : List Value) (hp : xHp) : (xV k_Walk_reaches C 27 L (.int x :: r) hp) = (((x = 0 → xV k_Walk_reaches C 32 L r hp) ∧ (¬ x = 0 → xV k_Walk_reaches C 30 L r hp))) := xVe _ _ _ _ _ _
theorem s_Walk_reaches_30  (C : xCx) (L r : List Value) (hp : xHp) : (xV k_Walk_reaches C 30 L (r) hp) = (xV k_Walk_reaches C 31 L (.int (0) :: r) hp) := xVe _ _ _ _ _ _
theorem s_Walk_reaches_31 (v : Int32) (l : Launch) (d b lo gz n0 s0 : Nat) (Po : Option Value → xHp → Prop) (L : List Value) (hp : xHp) : (xV k_Walk_reaches (l, d, b, lo, gz, n0, s0, m_Walk_reaches, Po) 31 L [.int v] hp) = ((v = 0 ∨ v = 1) ∧ Po (some (.int v)) hp) := xVe _ _ _ _ _ _
theorem s_Walk_reaches_32 (C : xCx) (r : List Value) (hp : xHp) (x : Int32) (a0 a2 a3 a4 : Value) : (xV k_Walk_reaches C 32 [a0, .int x, a2, a3, a4] r hp) = (xV k_Walk_reaches C 33 [a0, .int x, a2, a3, a4] (.int x :: r) hp) := xVe _ _ _ _ _ _
theorem s_Walk_reaches_33 (C : xCx) (r : List Value) (hp : xHp) (x : Nat) (a1 a2 a3 a4 : Value) : (xV k_Walk_reaches C 33 [.ref x, a1, a2, a3, a4] r hp) = (True ∧ xV k_Walk_reaches C 34 [.ref x, a1, a2, a3, a4] (.ref x :: r) hp) := xVe _ _ _ _ _ _
theorem s_Walk_reaches_34 (a : Nat) (C : xCx) (L r : List Value) (hp : xHp) : (xV k_Walk_reaches C 34 L (.ref a :: r) hp) = (xF hp a 11 7 (fun v => xV k_Walk_reaches C 37 L (v :: r) hp)) := xVe _ _ _ _ _ _
theorem s_Walk_reaches_37 (x y : Int32) (C : xCx) (L r : List Value) (hp : xHp) : (xV k_Walk_reaches C 37 L (.int y :: .int x :: r) hp) = (((x < y → xV k_Walk_reaches C 42 L r hp) ∧ (¬ x < y → xV k_Walk_reaches C 40 L r hp))) := xVe _ _ _ _ _ _
theorem s_Walk_reaches_40  (C : xCx) (L r : List Value) (hp : xHp) : (xV k_Walk_reaches C 40 L (r) hp) = (xV k_Walk_reaches C 41 L (.int (1) :: r) hp) := xVe _ _ _ _ _ _
theorem s_Walk_reaches_41 (v : Int32) (l : Launch) (d b lo gz n0 s0 : Nat) (Po : Option Value → xHp → Prop) (L : List Value) (hp : xHp) : (xV k_Walk_reaches (l, d, b, lo, gz, n0, s0, m_Walk_reaches, Po) 41 L [.int v] hp) = ((v = 0 ∨ v = 1) ∧ Po (some (.int v)) hp) := xVe _ _ _ _ _ _
theorem s_Walk_reaches_42  (C : xCx) (L r : List Value) (hp : xHp) : (xV k_Walk_reaches C 42 L (r) hp) = (xV k_Walk_reaches C 43 L (.int (0) :: r) hp) := xVe _ _ _ _ _ _
theorem s_Walk_reaches_43 (C : xCx) (r : List Value) (hp : xHp) (x : Int32) (a0 a1 a2 a3 a4 : Value) : (xV k_Walk_reaches C 43 [a0, a1, a2, a3, a4] (.int x :: r) hp) = (3 < 5 ∧ xNl [a0, a1, a2, a3, a4] 3 ∧ xV k_Walk_reaches C 44 [a0, a1, a2, .int x, a4] r hp) := xVe _ _ _ _ _ _
theorem s_Walk_reaches_44 (C : xCx) (r : List Value) (hp : xHp) (x : Int32) (a0 a1 a2 a4 : Value) : (xV k_Walk_reaches C 44 [a0, a1, a2, .int x, a4] r hp) = (xV k_Walk_reaches C 45 [a0, a1, a2, .int x, a4] (.int x :: r) hp) := xVe _ _ _ _ _ _
theorem s_Walk_reaches_45 (C : xCx) (r : List Value) (hp : xHp) (x : Nat) (a1 a2 a3 a4 : Value) : (xV k_Walk_reaches C 45 [.ref x, a1, a2, a3, a4] r hp) = (True ∧ xV k_Walk_reaches C 46 [.ref x, a1, a2, a3, a4] (.ref x :: r) hp) := xVe _ _ _ _ _ _
theorem s_Walk_reaches_46 (a : Nat) (C : xCx) (L r : List Value) (hp : xHp) : (xV k_Walk_reaches C 46 L (.ref a :: r) hp) = (xF hp a 11 0 (fun v => xV k_Walk_reaches C 49 L (v :: r) hp)) := xVe _ _ _ _ _ _
theorem s_Walk_reaches_49 (a : Nat) (l : Launch) (d b lo gz n0 s0 : Nat) (Po : Option Value → xHp → Prop) (L r : List Value) (hp : xHp) : (xV k_Walk_reaches (l, d + 1, b, lo, gz, n0, s0, m_Walk_reaches, Po) 49 L (.ref a :: r) hp) = (xO hp a 4 ∧ xcs r 8 ∧ xMi l d b lo gz m_Land_size [.ref a] hp (fun x hp' => xV k_Walk_reaches (l, d + 1, b, lo, gz, n0, s0, m_Walk_reaches, Po) 52 L (.int x :: r) hp')) := xVe _ _ _ _ _ _
theorem s_Walk_reaches_52 (x y : Int32) (C : xCx) (L r : List Value) (hp : xHp) : (xV k_Walk_reaches C 52 L (.int y :: .int x :: r) hp) = (((y ≤ x → xV k_Walk_reaches C 89 L r hp) ∧ (¬ y ≤ x → xV k_Walk_reaches C 55 L r hp))) := xVe _ _ _ _ _ _
theorem s_Walk_reaches_55 (C : xCx) (r : List Value) (hp : xHp) (x : Nat) (a1 a2 a3 a4 : Value) : (xV k_Walk_reaches C 55 [.ref x, a1, a2, a3, a4] r hp) = (True ∧ xV k_Walk_reaches C 56 [.ref x, a1, a2, a3, a4] (.ref x :: r) hp) := xVe _ _ _ _ _ _
theorem s_Walk_reaches_56 (C : xCx) (r : List Value) (hp : xHp) (x : Int32) (a0 a2 a3 a4 : Value) : (xV k_Walk_reaches C 56 [a0, .int x, a2, a3, a4] r hp) = (xV k_Walk_reaches C 57 [a0, .int x, a2, a3, a4] (.int x :: r) hp) := xVe _ _ _ _ _ _
theorem s_Walk_reaches_57 (C : xCx) (r : List Value) (hp : xHp) (x : Int32) (a0 a1 a2 a4 : Value) : (xV k_Walk_reaches C 57 [a0, a1, a2, .int x, a4] r hp) = (xV k_Walk_reaches C 58 [a0, a1, a2, .int x, a4] (.int x :: r) hp) := xVe _ _ _ _ _ _
theorem s_Walk_reaches_58 (x0 : Int32) (x1 : Int32) (a : Nat) (l : Launch) (d b lo gz n0 s0 : Nat) (Po : Option Value → xHp → Prop) (L r : List Value) (hp : xHp) : (xV k_Walk_reaches (l, d + 1, b, lo, gz, n0, s0, m_Walk_reaches, Po) 58 L (.int x1 :: .int x0 :: .ref a :: r) hp) = (xO hp a 11 ∧ xcs r 8 ∧ xMi l d b lo gz m_Walk_stay [.ref a, .int x0, .int x1] hp (fun x hp' => xV k_Walk_reaches (l, d + 1, b, lo, gz, n0, s0, m_Walk_reaches, Po) 61 L (.int x :: r) hp')) := xVe _ _ _ _ _ _
theorem s_Walk_reaches_61 (v : Value) (C : xCx) (L r : List Value) (hp : xHp) : (xV k_Walk_reaches C 61 L (v :: r) hp) = (v.category = 1 ∧ xV k_Walk_reaches C 62 L (r) hp) := xVe _ _ _ _ _ _
theorem s_Walk_reaches_62 (C : xCx) (r : List Value) (hp : xHp) (x : Nat) (a1 a2 a3 a4 : Value) : (xV k_Walk_reaches C 62 [.ref x, a1, a2, a3, a4] r hp) = (True ∧ xV k_Walk_reaches C 63 [.ref x, a1, a2, a3, a4] (.ref x :: r) hp) := xVe _ _ _ _ _ _
theorem s_Walk_reaches_63 (C : xCx) (r : List Value) (hp : xHp) (x : Int32) (a0 a2 a3 a4 : Value) : (xV k_Walk_reaches C 63 [a0, .int x, a2, a3, a4] r hp) = (xV k_Walk_reaches C 64 [a0, .int x, a2, a3, a4] (.int x :: r) hp) := xVe _ _ _ _ _ _
theorem s_Walk_reaches_64  (C : xCx) (L r : List Value) (hp : xHp) : (xV k_Walk_reaches C 64 L (r) hp) = (xV k_Walk_reaches C 65 L (.int (1) :: r) hp) := xVe _ _ _ _ _ _
theorem s_Walk_reaches_65 (x y : Int32) (C : xCx) (L r : List Value) (hp : xHp) : (xV k_Walk_reaches C 65 L (.int y :: .int x :: r) hp) = (xV k_Walk_reaches C 66 L (.int (x + y) :: r) hp) := xVe _ _ _ _ _ _
theorem s_Walk_reaches_66 (x0 : Int32) (a : Nat) (l : Launch) (d b lo gz n0 s0 : Nat) (Po : Option Value → xHp → Prop) (L r : List Value) (hp : xHp) : (xV k_Walk_reaches (l, d + 1, b, lo, gz, n0, s0, m_Walk_reaches, Po) 66 L (.int x0 :: .ref a :: r) hp) = (xO hp a 11 ∧ xcs r 8 ∧ xMi l d b lo gz m_Walk_reaches [.ref a, .int x0] hp (fun x hp' => xV k_Walk_reaches (l, d + 1, b, lo, gz, n0, s0, m_Walk_reaches, Po) 69 L (.int x :: r) hp')) := xVe _ _ _ _ _ _
theorem s_Walk_reaches_69 (C : xCx) (r : List Value) (hp : xHp) (x : Int32) (a0 a1 a2 a3 a4 : Value) : (xV k_Walk_reaches C 69 [a0, a1, a2, a3, a4] (.int x :: r) hp) = (4 < 5 ∧ xNl [a0, a1, a2, a3, a4] 4 ∧ xV k_Walk_reaches C 71 [a0, a1, a2, a3, .int x] r hp) := xVe _ _ _ _ _ _
theorem s_Walk_reaches_71 (C : xCx) (r : List Value) (hp : xHp) (x : Nat) (a1 a2 a3 a4 : Value) : (xV k_Walk_reaches C 71 [.ref x, a1, a2, a3, a4] r hp) = (True ∧ xV k_Walk_reaches C 72 [.ref x, a1, a2, a3, a4] (.ref x :: r) hp) := xVe _ _ _ _ _ _
theorem s_Walk_reaches_72 (C : xCx) (r : List Value) (hp : xHp) (x : Int32) (a0 a1 a3 a4 : Value) : (xV k_Walk_reaches C 72 [a0, a1, .int x, a3, a4] r hp) = (xV k_Walk_reaches C 73 [a0, a1, .int x, a3, a4] (.int x :: r) hp) := xVe _ _ _ _ _ _
theorem s_Walk_reaches_73 (x0 : Int32) (a : Nat) (l : Launch) (d b lo gz n0 s0 : Nat) (Po : Option Value → xHp → Prop) (L r : List Value) (hp : xHp) : (xV k_Walk_reaches (l, d + 1, b, lo, gz, n0, s0, m_Walk_reaches, Po) 73 L (.int x0 :: .ref a :: r) hp) = (xO hp a 11 ∧ xcs r 8 ∧ xMv l d b lo gz m_Walk_back [.ref a, .int x0] hp (fun hp' => xV k_Walk_reaches (l, d + 1, b, lo, gz, n0, s0, m_Walk_reaches, Po) 76 L r hp')) := xVe _ _ _ _ _ _
theorem s_Walk_reaches_76 (C : xCx) (r : List Value) (hp : xHp) (x : Int32) (a0 a1 a2 a3 : Value) : (xV k_Walk_reaches C 76 [a0, a1, a2, a3, .int x] r hp) = (xV k_Walk_reaches C 78 [a0, a1, a2, a3, .int x] (.int x :: r) hp) := xVe _ _ _ _ _ _
theorem s_Walk_reaches_78 (x : Int32) (C : xCx) (L r : List Value) (hp : xHp) : (xV k_Walk_reaches C 78 L (.int x :: r) hp) = (((x = 0 → xV k_Walk_reaches C 83 L r hp) ∧ (¬ x = 0 → xV k_Walk_reaches C 81 L r hp))) := xVe _ _ _ _ _ _
theorem s_Walk_reaches_81  (C : xCx) (L r : List Value) (hp : xHp) : (xV k_Walk_reaches C 81 L (r) hp) = (xV k_Walk_reaches C 82 L (.int (1) :: r) hp) := xVe _ _ _ _ _ _
theorem s_Walk_reaches_82 (v : Int32) (l : Launch) (d b lo gz n0 s0 : Nat) (Po : Option Value → xHp → Prop) (L : List Value) (hp : xHp) : (xV k_Walk_reaches (l, d, b, lo, gz, n0, s0, m_Walk_reaches, Po) 82 L [.int v] hp) = ((v = 0 ∨ v = 1) ∧ Po (some (.int v)) hp) := xVe _ _ _ _ _ _
theorem s_Walk_reaches_83 (C : xCx) (r : List Value) (hp : xHp) (x : Int32) (a0 a1 a2 a4 : Value) : (xV k_Walk_reaches C 83 [a0, a1, a2, .int x, a4] r hp) = (xNl [a0, a1, a2, .int x, a4] 3 ∧ xV k_Walk_reaches C 86 [a0, a1, a2, .int (x + (1)), a4] r hp) := xVe _ _ _ _ _ _
theorem s_Walk_reaches_86 (C : xCx) (L r : List Value) (hp : xHp) : (xV k_Walk_reaches C 86 L r hp) = (xV k_Walk_reaches C 44 L r hp) := xVe _ _ _ _ _ _
theorem s_Walk_reaches_89  (C : xCx) (L r : List Value) (hp : xHp) : (xV k_Walk_reaches C 89 L (r) hp) = (xV k_Walk_reaches C 90 L (.int (0) :: r) hp) := xVe _ _ _ _ _ _
theorem s_Walk_reaches_90 (v : Int32) (l : Launch) (d b lo gz n0 s0 : Nat) (Po : Option Value → xHp → Prop) (L : List Value) (hp : xHp) : (xV k_Walk_reaches (l, d, b, lo, gz, n0, s0, m_Walk_reaches, Po) 90 L [.int v] hp) = ((v = 0 ∨ v = 1) ∧ Po (some (.int v)) hp) := xVe _ _ _ _ _ _
def k_Walk_leadsNowhere : List xEC := [
  (0, .iload_n 0, 1, 0, 0, 0, m_x),
  (1, .ifCond .lt 11, 4, 0, 12, 0, m_x),
  (4, .iload_n 0, 5, 0, 0, 0, m_x),
  (5, .bipush 9, 7, 0, 0, 0, m_x),
  (7, .iload_n 1, 8, 0, 0, 0, m_x),
  (8, .imul, 9, 0, 0, 0, m_x),
  (9, .if_icmp .le 7, 12, 0, 16, 0, m_x),
  (12, .iconst 1, 13, 0, 0, 0, m_x),
  (13, .goto 4, 16, 0, 17, 0, m_x),
  (16, .iconst 0, 17, 0, 0, 0, m_x),
  (17, .ireturn, 18, 0, 0, 0, m_x)]
theorem dc_Walk_leadsNowhere : ∀ E ∈ k_Walk_leadsNowhere, xDc m_Walk_leadsNowhere E := by decide +kernel
set_option maxRecDepth 20000 in
theorem ok_Walk_leadsNowhere : ∀ E ∈ k_Walk_leadsNowhere, xOk m_Walk_leadsNowhere E := xok_of dc_Walk_leadsNowhere (xfc trivial (xfc (show ((1 : Nat) : Int) + (11) = ((12 : Nat) : Int) from by decide) (xfc trivial (xfc trivial (xfc trivial (xfc trivial (xfc (show ((9 : Nat) : Int) + (7) = ((16 : Nat) : Int) from by decide) (xfc trivial (xfc (show ((13 : Nat) : Int) + (4) = ((17 : Nat) : Int) from by decide) (xfc trivial (xfc trivial (xfn))))))))))))
theorem s_Walk_leadsNowhere_0 (C : xCx) (r : List Value) (hp : xHp) (x : Int32) (a1 : Value) : (xV k_Walk_leadsNowhere C 0 [.int x, a1] r hp) = (xV k_Walk_leadsNowhere C 1 [.int x, a1] (.int x :: r) hp) := xVe _ _ _ _ _ _
theorem s_Walk_leadsNowhere_1 (x : Int32) (C : xCx) (L r : List Value) (hp : xHp) : (xV k_Walk_leadsNowhere C 1 L (.int x :: r) hp) = (((x < 0 → xV k_Walk_leadsNowhere C 12 L r hp) ∧ (¬ x < 0 → xV k_Walk_leadsNowhere C 4 L r hp))) := xVe _ _ _ _ _ _
theorem s_Walk_leadsNowhere_4 (C : xCx) (r : List Value) (hp : xHp) (x : Int32) (a1 : Value) : (xV k_Walk_leadsNowhere C 4 [.int x, a1] r hp) = (xV k_Walk_leadsNowhere C 5 [.int x, a1] (.int x :: r) hp) := xVe _ _ _ _ _ _
theorem s_Walk_leadsNowhere_5  (C : xCx) (L r : List Value) (hp : xHp) : (xV k_Walk_leadsNowhere C 5 L (r) hp) = (xV k_Walk_leadsNowhere C 7 L (.int (9) :: r) hp) := xVe _ _ _ _ _ _
theorem s_Walk_leadsNowhere_7 (C : xCx) (r : List Value) (hp : xHp) (x : Int32) (a0 : Value) : (xV k_Walk_leadsNowhere C 7 [a0, .int x] r hp) = (xV k_Walk_leadsNowhere C 8 [a0, .int x] (.int x :: r) hp) := xVe _ _ _ _ _ _
theorem s_Walk_leadsNowhere_8 (x y : Int32) (C : xCx) (L r : List Value) (hp : xHp) : (xV k_Walk_leadsNowhere C 8 L (.int y :: .int x :: r) hp) = (xV k_Walk_leadsNowhere C 9 L (.int (x * y) :: r) hp) := xVe _ _ _ _ _ _
theorem s_Walk_leadsNowhere_9 (x y : Int32) (C : xCx) (L r : List Value) (hp : xHp) : (xV k_Walk_leadsNowhere C 9 L (.int y :: .int x :: r) hp) = (((x ≤ y → xV k_Walk_leadsNowhere C 16 L r hp) ∧ (¬ x ≤ y → xV k_Walk_leadsNowhere C 12 L r hp))) := xVe _ _ _ _ _ _
theorem s_Walk_leadsNowhere_12  (C : xCx) (L r : List Value) (hp : xHp) : (xV k_Walk_leadsNowhere C 12 L (r) hp) = (xV k_Walk_leadsNowhere C 13 L (.int (1) :: r) hp) := xVe _ _ _ _ _ _
theorem s_Walk_leadsNowhere_13 (C : xCx) (L r : List Value) (hp : xHp) : (xV k_Walk_leadsNowhere C 13 L r hp) = (xV k_Walk_leadsNowhere C 17 L r hp) := xVe _ _ _ _ _ _
theorem s_Walk_leadsNowhere_16  (C : xCx) (L r : List Value) (hp : xHp) : (xV k_Walk_leadsNowhere C 16 L (r) hp) = (xV k_Walk_leadsNowhere C 17 L (.int (0) :: r) hp) := xVe _ _ _ _ _ _
theorem s_Walk_leadsNowhere_17 (v : Int32) (l : Launch) (d b lo gz n0 s0 : Nat) (Po : Option Value → xHp → Prop) (L : List Value) (hp : xHp) : (xV k_Walk_leadsNowhere (l, d, b, lo, gz, n0, s0, m_Walk_leadsNowhere, Po) 17 L [.int v] hp) = ((v = 0 ∨ v = 1) ∧ Po (some (.int v)) hp) := xVe _ _ _ _ _ _
theorem ml_Walk_91 : xLk "SunnyOnes$Walk" 91 m_So_put := Or.inr ⟨"SunnyOnes", List.mem_of_getElem? (i := 14) (by decide +kernel)⟩
theorem ml_Walk_95 : xLk "SunnyOnes$Walk" 95 m_Sun_hoursAt := Or.inl (wg4 76 (by decide +kernel) rfl)
theorem ml_Walk_101 : xLk "SunnyOnes$Walk" 101 m_Folk_grow := Or.inl (wg4 80 (by decide +kernel) rfl)
theorem ml_Walk_104 : xLk "SunnyOnes$Walk" 104 m_Folk_day := Or.inl (wg4 81 (by decide +kernel) rfl)
theorem ml_Walk_107 : xLk "SunnyOnes$Walk" 107 m_Folk_setDay := Or.inl (wg4 82 (by decide +kernel) rfl)
def k_Walk_stay : List xEC := [
  (0, .aload_n 0, 1, 0, 0, 0, m_x),
  (1, .getfield 11, 4, 11, 3, 0, m_x),
  (4, .iload_n 1, 5, 0, 0, 0, m_x),
  (5, .iload_n 2, 6, 0, 0, 0, m_x),
  (6, .invokestatic 91, 9, 0, 0, 0, m_So_put),
  (9, .aload_n 0, 10, 0, 0, 0, m_x),
  (10, .getfield 22, 13, 11, 1, 0, m_x),
  (13, .aload_n 0, 14, 0, 0, 0, m_x),
  (14, .getfield 26, 17, 11, 2, 0, m_x),
  (17, .aload_n 0, 18, 0, 0, 0, m_x),
  (18, .getfield 30, 21, 11, 5, 0, m_x),
  (21, .iload_n 2, 22, 0, 0, 0, m_x),
  (22, .invokevirtual 95, 25, 9, 0, 0, m_Sun_hoursAt),
  (25, .istore_n 3, 26, 0, 0, 0, m_x),
  (26, .aload_n 0, 27, 0, 0, 0, m_x),
  (27, .getfield 26, 30, 11, 2, 0, m_x),
  (30, .aload_n 0, 31, 0, 0, 0, m_x),
  (31, .getfield 30, 34, 11, 5, 0, m_x),
  (34, .iload_n 3, 35, 0, 0, 0, m_x),
  (35, .invokevirtual 101, 38, 3, 0, 0, m_Folk_grow),
  (38, .aload_n 0, 39, 0, 0, 0, m_x),
  (39, .getfield 26, 42, 11, 2, 0, m_x),
  (42, .aload_n 0, 43, 0, 0, 0, m_x),
  (43, .getfield 26, 46, 11, 2, 0, m_x),
  (46, .invokevirtual 104, 49, 3, 0, 0, m_Folk_day),
  (49, .iconst 1, 50, 0, 0, 0, m_x),
  (50, .iadd, 51, 0, 0, 0, m_x),
  (51, .invokevirtual 107, 54, 3, 0, 0, m_Folk_setDay),
  (54, .iload_n 3, 55, 0, 0, 0, m_x),
  (55, .ireturn, 56, 0, 0, 0, m_x)]
theorem dc_Walk_stay : ∀ E ∈ k_Walk_stay, xDc m_Walk_stay E := by decide +kernel
set_option maxRecDepth 20000 in
theorem ok_Walk_stay : ∀ E ∈ k_Walk_stay, xOk m_Walk_stay E := xok_of dc_Walk_stay (xfc trivial (xfc fl_Walk_11 (xfc trivial (xfc trivial (xfc ⟨ml_Walk_91, kd_So_put⟩ (xfc trivial (xfc fl_Walk_22 (xfc trivial (xfc fl_Walk_26 (xfc trivial (xfc fl_Walk_30 (xfc trivial (xfc ⟨ml_Walk_95, kd_Sun_hoursAt⟩ (xfc trivial (xfc trivial (xfc fl_Walk_26 (xfc trivial (xfc fl_Walk_30 (xfc trivial (xfc ⟨ml_Walk_101, kd_Folk_grow⟩ (xfc trivial (xfc fl_Walk_26 (xfc trivial (xfc fl_Walk_26 (xfc ⟨ml_Walk_104, kd_Folk_day⟩ (xfc trivial (xfc trivial (xfc ⟨ml_Walk_107, kd_Folk_setDay⟩ (xfc trivial (xfc trivial (xfn)))))))))))))))))))))))))))))))
theorem s_Walk_stay_0 (C : xCx) (r : List Value) (hp : xHp) (x : Nat) (a1 a2 a3 : Value) : (xV k_Walk_stay C 0 [.ref x, a1, a2, a3] r hp) = (True ∧ xV k_Walk_stay C 1 [.ref x, a1, a2, a3] (.ref x :: r) hp) := xVe _ _ _ _ _ _
theorem s_Walk_stay_1 (a : Nat) (C : xCx) (L r : List Value) (hp : xHp) : (xV k_Walk_stay C 1 L (.ref a :: r) hp) = (xF hp a 11 3 (fun v => xV k_Walk_stay C 4 L (v :: r) hp)) := xVe _ _ _ _ _ _
theorem s_Walk_stay_4 (C : xCx) (r : List Value) (hp : xHp) (x : Int32) (a0 a2 a3 : Value) : (xV k_Walk_stay C 4 [a0, .int x, a2, a3] r hp) = (xV k_Walk_stay C 5 [a0, .int x, a2, a3] (.int x :: r) hp) := xVe _ _ _ _ _ _
theorem s_Walk_stay_5 (C : xCx) (r : List Value) (hp : xHp) (x : Int32) (a0 a1 a3 : Value) : (xV k_Walk_stay C 5 [a0, a1, .int x, a3] r hp) = (xV k_Walk_stay C 6 [a0, a1, .int x, a3] (.int x :: r) hp) := xVe _ _ _ _ _ _
theorem s_Walk_stay_6 (x0 : Nat) (x1 : Int32) (x2 : Int32) (l : Launch) (d b lo gz n0 s0 : Nat) (Po : Option Value → xHp → Prop) (L r : List Value) (hp : xHp) : (xV k_Walk_stay (l, d + 1, b, lo, gz, n0, s0, m_Walk_stay, Po) 6 L (.int x2 :: .int x1 :: .ref x0 :: r) hp) = (3 ≤ List.length (.int x2 :: .int x1 :: .ref x0 :: r) ∧ xcs r 8 ∧ xMv l d b lo gz m_So_put [.ref x0, .int x1, .int x2] hp (fun hp' => xV k_Walk_stay (l, d + 1, b, lo, gz, n0, s0, m_Walk_stay, Po) 9 L r hp')) := xVe _ _ _ _ _ _
theorem s_Walk_stay_9 (C : xCx) (r : List Value) (hp : xHp) (x : Nat) (a1 a2 a3 : Value) : (xV k_Walk_stay C 9 [.ref x, a1, a2, a3] r hp) = (True ∧ xV k_Walk_stay C 10 [.ref x, a1, a2, a3] (.ref x :: r) hp) := xVe _ _ _ _ _ _
theorem s_Walk_stay_10 (a : Nat) (C : xCx) (L r : List Value) (hp : xHp) : (xV k_Walk_stay C 10 L (.ref a :: r) hp) = (xF hp a 11 1 (fun v => xV k_Walk_stay C 13 L (v :: r) hp)) := xVe _ _ _ _ _ _
theorem s_Walk_stay_13 (C : xCx) (r : List Value) (hp : xHp) (x : Nat) (a1 a2 a3 : Value) : (xV k_Walk_stay C 13 [.ref x, a1, a2, a3] r hp) = (True ∧ xV k_Walk_stay C 14 [.ref x, a1, a2, a3] (.ref x :: r) hp) := xVe _ _ _ _ _ _
theorem s_Walk_stay_14 (a : Nat) (C : xCx) (L r : List Value) (hp : xHp) : (xV k_Walk_stay C 14 L (.ref a :: r) hp) = (xF hp a 11 2 (fun v => xV k_Walk_stay C 17 L (v :: r) hp)) := xVe _ _ _ _ _ _
theorem s_Walk_stay_17 (C : xCx) (r : List Value) (hp : xHp) (x : Nat) (a1 a2 a3 : Value) : (xV k_Walk_stay C 17 [.ref x, a1, a2, a3] r hp) = (True ∧ xV k_Walk_stay C 18 [.ref x, a1, a2, a3] (.ref x :: r) hp) := xVe _ _ _ _ _ _
theorem s_Walk_stay_18 (a : Nat) (C : xCx) (L r : List Value) (hp : xHp) : (xV k_Walk_stay C 18 L (.ref a :: r) hp) = (xF hp a 11 5 (fun v => xV k_Walk_stay C 21 L (v :: r) hp)) := xVe _ _ _ _ _ _
theorem s_Walk_stay_21 (C : xCx) (r : List Value) (hp : xHp) (x : Int32) (a0 a1 a3 : Value) : (xV k_Walk_stay C 21 [a0, a1, .int x, a3] r hp) = (xV k_Walk_stay C 22 [a0, a1, .int x, a3] (.int x :: r) hp) := xVe _ _ _ _ _ _
theorem s_Walk_stay_22 (x0 : Nat) (x1 : Int32) (x2 : Int32) (a : Nat) (l : Launch) (d b lo gz n0 s0 : Nat) (Po : Option Value → xHp → Prop) (L r : List Value) (hp : xHp) : (xV k_Walk_stay (l, d + 1, b, lo, gz, n0, s0, m_Walk_stay, Po) 22 L (.int x2 :: .int x1 :: .ref x0 :: .ref a :: r) hp) = (xO hp a 9 ∧ xcs r 8 ∧ xMi l d b lo gz m_Sun_hoursAt [.ref a, .ref x0, .int x1, .int x2] hp (fun x hp' => xV k_Walk_stay (l, d + 1, b, lo, gz, n0, s0, m_Walk_stay, Po) 25 L (.int x :: r) hp')) := xVe _ _ _ _ _ _
theorem s_Walk_stay_25 (C : xCx) (r : List Value) (hp : xHp) (x : Int32) (a0 a1 a2 a3 : Value) : (xV k_Walk_stay C 25 [a0, a1, a2, a3] (.int x :: r) hp) = (3 < 4 ∧ xNl [a0, a1, a2, a3] 3 ∧ xV k_Walk_stay C 26 [a0, a1, a2, .int x] r hp) := xVe _ _ _ _ _ _
theorem s_Walk_stay_26 (C : xCx) (r : List Value) (hp : xHp) (x : Nat) (a1 a2 a3 : Value) : (xV k_Walk_stay C 26 [.ref x, a1, a2, a3] r hp) = (True ∧ xV k_Walk_stay C 27 [.ref x, a1, a2, a3] (.ref x :: r) hp) := xVe _ _ _ _ _ _
theorem s_Walk_stay_27 (a : Nat) (C : xCx) (L r : List Value) (hp : xHp) : (xV k_Walk_stay C 27 L (.ref a :: r) hp) = (xF hp a 11 2 (fun v => xV k_Walk_stay C 30 L (v :: r) hp)) := xVe _ _ _ _ _ _
theorem s_Walk_stay_30 (C : xCx) (r : List Value) (hp : xHp) (x : Nat) (a1 a2 a3 : Value) : (xV k_Walk_stay C 30 [.ref x, a1, a2, a3] r hp) = (True ∧ xV k_Walk_stay C 31 [.ref x, a1, a2, a3] (.ref x :: r) hp) := xVe _ _ _ _ _ _
theorem s_Walk_stay_31 (a : Nat) (C : xCx) (L r : List Value) (hp : xHp) : (xV k_Walk_stay C 31 L (.ref a :: r) hp) = (xF hp a 11 5 (fun v => xV k_Walk_stay C 34 L (v :: r) hp)) := xVe _ _ _ _ _ _
theorem s_Walk_stay_34 (C : xCx) (r : List Value) (hp : xHp) (x : Int32) (a0 a1 a2 : Value) : (xV k_Walk_stay C 34 [a0, a1, a2, .int x] r hp) = (xV k_Walk_stay C 35 [a0, a1, a2, .int x] (.int x :: r) hp) := xVe _ _ _ _ _ _
theorem s_Walk_stay_35 (x0 : Int32) (x1 : Int32) (a : Nat) (l : Launch) (d b lo gz n0 s0 : Nat) (Po : Option Value → xHp → Prop) (L r : List Value) (hp : xHp) : (xV k_Walk_stay (l, d + 1, b, lo, gz, n0, s0, m_Walk_stay, Po) 35 L (.int x1 :: .int x0 :: .ref a :: r) hp) = (xO hp a 3 ∧ xcs r 8 ∧ xMv l d b lo gz m_Folk_grow [.ref a, .int x0, .int x1] hp (fun hp' => xV k_Walk_stay (l, d + 1, b, lo, gz, n0, s0, m_Walk_stay, Po) 38 L r hp')) := xVe _ _ _ _ _ _
theorem s_Walk_stay_38 (C : xCx) (r : List Value) (hp : xHp) (x : Nat) (a1 a2 a3 : Value) : (xV k_Walk_stay C 38 [.ref x, a1, a2, a3] r hp) = (True ∧ xV k_Walk_stay C 39 [.ref x, a1, a2, a3] (.ref x :: r) hp) := xVe _ _ _ _ _ _
theorem s_Walk_stay_39 (a : Nat) (C : xCx) (L r : List Value) (hp : xHp) : (xV k_Walk_stay C 39 L (.ref a :: r) hp) = (xF hp a 11 2 (fun v => xV k_Walk_stay C 42 L (v :: r) hp)) := xVe _ _ _ _ _ _
theorem s_Walk_stay_42 (C : xCx) (r : List Value) (hp : xHp) (x : Nat) (a1 a2 a3 : Value) : (xV k_Walk_stay C 42 [.ref x, a1, a2, a3] r hp) = (True ∧ xV k_Walk_stay C 43 [.ref x, a1, a2, a3] (.ref x :: r) hp) := xVe _ _ _ _ _ _
theorem s_Walk_stay_43 (a : Nat) (C : xCx) (L r : List Value) (hp : xHp) : (xV k_Walk_stay C 43 L (.ref a :: r) hp) = (xF hp a 11 2 (fun v => xV k_Walk_stay C 46 L (v :: r) hp)) := xVe _ _ _ _ _ _
theorem s_Walk_stay_46 (a : Nat) (l : Launch) (d b lo gz n0 s0 : Nat) (Po : Option Value → xHp → Prop) (L r : List Value) (hp : xHp) : (xV k_Walk_stay (l, d + 1, b, lo, gz, n0, s0, m_Walk_stay, Po) 46 L (.ref a :: r) hp) = (xO hp a 3 ∧ xcs r 8 ∧ xMi l d b lo gz m_Folk_day [.ref a] hp (fun x hp' => xV k_Walk_stay (l, d + 1, b, lo, gz, n0, s0, m_Walk_stay, Po) 49 L (.int x :: r) hp')) := xVe _ _ _ _ _ _
theorem s_Walk_stay_49  (C : xCx) (L r : List Value) (hp : xHp) : (xV k_Walk_stay C 49 L (r) hp) = (xV k_Walk_stay C 50 L (.int (1) :: r) hp) := xVe _ _ _ _ _ _
theorem s_Walk_stay_50 (x y : Int32) (C : xCx) (L r : List Value) (hp : xHp) : (xV k_Walk_stay C 50 L (.int y :: .int x :: r) hp) = (xV k_Walk_stay C 51 L (.int (x + y) :: r) hp) := xVe _ _ _ _ _ _
theorem s_Walk_stay_51 (x0 : Int32) (a : Nat) (l : Launch) (d b lo gz n0 s0 : Nat) (Po : Option Value → xHp → Prop) (L r : List Value) (hp : xHp) : (xV k_Walk_stay (l, d + 1, b, lo, gz, n0, s0, m_Walk_stay, Po) 51 L (.int x0 :: .ref a :: r) hp) = (xO hp a 3 ∧ xcs r 8 ∧ xMv l d b lo gz m_Folk_setDay [.ref a, .int x0] hp (fun hp' => xV k_Walk_stay (l, d + 1, b, lo, gz, n0, s0, m_Walk_stay, Po) 54 L r hp')) := xVe _ _ _ _ _ _
theorem s_Walk_stay_54 (C : xCx) (r : List Value) (hp : xHp) (x : Int32) (a0 a1 a2 : Value) : (xV k_Walk_stay C 54 [a0, a1, a2, .int x] r hp) = (xV k_Walk_stay C 55 [a0, a1, a2, .int x] (.int x :: r) hp) := xVe _ _ _ _ _ _
theorem s_Walk_stay_55 (v : Int32) (l : Launch) (d b lo gz n0 s0 : Nat) (Po : Option Value → xHp → Prop) (L : List Value) (hp : xHp) : (xV k_Walk_stay (l, d, b, lo, gz, n0, s0, m_Walk_stay, Po) 55 L [.int v] hp) = (Po (some (.int v)) hp) := xVe _ _ _ _ _ _
def k_Sun_hoursAt : List xEC := [
  (0, .aload_n 1, 1, 0, 0, 0, m_x),
  (1, .iload_n 3, 2, 0, 0, 0, m_x),
  (2, .iload_n 2, 3, 0, 0, 0, m_x),
  (3, .invokevirtual 55, 6, 3, 0, 0, m_Folk_othersAt),
  (6, .istore 4, 8, 0, 0, 0, m_x),
  (8, .aload_n 0, 9, 0, 0, 0, m_x),
  (9, .aload_n 0, 10, 0, 0, 0, m_x),
  (10, .getfield 21, 13, 9, 1, 0, m_x),
  (13, .aload_n 1, 14, 0, 0, 0, m_x),
  (14, .iload_n 2, 15, 0, 0, 0, m_x),
  (15, .iload_n 3, 16, 0, 0, 0, m_x),
  (16, .iload 4, 18, 0, 0, 0, m_x),
  (18, .aload_n 0, 19, 0, 0, 0, m_x),
  (19, .getfield 17, 22, 9, 0, 0, m_x),
  (22, .aload_n 1, 23, 0, 0, 0, m_x),
  (23, .invokevirtual 40, 26, 3, 0, 0, m_Folk_day),
  (26, .invokevirtual 59, 29, 4, 0, 0, m_Land_skyOn),
  (29, .invokevirtual 62, 32, 9, 0, 0, m_Sun_hoursBy),
  (32, .ireturn, 33, 0, 0, 0, m_x)]
theorem dc_Sun_hoursAt : ∀ E ∈ k_Sun_hoursAt, xDc m_Sun_hoursAt E := by decide +kernel
set_option maxRecDepth 20000 in
theorem ok_Sun_hoursAt : ∀ E ∈ k_Sun_hoursAt, xOk m_Sun_hoursAt E := xok_of dc_Sun_hoursAt (xfc trivial (xfc trivial (xfc trivial (xfc ⟨ml_Sun_55, kd_Folk_othersAt⟩ (xfc trivial (xfc trivial (xfc trivial (xfc fl_Sun_21 (xfc trivial (xfc trivial (xfc trivial (xfc trivial (xfc trivial (xfc fl_Sun_17 (xfc trivial (xfc ⟨ml_Sun_40, kd_Folk_day⟩ (xfc ⟨ml_Sun_59, kd_Land_skyOn⟩ (xfc ⟨ml_Sun_62, kd_Sun_hoursBy⟩ (xfc trivial (xfn))))))))))))))))))))
theorem s_Sun_hoursAt_0 (C : xCx) (r : List Value) (hp : xHp) (x : Nat) (a0 a2 a3 a4 : Value) : (xV k_Sun_hoursAt C 0 [a0, .ref x, a2, a3, a4] r hp) = (True ∧ xV k_Sun_hoursAt C 1 [a0, .ref x, a2, a3, a4] (.ref x :: r) hp) := xVe _ _ _ _ _ _
theorem s_Sun_hoursAt_1 (C : xCx) (r : List Value) (hp : xHp) (x : Int32) (a0 a1 a2 a4 : Value) : (xV k_Sun_hoursAt C 1 [a0, a1, a2, .int x, a4] r hp) = (xV k_Sun_hoursAt C 2 [a0, a1, a2, .int x, a4] (.int x :: r) hp) := xVe _ _ _ _ _ _
theorem s_Sun_hoursAt_2 (C : xCx) (r : List Value) (hp : xHp) (x : Int32) (a0 a1 a3 a4 : Value) : (xV k_Sun_hoursAt C 2 [a0, a1, .int x, a3, a4] r hp) = (xV k_Sun_hoursAt C 3 [a0, a1, .int x, a3, a4] (.int x :: r) hp) := xVe _ _ _ _ _ _
theorem s_Sun_hoursAt_3 (x0 : Int32) (x1 : Int32) (a : Nat) (l : Launch) (d b lo gz n0 s0 : Nat) (Po : Option Value → xHp → Prop) (L r : List Value) (hp : xHp) : (xV k_Sun_hoursAt (l, d + 1, b, lo, gz, n0, s0, m_Sun_hoursAt, Po) 3 L (.int x1 :: .int x0 :: .ref a :: r) hp) = (xO hp a 3 ∧ xcs r 8 ∧ xMi l d b lo gz m_Folk_othersAt [.ref a, .int x0, .int x1] hp (fun x hp' => xV k_Sun_hoursAt (l, d + 1, b, lo, gz, n0, s0, m_Sun_hoursAt, Po) 6 L (.int x :: r) hp')) := xVe _ _ _ _ _ _
theorem s_Sun_hoursAt_6 (C : xCx) (r : List Value) (hp : xHp) (x : Int32) (a0 a1 a2 a3 a4 : Value) : (xV k_Sun_hoursAt C 6 [a0, a1, a2, a3, a4] (.int x :: r) hp) = (4 < 5 ∧ xNl [a0, a1, a2, a3, a4] 4 ∧ xV k_Sun_hoursAt C 8 [a0, a1, a2, a3, .int x] r hp) := xVe _ _ _ _ _ _
theorem s_Sun_hoursAt_8 (C : xCx) (r : List Value) (hp : xHp) (x : Nat) (a1 a2 a3 a4 : Value) : (xV k_Sun_hoursAt C 8 [.ref x, a1, a2, a3, a4] r hp) = (True ∧ xV k_Sun_hoursAt C 9 [.ref x, a1, a2, a3, a4] (.ref x :: r) hp) := xVe _ _ _ _ _ _
theorem s_Sun_hoursAt_9 (C : xCx) (r : List Value) (hp : xHp) (x : Nat) (a1 a2 a3 a4 : Value) : (xV k_Sun_hoursAt C 9 [.ref x, a1, a2, a3, a4] r hp) = (True ∧ xV k_Sun_hoursAt C 10 [.ref x, a1, a2, a3, a4] (.ref x :: r) hp) := xVe _ _ _ _ _ _
theorem s_Sun_hoursAt_10 (a : Nat) (C : xCx) (L r : List Value) (hp : xHp) : (xV k_Sun_hoursAt C 10 L (.ref a :: r) hp) = (xF hp a 9 1 (fun v => xV k_Sun_hoursAt C 13 L (v :: r) hp)) := xVe _ _ _ _ _ _
theorem s_Sun_hoursAt_13 (C : xCx) (r : List Value) (hp : xHp) (x : Nat) (a0 a2 a3 a4 : Value) : (xV k_Sun_hoursAt C 13 [a0, .ref x, a2, a3, a4] r hp) = (True ∧ xV k_Sun_hoursAt C 14 [a0, .ref x, a2, a3, a4] (.ref x :: r) hp) := xVe _ _ _ _ _ _
theorem s_Sun_hoursAt_14 (C : xCx) (r : List Value) (hp : xHp) (x : Int32) (a0 a1 a3 a4 : Value) : (xV k_Sun_hoursAt C 14 [a0, a1, .int x, a3, a4] r hp) = (xV k_Sun_hoursAt C 15 [a0, a1, .int x, a3, a4] (.int x :: r) hp) := xVe _ _ _ _ _ _
theorem s_Sun_hoursAt_15 (C : xCx) (r : List Value) (hp : xHp) (x : Int32) (a0 a1 a2 a4 : Value) : (xV k_Sun_hoursAt C 15 [a0, a1, a2, .int x, a4] r hp) = (xV k_Sun_hoursAt C 16 [a0, a1, a2, .int x, a4] (.int x :: r) hp) := xVe _ _ _ _ _ _
theorem s_Sun_hoursAt_16 (C : xCx) (r : List Value) (hp : xHp) (x : Int32) (a0 a1 a2 a3 : Value) : (xV k_Sun_hoursAt C 16 [a0, a1, a2, a3, .int x] r hp) = (xV k_Sun_hoursAt C 18 [a0, a1, a2, a3, .int x] (.int x :: r) hp) := xVe _ _ _ _ _ _
theorem s_Sun_hoursAt_18 (C : xCx) (r : List Value) (hp : xHp) (x : Nat) (a1 a2 a3 a4 : Value) : (xV k_Sun_hoursAt C 18 [.ref x, a1, a2, a3, a4] r hp) = (True ∧ xV k_Sun_hoursAt C 19 [.ref x, a1, a2, a3, a4] (.ref x :: r) hp) := xVe _ _ _ _ _ _
theorem s_Sun_hoursAt_19 (a : Nat) (C : xCx) (L r : List Value) (hp : xHp) : (xV k_Sun_hoursAt C 19 L (.ref a :: r) hp) = (xF hp a 9 0 (fun v => xV k_Sun_hoursAt C 22 L (v :: r) hp)) := xVe _ _ _ _ _ _
theorem s_Sun_hoursAt_22 (C : xCx) (r : List Value) (hp : xHp) (x : Nat) (a0 a2 a3 a4 : Value) : (xV k_Sun_hoursAt C 22 [a0, .ref x, a2, a3, a4] r hp) = (True ∧ xV k_Sun_hoursAt C 23 [a0, .ref x, a2, a3, a4] (.ref x :: r) hp) := xVe _ _ _ _ _ _
theorem s_Sun_hoursAt_23 (a : Nat) (l : Launch) (d b lo gz n0 s0 : Nat) (Po : Option Value → xHp → Prop) (L r : List Value) (hp : xHp) : (xV k_Sun_hoursAt (l, d + 1, b, lo, gz, n0, s0, m_Sun_hoursAt, Po) 23 L (.ref a :: r) hp) = (xO hp a 3 ∧ xcs r 8 ∧ xMi l d b lo gz m_Folk_day [.ref a] hp (fun x hp' => xV k_Sun_hoursAt (l, d + 1, b, lo, gz, n0, s0, m_Sun_hoursAt, Po) 26 L (.int x :: r) hp')) := xVe _ _ _ _ _ _
theorem s_Sun_hoursAt_26 (x0 : Int32) (a : Nat) (l : Launch) (d b lo gz n0 s0 : Nat) (Po : Option Value → xHp → Prop) (L r : List Value) (hp : xHp) : (xV k_Sun_hoursAt (l, d + 1, b, lo, gz, n0, s0, m_Sun_hoursAt, Po) 26 L (.int x0 :: .ref a :: r) hp) = (xO hp a 4 ∧ xcs r 8 ∧ xMi l d b lo gz m_Land_skyOn [.ref a, .int x0] hp (fun x hp' => xV k_Sun_hoursAt (l, d + 1, b, lo, gz, n0, s0, m_Sun_hoursAt, Po) 29 L (.int x :: r) hp')) := xVe _ _ _ _ _ _
theorem s_Sun_hoursAt_29 (x0 : Nat) (x1 : Nat) (x2 : Int32) (x3 : Int32) (x4 : Int32) (x5 : Int32) (a : Nat) (l : Launch) (d b lo gz n0 s0 : Nat) (Po : Option Value → xHp → Prop) (L r : List Value) (hp : xHp) : (xV k_Sun_hoursAt (l, d + 1, b, lo, gz, n0, s0, m_Sun_hoursAt, Po) 29 L (.int x5 :: .int x4 :: .int x3 :: .int x2 :: .ref x1 :: .ref x0 :: .ref a :: r) hp) = (xO hp a 9 ∧ xcs r 8 ∧ xMi l d b lo gz m_Sun_hoursBy [.ref a, .ref x0, .ref x1, .int x2, .int x3, .int x4, .int x5] hp (fun x hp' => xV k_Sun_hoursAt (l, d + 1, b, lo, gz, n0, s0, m_Sun_hoursAt, Po) 32 L (.int x :: r) hp')) := xVe _ _ _ _ _ _
theorem s_Sun_hoursAt_32 (v : Int32) (l : Launch) (d b lo gz n0 s0 : Nat) (Po : Option Value → xHp → Prop) (L : List Value) (hp : xHp) : (xV k_Sun_hoursAt (l, d, b, lo, gz, n0, s0, m_Sun_hoursAt, Po) 32 L [.int v] hp) = (Po (some (.int v)) hp) := xVe _ _ _ _ _ _
theorem ml_Walk_110 : xLk "SunnyOnes$Walk" 110 m_Folk_setAge := Or.inl (wg4 87 (by decide +kernel) rfl)
def k_Walk_back : List xEC := [
  (0, .aload_n 0, 1, 0, 0, 0, m_x),
  (1, .getfield 26, 4, 11, 2, 0, m_x),
  (4, .aload_n 0, 5, 0, 0, 0, m_x),
  (5, .getfield 30, 8, 11, 5, 0, m_x),
  (8, .iload_n 1, 9, 0, 0, 0, m_x),
  (9, .invokevirtual 110, 12, 3, 0, 0, m_Folk_setAge),
  (12, .aload_n 0, 13, 0, 0, 0, m_x),
  (13, .getfield 26, 16, 11, 2, 0, m_x),
  (16, .aload_n 0, 17, 0, 0, 0, m_x),
  (17, .getfield 26, 20, 11, 2, 0, m_x),
  (20, .invokevirtual 104, 23, 3, 0, 0, m_Folk_day),
  (23, .iconst 1, 24, 0, 0, 0, m_x),
  (24, .isub, 25, 0, 0, 0, m_x),
  (25, .invokevirtual 107, 28, 3, 0, 0, m_Folk_setDay),
  (28, .return_, 29, 0, 0, 0, m_x)]
theorem dc_Walk_back : ∀ E ∈ k_Walk_back, xDc m_Walk_back E := by decide +kernel
set_option maxRecDepth 20000 in
theorem ok_Walk_back : ∀ E ∈ k_Walk_back, xOk m_Walk_back E := xok_of dc_Walk_back (xfc trivial (xfc fl_Walk_26 (xfc trivial (xfc fl_Walk_30 (xfc trivial (xfc ⟨ml_Walk_110, kd_Folk_setAge⟩ (xfc trivial (xfc fl_Walk_26 (xfc trivial (xfc fl_Walk_26 (xfc ⟨ml_Walk_104, kd_Folk_day⟩ (xfc trivial (xfc trivial (xfc ⟨ml_Walk_107, kd_Folk_setDay⟩ (xfc trivial (xfn))))))))))))))))
theorem s_Walk_back_0 (C : xCx) (r : List Value) (hp : xHp) (x : Nat) (a1 : Value) : (xV k_Walk_back C 0 [.ref x, a1] r hp) = (True ∧ xV k_Walk_back C 1 [.ref x, a1] (.ref x :: r) hp) := xVe _ _ _ _ _ _
theorem s_Walk_back_1 (a : Nat) (C : xCx) (L r : List Value) (hp : xHp) : (xV k_Walk_back C 1 L (.ref a :: r) hp) = (xF hp a 11 2 (fun v => xV k_Walk_back C 4 L (v :: r) hp)) := xVe _ _ _ _ _ _
theorem s_Walk_back_4 (C : xCx) (r : List Value) (hp : xHp) (x : Nat) (a1 : Value) : (xV k_Walk_back C 4 [.ref x, a1] r hp) = (True ∧ xV k_Walk_back C 5 [.ref x, a1] (.ref x :: r) hp) := xVe _ _ _ _ _ _
theorem s_Walk_back_5 (a : Nat) (C : xCx) (L r : List Value) (hp : xHp) : (xV k_Walk_back C 5 L (.ref a :: r) hp) = (xF hp a 11 5 (fun v => xV k_Walk_back C 8 L (v :: r) hp)) := xVe _ _ _ _ _ _
theorem s_Walk_back_8 (C : xCx) (r : List Value) (hp : xHp) (x : Int32) (a0 : Value) : (xV k_Walk_back C 8 [a0, .int x] r hp) = (xV k_Walk_back C 9 [a0, .int x] (.int x :: r) hp) := xVe _ _ _ _ _ _
theorem s_Walk_back_9 (x0 : Int32) (x1 : Int32) (a : Nat) (l : Launch) (d b lo gz n0 s0 : Nat) (Po : Option Value → xHp → Prop) (L r : List Value) (hp : xHp) : (xV k_Walk_back (l, d + 1, b, lo, gz, n0, s0, m_Walk_back, Po) 9 L (.int x1 :: .int x0 :: .ref a :: r) hp) = (xO hp a 3 ∧ xcs r 8 ∧ xMv l d b lo gz m_Folk_setAge [.ref a, .int x0, .int x1] hp (fun hp' => xV k_Walk_back (l, d + 1, b, lo, gz, n0, s0, m_Walk_back, Po) 12 L r hp')) := xVe _ _ _ _ _ _
theorem s_Walk_back_12 (C : xCx) (r : List Value) (hp : xHp) (x : Nat) (a1 : Value) : (xV k_Walk_back C 12 [.ref x, a1] r hp) = (True ∧ xV k_Walk_back C 13 [.ref x, a1] (.ref x :: r) hp) := xVe _ _ _ _ _ _
theorem s_Walk_back_13 (a : Nat) (C : xCx) (L r : List Value) (hp : xHp) : (xV k_Walk_back C 13 L (.ref a :: r) hp) = (xF hp a 11 2 (fun v => xV k_Walk_back C 16 L (v :: r) hp)) := xVe _ _ _ _ _ _
theorem s_Walk_back_16 (C : xCx) (r : List Value) (hp : xHp) (x : Nat) (a1 : Value) : (xV k_Walk_back C 16 [.ref x, a1] r hp) = (True ∧ xV k_Walk_back C 17 [.ref x, a1] (.ref x :: r) hp) := xVe _ _ _ _ _ _
theorem s_Walk_back_17 (a : Nat) (C : xCx) (L r : List Value) (hp : xHp) : (xV k_Walk_back C 17 L (.ref a :: r) hp) = (xF hp a 11 2 (fun v => xV k_Walk_back C 20 L (v :: r) hp)) := xVe _ _ _ _ _ _
theorem s_Walk_back_20 (a : Nat) (l : Launch) (d b lo gz n0 s0 : Nat) (Po : Option Value → xHp → Prop) (L r : List Value) (hp : xHp) : (xV k_Walk_back (l, d + 1, b, lo, gz, n0, s0, m_Walk_back, Po) 20 L (.ref a :: r) hp) = (xO hp a 3 ∧ xcs r 8 ∧ xMi l d b lo gz m_Folk_day [.ref a] hp (fun x hp' => xV k_Walk_back (l, d + 1, b, lo, gz, n0, s0, m_Walk_back, Po) 23 L (.int x :: r) hp')) := xVe _ _ _ _ _ _
theorem s_Walk_back_23  (C : xCx) (L r : List Value) (hp : xHp) : (xV k_Walk_back C 23 L (r) hp) = (xV k_Walk_back C 24 L (.int (1) :: r) hp) := xVe _ _ _ _ _ _
theorem s_Walk_back_24 (x y : Int32) (C : xCx) (L r : List Value) (hp : xHp) : (xV k_Walk_back C 24 L (.int y :: .int x :: r) hp) = (xV k_Walk_back C 25 L (.int (x - y) :: r) hp) := xVe _ _ _ _ _ _
theorem s_Walk_back_25 (x0 : Int32) (a : Nat) (l : Launch) (d b lo gz n0 s0 : Nat) (Po : Option Value → xHp → Prop) (L r : List Value) (hp : xHp) : (xV k_Walk_back (l, d + 1, b, lo, gz, n0, s0, m_Walk_back, Po) 25 L (.int x0 :: .ref a :: r) hp) = (xO hp a 3 ∧ xcs r 8 ∧ xMv l d b lo gz m_Folk_setDay [.ref a, .int x0] hp (fun hp' => xV k_Walk_back (l, d + 1, b, lo, gz, n0, s0, m_Walk_back, Po) 28 L r hp')) := xVe _ _ _ _ _ _
theorem s_Walk_back_28 (l : Launch) (d b lo gz n0 s0 : Nat) (Po : Option Value → xHp → Prop) (L : List Value) (hp : xHp) : (xV k_Walk_back (l, d, b, lo, gz, n0, s0, m_Walk_back, Po) 28 L [] hp) = (Po (none) hp) := xVe _ _ _ _ _ _
theorem ml_Walk_113 : xLk "SunnyOnes$Walk" 113 m_Row_clear := Or.inl (wg4 92 (by decide +kernel) rfl)
theorem ml_Walk_87 : xLk "SunnyOnes$Walk" 87 m_So_at := Or.inr ⟨"SunnyOnes", List.mem_of_getElem? (i := 15) (by decide +kernel)⟩
theorem ml_Walk_118 : xLk "SunnyOnes$Walk" 118 m_Row_add := Or.inl (wg4 94 (by decide +kernel) rfl)
def k_Walk_tellPath : List xEC := [
  (0, .aload_n 1, 1, 0, 0, 0, m_x),
  (1, .invokevirtual 113, 4, 7, 0, 0, m_Row_clear),
  (4, .iconst 0, 5, 0, 0, 0, m_x),
  (5, .istore_n 2, 6, 0, 0, 0, m_x),
  (6, .iload_n 2, 7, 0, 0, 0, m_x),
  (7, .aload_n 0, 8, 0, 0, 0, m_x),
  (8, .getfield 43, 11, 11, 7, 0, m_x),
  (11, .if_icmp .ge 22, 14, 0, 33, 0, m_x),
  (14, .aload_n 1, 15, 0, 0, 0, m_x),
  (15, .aload_n 0, 16, 0, 0, 0, m_x),
  (16, .getfield 11, 19, 11, 3, 0, m_x),
  (19, .iload_n 2, 20, 0, 0, 0, m_x),
  (20, .invokestatic 87, 23, 0, 0, 0, m_So_at),
  (23, .i2l, 24, 0, 0, 0, m_x),
  (24, .invokevirtual 118, 27, 7, 0, 0, m_Row_add),
  (27, .iinc 2 1, 30, 0, 0, 0, m_x),
  (30, .goto (-24), 33, 0, 6, 0, m_x),
  (33, .return_, 34, 0, 0, 0, m_x)]
theorem dc_Walk_tellPath : ∀ E ∈ k_Walk_tellPath, xDc m_Walk_tellPath E := by decide +kernel
set_option maxRecDepth 20000 in
theorem ok_Walk_tellPath : ∀ E ∈ k_Walk_tellPath, xOk m_Walk_tellPath E := xok_of dc_Walk_tellPath (xfc trivial (xfc ⟨ml_Walk_113, kd_Row_clear⟩ (xfc trivial (xfc trivial (xfc trivial (xfc trivial (xfc fl_Walk_43 (xfc (show ((11 : Nat) : Int) + (22) = ((33 : Nat) : Int) from by decide) (xfc trivial (xfc trivial (xfc fl_Walk_11 (xfc trivial (xfc ⟨ml_Walk_87, kd_So_at⟩ (xfc trivial (xfc ⟨ml_Walk_118, kd_Row_add⟩ (xfc trivial (xfc (show ((30 : Nat) : Int) + (-24) = ((6 : Nat) : Int) from by decide) (xfc trivial (xfn)))))))))))))))))))
theorem s_Walk_tellPath_0 (C : xCx) (r : List Value) (hp : xHp) (x : Nat) (a0 a2 : Value) : (xV k_Walk_tellPath C 0 [a0, .ref x, a2] r hp) = (True ∧ xV k_Walk_tellPath C 1 [a0, .ref x, a2] (.ref x :: r) hp) := xVe _ _ _ _ _ _
theorem s_Walk_tellPath_1 (a : Nat) (l : Launch) (d b lo gz n0 s0 : Nat) (Po : Option Value → xHp → Prop) (L r : List Value) (hp : xHp) : (xV k_Walk_tellPath (l, d + 1, b, lo, gz, n0, s0, m_Walk_tellPath, Po) 1 L (.ref a :: r) hp) = (xO hp a 7 ∧ xcs r 8 ∧ xMv l d b lo gz m_Row_clear [.ref a] hp (fun hp' => xV k_Walk_tellPath (l, d + 1, b, lo, gz, n0, s0, m_Walk_tellPath, Po) 4 L r hp')) := xVe _ _ _ _ _ _
theorem s_Walk_tellPath_4  (C : xCx) (L r : List Value) (hp : xHp) : (xV k_Walk_tellPath C 4 L (r) hp) = (xV k_Walk_tellPath C 5 L (.int (0) :: r) hp) := xVe _ _ _ _ _ _
theorem s_Walk_tellPath_5 (C : xCx) (r : List Value) (hp : xHp) (x : Int32) (a0 a1 a2 : Value) : (xV k_Walk_tellPath C 5 [a0, a1, a2] (.int x :: r) hp) = (2 < 3 ∧ xNl [a0, a1, a2] 2 ∧ xV k_Walk_tellPath C 6 [a0, a1, .int x] r hp) := xVe _ _ _ _ _ _
theorem s_Walk_tellPath_6 (C : xCx) (r : List Value) (hp : xHp) (x : Int32) (a0 a1 : Value) : (xV k_Walk_tellPath C 6 [a0, a1, .int x] r hp) = (xV k_Walk_tellPath C 7 [a0, a1, .int x] (.int x :: r) hp) := xVe _ _ _ _ _ _
theorem s_Walk_tellPath_7 (C : xCx) (r : List Value) (hp : xHp) (x : Nat) (a1 a2 : Value) : (xV k_Walk_tellPath C 7 [.ref x, a1, a2] r hp) = (True ∧ xV k_Walk_tellPath C 8 [.ref x, a1, a2] (.ref x :: r) hp) := xVe _ _ _ _ _ _
theorem s_Walk_tellPath_8 (a : Nat) (C : xCx) (L r : List Value) (hp : xHp) : (xV k_Walk_tellPath C 8 L (.ref a :: r) hp) = (xF hp a 11 7 (fun v => xV k_Walk_tellPath C 11 L (v :: r) hp)) := xVe _ _ _ _ _ _
theorem s_Walk_tellPath_11 (x y : Int32) (C : xCx) (L r : List Value) (hp : xHp) : (xV k_Walk_tellPath C 11 L (.int y :: .int x :: r) hp) = (((y ≤ x → xV k_Walk_tellPath C 33 L r hp) ∧ (¬ y ≤ x → xV k_Walk_tellPath C 14 L r hp))) := xVe _ _ _ _ _ _
theorem s_Walk_tellPath_14 (C : xCx) (r : List Value) (hp : xHp) (x : Nat) (a0 a2 : Value) : (xV k_Walk_tellPath C 14 [a0, .ref x, a2] r hp) = (True ∧ xV k_Walk_tellPath C 15 [a0, .ref x, a2] (.ref x :: r) hp) := xVe _ _ _ _ _ _
theorem s_Walk_tellPath_15 (C : xCx) (r : List Value) (hp : xHp) (x : Nat) (a1 a2 : Value) : (xV k_Walk_tellPath C 15 [.ref x, a1, a2] r hp) = (True ∧ xV k_Walk_tellPath C 16 [.ref x, a1, a2] (.ref x :: r) hp) := xVe _ _ _ _ _ _
theorem s_Walk_tellPath_16 (a : Nat) (C : xCx) (L r : List Value) (hp : xHp) : (xV k_Walk_tellPath C 16 L (.ref a :: r) hp) = (xF hp a 11 3 (fun v => xV k_Walk_tellPath C 19 L (v :: r) hp)) := xVe _ _ _ _ _ _
theorem s_Walk_tellPath_19 (C : xCx) (r : List Value) (hp : xHp) (x : Int32) (a0 a1 : Value) : (xV k_Walk_tellPath C 19 [a0, a1, .int x] r hp) = (xV k_Walk_tellPath C 20 [a0, a1, .int x] (.int x :: r) hp) := xVe _ _ _ _ _ _
theorem s_Walk_tellPath_20 (x0 : Nat) (x1 : Int32) (l : Launch) (d b lo gz n0 s0 : Nat) (Po : Option Value → xHp → Prop) (L r : List Value) (hp : xHp) : (xV k_Walk_tellPath (l, d + 1, b, lo, gz, n0, s0, m_Walk_tellPath, Po) 20 L (.int x1 :: .ref x0 :: r) hp) = (2 ≤ List.length (.int x1 :: .ref x0 :: r) ∧ xcs r 8 ∧ xMi l d b lo gz m_So_at [.ref x0, .int x1] hp (fun x hp' => xV k_Walk_tellPath (l, d + 1, b, lo, gz, n0, s0, m_Walk_tellPath, Po) 23 L (.int x :: r) hp')) := xVe _ _ _ _ _ _
theorem s_Walk_tellPath_23 (x : Int32) (C : xCx) (L r : List Value) (hp : xHp) : (xV k_Walk_tellPath C 23 L (.int x :: r) hp) = (xV k_Walk_tellPath C 24 L (.long x.toInt64 :: r) hp) := xVe _ _ _ _ _ _
theorem s_Walk_tellPath_24 (x0 : Int64) (a : Nat) (l : Launch) (d b lo gz n0 s0 : Nat) (Po : Option Value → xHp → Prop) (L r : List Value) (hp : xHp) : (xV k_Walk_tellPath (l, d + 1, b, lo, gz, n0, s0, m_Walk_tellPath, Po) 24 L (.long x0 :: .ref a :: r) hp) = (xO hp a 7 ∧ xcs r 8 ∧ xMv l d b lo gz m_Row_add [.ref a, .long x0] hp (fun hp' => xV k_Walk_tellPath (l, d + 1, b, lo, gz, n0, s0, m_Walk_tellPath, Po) 27 L r hp')) := xVe _ _ _ _ _ _
theorem s_Walk_tellPath_27 (C : xCx) (r : List Value) (hp : xHp) (x : Int32) (a0 a1 : Value) : (xV k_Walk_tellPath C 27 [a0, a1, .int x] r hp) = (xNl [a0, a1, .int x] 2 ∧ xV k_Walk_tellPath C 30 [a0, a1, .int (x + (1))] r hp) := xVe _ _ _ _ _ _
theorem s_Walk_tellPath_30 (C : xCx) (L r : List Value) (hp : xHp) : (xV k_Walk_tellPath C 30 L r hp) = (xV k_Walk_tellPath C 6 L r hp) := xVe _ _ _ _ _ _
theorem s_Walk_tellPath_33 (l : Launch) (d b lo gz n0 s0 : Nat) (Po : Option Value → xHp → Prop) (L : List Value) (hp : xHp) : (xV k_Walk_tellPath (l, d, b, lo, gz, n0, s0, m_Walk_tellPath, Po) 33 L [] hp) = (Po (none) hp) := xVe _ _ _ _ _ _
theorem ml_Walk_80 : xLk "SunnyOnes$Walk" 80 m_Walk_gather := Or.inl (wg4 103 (by decide +kernel) rfl)
def k_Walk_waysTo : List xEC := [
  (0, .aload_n 0, 1, 0, 0, 0, m_x),
  (1, .iload_n 1, 2, 0, 0, 0, m_x),
  (2, .iload_n 2, 3, 0, 0, 0, m_x),
  (3, .iload_n 3, 4, 0, 0, 0, m_x),
  (4, .invokevirtual 49, 7, 11, 0, 0, m_Walk_start),
  (7, .aload_n 0, 8, 0, 0, 0, m_x),
  (8, .iconst 0, 9, 0, 0, 0, m_x),
  (9, .iconst 0, 10, 0, 0, 0, m_x),
  (10, .invokevirtual 80, 13, 11, 0, 0, m_Walk_gather),
  (13, .aload_n 0, 14, 0, 0, 0, m_x),
  (14, .getfield 46, 17, 11, 8, 0, m_x),
  (17, .ireturn, 18, 0, 0, 0, m_x)]
theorem dc_Walk_waysTo : ∀ E ∈ k_Walk_waysTo, xDc m_Walk_waysTo E := by decide +kernel
set_option maxRecDepth 20000 in
theorem ok_Walk_waysTo : ∀ E ∈ k_Walk_waysTo, xOk m_Walk_waysTo E := xok_of dc_Walk_waysTo (xfc trivial (xfc trivial (xfc trivial (xfc trivial (xfc ⟨ml_Walk_49, kd_Walk_start⟩ (xfc trivial (xfc trivial (xfc trivial (xfc ⟨ml_Walk_80, kd_Walk_gather⟩ (xfc trivial (xfc fl_Walk_46 (xfc trivial (xfn)))))))))))))
theorem s_Walk_waysTo_0 (C : xCx) (r : List Value) (hp : xHp) (x : Nat) (a1 a2 a3 : Value) : (xV k_Walk_waysTo C 0 [.ref x, a1, a2, a3] r hp) = (True ∧ xV k_Walk_waysTo C 1 [.ref x, a1, a2, a3] (.ref x :: r) hp) := xVe _ _ _ _ _ _
theorem s_Walk_waysTo_1 (C : xCx) (r : List Value) (hp : xHp) (x : Int32) (a0 a2 a3 : Value) : (xV k_Walk_waysTo C 1 [a0, .int x, a2, a3] r hp) = (xV k_Walk_waysTo C 2 [a0, .int x, a2, a3] (.int x :: r) hp) := xVe _ _ _ _ _ _
theorem s_Walk_waysTo_2 (C : xCx) (r : List Value) (hp : xHp) (x : Int32) (a0 a1 a3 : Value) : (xV k_Walk_waysTo C 2 [a0, a1, .int x, a3] r hp) = (xV k_Walk_waysTo C 3 [a0, a1, .int x, a3] (.int x :: r) hp) := xVe _ _ _ _ _ _
theorem s_Walk_waysTo_3 (C : xCx) (r : List Value) (hp : xHp) (x : Int32) (a0 a1 a2 : Value) : (xV k_Walk_waysTo C 3 [a0, a1, a2, .int x] r hp) = (xV k_Walk_waysTo C 4 [a0, a1, a2, .int x] (.int x :: r) hp) := xVe _ _ _ _ _ _
theorem s_Walk_waysTo_4 (x0 : Int32) (x1 : Int32) (x2 : Int32) (a : Nat) (l : Launch) (d b lo gz n0 s0 : Nat) (Po : Option Value → xHp → Prop) (L r : List Value) (hp : xHp) : (xV k_Walk_waysTo (l, d + 1, b, lo, gz, n0, s0, m_Walk_waysTo, Po) 4 L (.int x2 :: .int x1 :: .int x0 :: .ref a :: r) hp) = (xO hp a 11 ∧ xcs r 8 ∧ xMv l d b lo gz m_Walk_start [.ref a, .int x0, .int x1, .int x2] hp (fun hp' => xV k_Walk_waysTo (l, d + 1, b, lo, gz, n0, s0, m_Walk_waysTo, Po) 7 L r hp')) := xVe _ _ _ _ _ _
theorem s_Walk_waysTo_7 (C : xCx) (r : List Value) (hp : xHp) (x : Nat) (a1 a2 a3 : Value) : (xV k_Walk_waysTo C 7 [.ref x, a1, a2, a3] r hp) = (True ∧ xV k_Walk_waysTo C 8 [.ref x, a1, a2, a3] (.ref x :: r) hp) := xVe _ _ _ _ _ _
theorem s_Walk_waysTo_8  (C : xCx) (L r : List Value) (hp : xHp) : (xV k_Walk_waysTo C 8 L (r) hp) = (xV k_Walk_waysTo C 9 L (.int (0) :: r) hp) := xVe _ _ _ _ _ _
theorem s_Walk_waysTo_9  (C : xCx) (L r : List Value) (hp : xHp) : (xV k_Walk_waysTo C 9 L (r) hp) = (xV k_Walk_waysTo C 10 L (.int (0) :: r) hp) := xVe _ _ _ _ _ _
theorem s_Walk_waysTo_10 (x0 : Int32) (x1 : Int32) (a : Nat) (l : Launch) (d b lo gz n0 s0 : Nat) (Po : Option Value → xHp → Prop) (L r : List Value) (hp : xHp) : (xV k_Walk_waysTo (l, d + 1, b, lo, gz, n0, s0, m_Walk_waysTo, Po) 10 L (.int x1 :: .int x0 :: .ref a :: r) hp) = (xO hp a 11 ∧ xcs r 8 ∧ xMv l d b lo gz m_Walk_gather [.ref a, .int x0, .int x1] hp (fun hp' => xV k_Walk_waysTo (l, d + 1, b, lo, gz, n0, s0, m_Walk_waysTo, Po) 13 L r hp')) := xVe _ _ _ _ _ _
theorem s_Walk_waysTo_13 (C : xCx) (r : List Value) (hp : xHp) (x : Nat) (a1 a2 a3 : Value) : (xV k_Walk_waysTo C 13 [.ref x, a1, a2, a3] r hp) = (True ∧ xV k_Walk_waysTo C 14 [.ref x, a1, a2, a3] (.ref x :: r) hp) := xVe _ _ _ _ _ _
theorem s_Walk_waysTo_14 (a : Nat) (C : xCx) (L r : List Value) (hp : xHp) : (xV k_Walk_waysTo C 14 L (.ref a :: r) hp) = (xF hp a 11 8 (fun v => xV k_Walk_waysTo C 17 L (v :: r) hp)) := xVe _ _ _ _ _ _
theorem s_Walk_waysTo_17 (v : Int32) (l : Launch) (d b lo gz n0 s0 : Nat) (Po : Option Value → xHp → Prop) (L : List Value) (hp : xHp) : (xV k_Walk_waysTo (l, d, b, lo, gz, n0, s0, m_Walk_waysTo, Po) 17 L [.int v] hp) = (Po (some (.int v)) hp) := xVe _ _ _ _ _ _
theorem ml_Walk_84 : xLk "SunnyOnes$Walk" 84 m_Walk_keepFirst := Or.inl (wg4 107 (by decide +kernel) rfl)
def k_Walk_gather : List xEC := [
  (0, .aload_n 0, 1, 0, 0, 0, m_x),
  (1, .getfield 34, 4, 11, 6, 0, m_x),
  (4, .iload_n 2, 5, 0, 0, 0, m_x),
  (5, .isub, 6, 0, 0, 0, m_x),
  (6, .aload_n 0, 7, 0, 0, 0, m_x),
  (7, .getfield 43, 10, 11, 7, 0, m_x),
  (10, .iload_n 1, 11, 0, 0, 0, m_x),
  (11, .isub, 12, 0, 0, 0, m_x),
  (12, .invokestatic 63, 15, 0, 0, 0, m_Walk_leadsNowhere),
  (15, .ifCond .eq 4, 18, 0, 19, 0, m_x),
  (18, .return_, 19, 0, 0, 0, m_x),
  (19, .iload_n 1, 20, 0, 0, 0, m_x),
  (20, .aload_n 0, 21, 0, 0, 0, m_x),
  (21, .getfield 43, 24, 11, 7, 0, m_x),
  (24, .if_icmp .lt 18, 27, 0, 42, 0, m_x),
  (27, .aload_n 0, 28, 0, 0, 0, m_x),
  (28, .invokevirtual 84, 31, 11, 0, 0, m_Walk_keepFirst),
  (31, .aload_n 0, 32, 0, 0, 0, m_x),
  (32, .dup, 33, 0, 0, 0, m_x),
  (33, .getfield 46, 36, 11, 8, 0, m_x),
  (36, .iconst 1, 37, 0, 0, 0, m_x),
  (37, .iadd, 38, 0, 0, 0, m_x),
  (38, .putfield 46, 41, 11, 8, 0, m_x),
  (41, .return_, 42, 0, 0, 0, m_x),
  (42, .aload_n 0, 43, 0, 0, 0, m_x),
  (43, .getfield 26, 46, 11, 2, 0, m_x),
  (46, .aload_n 0, 47, 0, 0, 0, m_x),
  (47, .getfield 30, 50, 11, 5, 0, m_x),
  (50, .invokevirtual 57, 53, 3, 0, 0, m_Folk_age),
  (53, .istore_n 3, 54, 0, 0, 0, m_x),
  (54, .iconst 0, 55, 0, 0, 0, m_x),
  (55, .istore 4, 57, 0, 0, 0, m_x),
  (57, .iload 4, 59, 0, 0, 0, m_x),
  (59, .aload_n 0, 60, 0, 0, 0, m_x),
  (60, .getfield 18, 63, 11, 0, 0, m_x),
  (63, .invokevirtual 67, 66, 4, 0, 0, m_Land_size),
  (66, .if_icmp .ge 34, 69, 0, 100, 0, m_x),
  (69, .aload_n 0, 70, 0, 0, 0, m_x),
  (70, .iload_n 1, 71, 0, 0, 0, m_x),
  (71, .iload 4, 73, 0, 0, 0, m_x),
  (73, .invokevirtual 73, 76, 11, 0, 0, m_Walk_stay),
  (76, .istore 5, 78, 0, 0, 0, m_x),
  (78, .aload_n 0, 79, 0, 0, 0, m_x),
  (79, .iload_n 1, 80, 0, 0, 0, m_x),
  (80, .iconst 1, 81, 0, 0, 0, m_x),
  (81, .iadd, 82, 0, 0, 0, m_x),
  (82, .iload_n 2, 83, 0, 0, 0, m_x),
  (83, .iload 5, 85, 0, 0, 0, m_x),
  (85, .iadd, 86, 0, 0, 0, m_x),
  (86, .invokevirtual 80, 89, 11, 0, 0, m_Walk_gather),
  (89, .aload_n 0, 90, 0, 0, 0, m_x),
  (90, .iload_n 3, 91, 0, 0, 0, m_x),
  (91, .invokevirtual 76, 94, 11, 0, 0, m_Walk_back),
  (94, .iinc 4 1, 97, 0, 0, 0, m_x),
  (97, .goto (-40), 100, 0, 57, 0, m_x),
  (100, .return_, 101, 0, 0, 0, m_x)]
theorem dc_Walk_gather : ∀ E ∈ k_Walk_gather, xDc m_Walk_gather E := by decide +kernel
set_option maxRecDepth 20000 in
theorem ok_Walk_gather : ∀ E ∈ k_Walk_gather, xOk m_Walk_gather E := xok_of dc_Walk_gather (xfc trivial (xfc fl_Walk_34 (xfc trivial (xfc trivial (xfc trivial (xfc fl_Walk_43 (xfc trivial (xfc trivial (xfc ⟨ml_Walk_63, kd_Walk_leadsNowhere⟩ (xfc (show ((15 : Nat) : Int) + (4) = ((19 : Nat) : Int) from by decide) (xfc trivial (xfc trivial (xfc trivial (xfc fl_Walk_43 (xfc (show ((24 : Nat) : Int) + (18) = ((42 : Nat) : Int) from by decide) (xfc trivial (xfc ⟨ml_Walk_84, kd_Walk_keepFirst⟩ (xfc trivial (xfc trivial (xfc fl_Walk_46 (xfc trivial (xfc trivial (xfc ⟨fl_Walk_46, fun q h f => by cases h; exact absurd f (by decide)⟩ (xfc trivial (xfc trivial (xfc fl_Walk_26 (xfc trivial (xfc fl_Walk_30 (xfc ⟨ml_Walk_57, kd_Folk_age⟩ (xfc trivial (xfc trivial (xfc trivial (xfc trivial (xfc trivial (xfc fl_Walk_18 (xfc ⟨ml_Walk_67, kd_Land_size⟩ (xfc (show ((66 : Nat) : Int) + (34) = ((100 : Nat) : Int) from by decide) (xfc trivial (xfc trivial (xfc trivial (xfc ⟨ml_Walk_73, kd_Walk_stay⟩ (xfc trivial (xfc trivial (xfc trivial (xfc trivial (xfc trivial (xfc trivial (xfc trivial (xfc trivial (xfc ⟨ml_Walk_80, kd_Walk_gather⟩ (xfc trivial (xfc trivial (xfc ⟨ml_Walk_76, kd_Walk_back⟩ (xfc trivial (xfc (show ((97 : Nat) : Int) + (-40) = ((57 : Nat) : Int) from by decide) (xfc trivial (xfn)))))))))))))))))))))))))))))))))))))))))))))))))))))))))
theorem s_Walk_gather_0 (C : xCx) (r : List Value) (hp : xHp) (x : Nat) (a1 a2 a3 a4 a5 : Value) : (xV k_Walk_gather C 0 [.ref x, a1, a2, a3, a4, a5] r hp) = (True ∧ xV k_Walk_gather C 1 [.ref x, a1, a2, a3, a4, a5] (.ref x :: r) hp) := xVe _ _ _ _ _ _
theorem s_Walk_gather_1 (a : Nat) (C : xCx) (L r : List Value) (hp : xHp) : (xV k_Walk_gather C 1 L (.ref a :: r) hp) = (xF hp a 11 6 (fun v => xV k_Walk_gather C 4 L (v :: r) hp)) := xVe _ _ _ _ _ _
theorem s_Walk_gather_4 (C : xCx) (r : List Value) (hp : xHp) (x : Int32) (a0 a1 a3 a4 a5 : Value) : (xV k_Walk_gather C 4 [a0, a1, .int x, a3, a4, a5] r hp) = (xV k_Walk_gather C 5 [a0, a1, .int x, a3, a4, a5] (.int x :: r) hp) := xVe _ _ _ _ _ _
theorem s_Walk_gather_5 (x y : Int32) (C : xCx) (L r : List Value) (hp : xHp) : (xV k_Walk_gather C 5 L (.int y :: .int x :: r) hp) = (xV k_Walk_gather C 6 L (.int (x - y) :: r) hp) := xVe _ _ _ _ _ _
theorem s_Walk_gather_6 (C : xCx) (r : List Value) (hp : xHp) (x : Nat) (a1 a2 a3 a4 a5 : Value) : (xV k_Walk_gather C 6 [.ref x, a1, a2, a3, a4, a5] r hp) = (True ∧ xV k_Walk_gather C 7 [.ref x, a1, a2, a3, a4, a5] (.ref x :: r) hp) := xVe _ _ _ _ _ _
theorem s_Walk_gather_7 (a : Nat) (C : xCx) (L r : List Value) (hp : xHp) : (xV k_Walk_gather C 7 L (.ref a :: r) hp) = (xF hp a 11 7 (fun v => xV k_Walk_gather C 10 L (v :: r) hp)) := xVe _ _ _ _ _ _
theorem s_Walk_gather_10 (C : xCx) (r : List Value) (hp : xHp) (x : Int32) (a0 a2 a3 a4 a5 : Value) : (xV k_Walk_gather C 10 [a0, .int x, a2, a3, a4, a5] r hp) = (xV k_Walk_gather C 11 [a0, .int x, a2, a3, a4, a5] (.int x :: r) hp) := xVe _ _ _ _ _ _
theorem s_Walk_gather_11 (x y : Int32) (C : xCx) (L r : List Value) (hp : xHp) : (xV k_Walk_gather C 11 L (.int y :: .int x :: r) hp) = (xV k_Walk_gather C 12 L (.int (x - y) :: r) hp) := xVe _ _ _ _ _ _
theorem s_Walk_gather_12 (x0 : Int32) (x1 : Int32) (l : Launch) (d b lo gz n0 s0 : Nat) (Po : Option Value → xHp → Prop) (L r : List Value) (hp : xHp) : (xV k_Walk_gather (l, d + 1, b, lo, gz, n0, s0, m_Walk_gather, Po) 12 L (.int x1 :: .int x0 :: r) hp) = (2 ≤ List.length (.int x1 :: .int x0 :: r) ∧ xcs r 8 ∧ xMi l d b lo gz m_Walk_leadsNowhere [.int x0, .int x1] hp (fun x hp' => xV k_Walk_gather (l, d + 1, b, lo, gz, n0, s0, m_Walk_gather, Po) 15 L (.int x :: r) hp')) := xVe _ _ _ _ _ _
theorem s_Walk_gather_15 (x : Int32) (C : xCx) (L r : List Value) (hp : xHp) : (xV k_Walk_gather C 15 L (.int x :: r) hp) = (((x = 0 → xV k_Walk_gather C 19 L r hp) ∧ (¬ x = 0 → xV k_Walk_gather C 18 L r hp))) := xVe _ _ _ _ _ _
theorem s_Walk_gather_18 (l : Launch) (d b lo gz n0 s0 : Nat) (Po : Option Value → xHp → Prop) (L : List Value) (hp : xHp) : (xV k_Walk_gather (l, d, b, lo, gz, n0, s0, m_Walk_gather, Po) 18 L [] hp) = (Po (none) hp) := xVe _ _ _ _ _ _
theorem s_Walk_gather_19 (C : xCx) (r : List Value) (hp : xHp) (x : Int32) (a0 a2 a3 a4 a5 : Value) : (xV k_Walk_gather C 19 [a0, .int x, a2, a3, a4, a5] r hp) = (xV k_Walk_gather C 20 [a0, .int x, a2, a3, a4, a5] (.int x :: r) hp) := xVe _ _ _ _ _ _
theorem s_Walk_gather_20 (C : xCx) (r : List Value) (hp : xHp) (x : Nat) (a1 a2 a3 a4 a5 : Value) : (xV k_Walk_gather C 20 [.ref x, a1, a2, a3, a4, a5] r hp) = (True ∧ xV k_Walk_gather C 21 [.ref x, a1, a2, a3, a4, a5] (.ref x :: r) hp) := xVe _ _ _ _ _ _
theorem s_Walk_gather_21 (a : Nat) (C : xCx) (L r : List Value) (hp : xHp) : (xV k_Walk_gather C 21 L (.ref a :: r) hp) = (xF hp a 11 7 (fun v => xV k_Walk_gather C 24 L (v :: r) hp)) := xVe _ _ _ _ _ _
theorem s_Walk_gather_24 (x y : Int32) (C : xCx) (L r : List Value) (hp : xHp) : (xV k_Walk_gather C 24 L (.int y :: .int x :: r) hp) = (((x < y → xV k_Walk_gather C 42 L r hp) ∧ (¬ x < y → xV k_Walk_gather C 27 L r hp))) := xVe _ _ _ _ _ _
theorem s_Walk_gather_27 (C : xCx) (r : List Value) (hp : xHp) (x : Nat) (a1 a2 a3 a4 a5 : Value) : (xV k_Walk_gather C 27 [.ref x, a1, a2, a3, a4, a5] r hp) = (True ∧ xV k_Walk_gather C 28 [.ref x, a1, a2, a3, a4, a5] (.ref x :: r) hp) := xVe _ _ _ _ _ _
theorem s_Walk_gather_28 (a : Nat) (l : Launch) (d b lo gz n0 s0 : Nat) (Po : Option Value → xHp → Prop) (L r : List Value) (hp : xHp) : (xV k_Walk_gather (l, d + 1, b, lo, gz, n0, s0, m_Walk_gather, Po) 28 L (.ref a :: r) hp) = (xO hp a 11 ∧ xcs r 8 ∧ xMv l d b lo gz m_Walk_keepFirst [.ref a] hp (fun hp' => xV k_Walk_gather (l, d + 1, b, lo, gz, n0, s0, m_Walk_gather, Po) 31 L r hp')) := xVe _ _ _ _ _ _
theorem s_Walk_gather_31 (C : xCx) (r : List Value) (hp : xHp) (x : Nat) (a1 a2 a3 a4 a5 : Value) : (xV k_Walk_gather C 31 [.ref x, a1, a2, a3, a4, a5] r hp) = (True ∧ xV k_Walk_gather C 32 [.ref x, a1, a2, a3, a4, a5] (.ref x :: r) hp) := xVe _ _ _ _ _ _
theorem s_Walk_gather_32 (v : Value) (C : xCx) (L r : List Value) (hp : xHp) : (xV k_Walk_gather C 32 L (v :: r) hp) = (v.category = 1 ∧ xV k_Walk_gather C 33 L (v :: v :: r) hp) := xVe _ _ _ _ _ _
theorem s_Walk_gather_33 (a : Nat) (C : xCx) (L r : List Value) (hp : xHp) : (xV k_Walk_gather C 33 L (.ref a :: r) hp) = (xF hp a 11 8 (fun v => xV k_Walk_gather C 36 L (v :: r) hp)) := xVe _ _ _ _ _ _
theorem s_Walk_gather_36  (C : xCx) (L r : List Value) (hp : xHp) : (xV k_Walk_gather C 36 L (r) hp) = (xV k_Walk_gather C 37 L (.int (1) :: r) hp) := xVe _ _ _ _ _ _
theorem s_Walk_gather_37 (x y : Int32) (C : xCx) (L r : List Value) (hp : xHp) : (xV k_Walk_gather C 37 L (.int y :: .int x :: r) hp) = (xV k_Walk_gather C 38 L (.int (x + y) :: r) hp) := xVe _ _ _ _ _ _
theorem s_Walk_gather_38 (x : Int32) (a : Nat) (C : xCx) (L r : List Value) (hp : xHp) : (xV k_Walk_gather C 38 L (.int x :: .ref a :: r) hp) = (True ∧ xPf hp a 11 8 (.int x) (fun hp' => xV k_Walk_gather C 41 L r hp')) := xVe _ _ _ _ _ _
theorem s_Walk_gather_41 (l : Launch) (d b lo gz n0 s0 : Nat) (Po : Option Value → xHp → Prop) (L : List Value) (hp : xHp) : (xV k_Walk_gather (l, d, b, lo, gz, n0, s0, m_Walk_gather, Po) 41 L [] hp) = (Po (none) hp) := xVe _ _ _ _ _ _
theorem s_Walk_gather_42 (C : xCx) (r : List Value) (hp : xHp) (x : Nat) (a1 a2 a3 a4 a5 : Value) : (xV k_Walk_gather C 42 [.ref x, a1, a2, a3, a4, a5] r hp) = (True ∧ xV k_Walk_gather C 43 [.ref x, a1, a2, a3, a4, a5] (.ref x :: r) hp) := xVe _ _ _ _ _ _
theorem s_Walk_gather_43 (a : Nat) (C : xCx) (L r : List Value) (hp : xHp) : (xV k_Walk_gather C 43 L (.ref a :: r) hp) = (xF hp a 11 2 (fun v => xV k_Walk_gather C 46 L (v :: r) hp)) := xVe _ _ _ _ _ _
theorem s_Walk_gather_46 (C : xCx) (r : List Value) (hp : xHp) (x : Nat) (a1 a2 a3 a4 a5 : Value) : (xV k_Walk_gather C 46 [.ref x, a1, a2, a3, a4, a5] r hp) = (True ∧ xV k_Walk_gather C 47 [.ref x, a1, a2, a3, a4, a5] (.ref x :: r) hp) := xVe _ _ _ _ _ _
theorem s_Walk_gather_47 (a : Nat) (C : xCx) (L r : List Value) (hp : xHp) : (xV k_Walk_gather C 47 L (.ref a :: r) hp) = (xF hp a 11 5 (fun v => xV k_Walk_gather C 50 L (v :: r) hp)) := xVe _ _ _ _ _ _
theorem s_Walk_gather_50 (x0 : Int32) (a : Nat) (l : Launch) (d b lo gz n0 s0 : Nat) (Po : Option Value → xHp → Prop) (L r : List Value) (hp : xHp) : (xV k_Walk_gather (l, d + 1, b, lo, gz, n0, s0, m_Walk_gather, Po) 50 L (.int x0 :: .ref a :: r) hp) = (xO hp a 3 ∧ xcs r 8 ∧ xMi l d b lo gz m_Folk_age [.ref a, .int x0] hp (fun x hp' => xV k_Walk_gather (l, d + 1, b, lo, gz, n0, s0, m_Walk_gather, Po) 53 L (.int x :: r) hp')) := xVe _ _ _ _ _ _
theorem s_Walk_gather_53 (C : xCx) (r : List Value) (hp : xHp) (x : Int32) (a0 a1 a2 a3 a4 a5 : Value) : (xV k_Walk_gather C 53 [a0, a1, a2, a3, a4, a5] (.int x :: r) hp) = (3 < 6 ∧ xNl [a0, a1, a2, a3, a4, a5] 3 ∧ xV k_Walk_gather C 54 [a0, a1, a2, .int x, a4, a5] r hp) := xVe _ _ _ _ _ _
theorem s_Walk_gather_54  (C : xCx) (L r : List Value) (hp : xHp) : (xV k_Walk_gather C 54 L (r) hp) = (xV k_Walk_gather C 55 L (.int (0) :: r) hp) := xVe _ _ _ _ _ _
theorem s_Walk_gather_55 (C : xCx) (r : List Value) (hp : xHp) (x : Int32) (a0 a1 a2 a3 a4 a5 : Value) : (xV k_Walk_gather C 55 [a0, a1, a2, a3, a4, a5] (.int x :: r) hp) = (4 < 6 ∧ xNl [a0, a1, a2, a3, a4, a5] 4 ∧ xV k_Walk_gather C 57 [a0, a1, a2, a3, .int x, a5] r hp) := xVe _ _ _ _ _ _
theorem s_Walk_gather_57 (C : xCx) (r : List Value) (hp : xHp) (x : Int32) (a0 a1 a2 a3 a5 : Value) : (xV k_Walk_gather C 57 [a0, a1, a2, a3, .int x, a5] r hp) = (xV k_Walk_gather C 59 [a0, a1, a2, a3, .int x, a5] (.int x :: r) hp) := xVe _ _ _ _ _ _
theorem s_Walk_gather_59 (C : xCx) (r : List Value) (hp : xHp) (x : Nat) (a1 a2 a3 a4 a5 : Value) : (xV k_Walk_gather C 59 [.ref x, a1, a2, a3, a4, a5] r hp) = (True ∧ xV k_Walk_gather C 60 [.ref x, a1, a2, a3, a4, a5] (.ref x :: r) hp) := xVe _ _ _ _ _ _
theorem s_Walk_gather_60 (a : Nat) (C : xCx) (L r : List Value) (hp : xHp) : (xV k_Walk_gather C 60 L (.ref a :: r) hp) = (xF hp a 11 0 (fun v => xV k_Walk_gather C 63 L (v :: r) hp)) := xVe _ _ _ _ _ _
theorem s_Walk_gather_63 (a : Nat) (l : Launch) (d b lo gz n0 s0 : Nat) (Po : Option Value → xHp → Prop) (L r : List Value) (hp : xHp) : (xV k_Walk_gather (l, d + 1, b, lo, gz, n0, s0, m_Walk_gather, Po) 63 L (.ref a :: r) hp) = (xO hp a 4 ∧ xcs r 8 ∧ xMi l d b lo gz m_Land_size [.ref a] hp (fun x hp' => xV k_Walk_gather (l, d + 1, b, lo, gz, n0, s0, m_Walk_gather, Po) 66 L (.int x :: r) hp')) := xVe _ _ _ _ _ _
theorem s_Walk_gather_66 (x y : Int32) (C : xCx) (L r : List Value) (hp : xHp) : (xV k_Walk_gather C 66 L (.int y :: .int x :: r) hp) = (((y ≤ x → xV k_Walk_gather C 100 L r hp) ∧ (¬ y ≤ x → xV k_Walk_gather C 69 L r hp))) := xVe _ _ _ _ _ _
theorem s_Walk_gather_69 (C : xCx) (r : List Value) (hp : xHp) (x : Nat) (a1 a2 a3 a4 a5 : Value) : (xV k_Walk_gather C 69 [.ref x, a1, a2, a3, a4, a5] r hp) = (True ∧ xV k_Walk_gather C 70 [.ref x, a1, a2, a3, a4, a5] (.ref x :: r) hp) := xVe _ _ _ _ _ _
theorem s_Walk_gather_70 (C : xCx) (r : List Value) (hp : xHp) (x : Int32) (a0 a2 a3 a4 a5 : Value) : (xV k_Walk_gather C 70 [a0, .int x, a2, a3, a4, a5] r hp) = (xV k_Walk_gather C 71 [a0, .int x, a2, a3, a4, a5] (.int x :: r) hp) := xVe _ _ _ _ _ _
theorem s_Walk_gather_71 (C : xCx) (r : List Value) (hp : xHp) (x : Int32) (a0 a1 a2 a3 a5 : Value) : (xV k_Walk_gather C 71 [a0, a1, a2, a3, .int x, a5] r hp) = (xV k_Walk_gather C 73 [a0, a1, a2, a3, .int x, a5] (.int x :: r) hp) := xVe _ _ _ _ _ _
theorem s_Walk_gather_73 (x0 : Int32) (x1 : Int32) (a : Nat) (l : Launch) (d b lo gz n0 s0 : Nat) (Po : Option Value → xHp → Prop) (L r : List Value) (hp : xHp) : (xV k_Walk_gather (l, d + 1, b, lo, gz, n0, s0, m_Walk_gather, Po) 73 L (.int x1 :: .int x0 :: .ref a :: r) hp) = (xO hp a 11 ∧ xcs r 8 ∧ xMi l d b lo gz m_Walk_stay [.ref a, .int x0, .int x1] hp (fun x hp' => xV k_Walk_gather (l, d + 1, b, lo, gz, n0, s0, m_Walk_gather, Po) 76 L (.int x :: r) hp')) := xVe _ _ _ _ _ _
theorem s_Walk_gather_76 (C : xCx) (r : List Value) (hp : xHp) (x : Int32) (a0 a1 a2 a3 a4 a5 : Value) : (xV k_Walk_gather C 76 [a0, a1, a2, a3, a4, a5] (.int x :: r) hp) = (5 < 6 ∧ xNl [a0, a1, a2, a3, a4, a5] 5 ∧ xV k_Walk_gather C 78 [a0, a1, a2, a3, a4, .int x] r hp) := xVe _ _ _ _ _ _
theorem s_Walk_gather_78 (C : xCx) (r : List Value) (hp : xHp) (x : Nat) (a1 a2 a3 a4 a5 : Value) : (xV k_Walk_gather C 78 [.ref x, a1, a2, a3, a4, a5] r hp) = (True ∧ xV k_Walk_gather C 79 [.ref x, a1, a2, a3, a4, a5] (.ref x :: r) hp) := xVe _ _ _ _ _ _
theorem s_Walk_gather_79 (C : xCx) (r : List Value) (hp : xHp) (x : Int32) (a0 a2 a3 a4 a5 : Value) : (xV k_Walk_gather C 79 [a0, .int x, a2, a3, a4, a5] r hp) = (xV k_Walk_gather C 80 [a0, .int x, a2, a3, a4, a5] (.int x :: r) hp) := xVe _ _ _ _ _ _
theorem s_Walk_gather_80  (C : xCx) (L r : List Value) (hp : xHp) : (xV k_Walk_gather C 80 L (r) hp) = (xV k_Walk_gather C 81 L (.int (1) :: r) hp) := xVe _ _ _ _ _ _
theorem s_Walk_gather_81 (x y : Int32) (C : xCx) (L r : List Value) (hp : xHp) : (xV k_Walk_gather C 81 L (.int y :: .int x :: r) hp) = (xV k_Walk_gather C 82 L (.int (x + y) :: r) hp) := xVe _ _ _ _ _ _
theorem s_Walk_gather_82 (C : xCx) (r : List Value) (hp : xHp) (x : Int32) (a0 a1 a3 a4 a5 : Value) : (xV k_Walk_gather C 82 [a0, a1, .int x, a3, a4, a5] r hp) = (xV k_Walk_gather C 83 [a0, a1, .int x, a3, a4, a5] (.int x :: r) hp) := xVe _ _ _ _ _ _
theorem s_Walk_gather_83 (C : xCx) (r : List Value) (hp : xHp) (x : Int32) (a0 a1 a2 a3 a4 : Value) : (xV k_Walk_gather C 83 [a0, a1, a2, a3, a4, .int x] r hp) = (xV k_Walk_gather C 85 [a0, a1, a2, a3, a4, .int x] (.int x :: r) hp) := xVe _ _ _ _ _ _
theorem s_Walk_gather_85 (x y : Int32) (C : xCx) (L r : List Value) (hp : xHp) : (xV k_Walk_gather C 85 L (.int y :: .int x :: r) hp) = (xV k_Walk_gather C 86 L (.int (x + y) :: r) hp) := xVe _ _ _ _ _ _
theorem s_Walk_gather_86 (x0 : Int32) (x1 : Int32) (a : Nat) (l : Launch) (d b lo gz n0 s0 : Nat) (Po : Option Value → xHp → Prop) (L r : List Value) (hp : xHp) : (xV k_Walk_gather (l, d + 1, b, lo, gz, n0, s0, m_Walk_gather, Po) 86 L (.int x1 :: .int x0 :: .ref a :: r) hp) = (xO hp a 11 ∧ xcs r 8 ∧ xMv l d b lo gz m_Walk_gather [.ref a, .int x0, .int x1] hp (fun hp' => xV k_Walk_gather (l, d + 1, b, lo, gz, n0, s0, m_Walk_gather, Po) 89 L r hp')) := xVe _ _ _ _ _ _
theorem s_Walk_gather_89 (C : xCx) (r : List Value) (hp : xHp) (x : Nat) (a1 a2 a3 a4 a5 : Value) : (xV k_Walk_gather C 89 [.ref x, a1, a2, a3, a4, a5] r hp) = (True ∧ xV k_Walk_gather C 90 [.ref x, a1, a2, a3, a4, a5] (.ref x :: r) hp) := xVe _ _ _ _ _ _
theorem s_Walk_gather_90 (C : xCx) (r : List Value) (hp : xHp) (x : Int32) (a0 a1 a2 a4 a5 : Value) : (xV k_Walk_gather C 90 [a0, a1, a2, .int x, a4, a5] r hp) = (xV k_Walk_gather C 91 [a0, a1, a2, .int x, a4, a5] (.int x :: r) hp) := xVe _ _ _ _ _ _
theorem s_Walk_gather_91 (x0 : Int32) (a : Nat) (l : Launch) (d b lo gz n0 s0 : Nat) (Po : Option Value → xHp → Prop) (L r : List Value) (hp : xHp) : (xV k_Walk_gather (l, d + 1, b, lo, gz, n0, s0, m_Walk_gather, Po) 91 L (.int x0 :: .ref a :: r) hp) = (xO hp a 11 ∧ xcs r 8 ∧ xMv l d b lo gz m_Walk_back [.ref a, .int x0] hp (fun hp' => xV k_Walk_gather (l, d + 1, b, lo, gz, n0, s0, m_Walk_gather, Po) 94 L r hp')) := xVe _ _ _ _ _ _
theorem s_Walk_gather_94 (C : xCx) (r : List Value) (hp : xHp) (x : Int32) (a0 a1 a2 a3 a5 : Value) : (xV k_Walk_gather C 94 [a0, a1, a2, a3, .int x, a5] r hp) = (xNl [a0, a1, a2, a3, .int x, a5] 4 ∧ xV k_Walk_gather C 97 [a0, a1, a2, a3, .int (x + (1)), a5] r hp) := xVe _ _ _ _ _ _
theorem s_Walk_gather_97 (C : xCx) (L r : List Value) (hp : xHp) : (xV k_Walk_gather C 97 L r hp) = (xV k_Walk_gather C 57 L r hp) := xVe _ _ _ _ _ _
theorem s_Walk_gather_100 (l : Launch) (d b lo gz n0 s0 : Nat) (Po : Option Value → xHp → Prop) (L : List Value) (hp : xHp) : (xV k_Walk_gather (l, d, b, lo, gz, n0, s0, m_Walk_gather, Po) 100 L [] hp) = (Po (none) hp) := xVe _ _ _ _ _ _
def k_Walk_keepFirst : List xEC := [
  (0, .iconst 0, 1, 0, 0, 0, m_x),
  (1, .istore_n 1, 2, 0, 0, 0, m_x),
  (2, .iload_n 1, 3, 0, 0, 0, m_x),
  (3, .aload_n 0, 4, 0, 0, 0, m_x),
  (4, .getfield 43, 7, 11, 7, 0, m_x),
  (7, .if_icmp .ge 32, 10, 0, 39, 0, m_x),
  (10, .aload_n 0, 11, 0, 0, 0, m_x),
  (11, .getfield 46, 14, 11, 8, 0, m_x),
  (14, .ifCond .ne 25, 17, 0, 39, 0, m_x),
  (17, .aload_n 0, 18, 0, 0, 0, m_x),
  (18, .getfield 15, 21, 11, 4, 0, m_x),
  (21, .iload_n 1, 22, 0, 0, 0, m_x),
  (22, .aload_n 0, 23, 0, 0, 0, m_x),
  (23, .getfield 11, 26, 11, 3, 0, m_x),
  (26, .iload_n 1, 27, 0, 0, 0, m_x),
  (27, .invokestatic 87, 30, 0, 0, 0, m_So_at),
  (30, .invokestatic 91, 33, 0, 0, 0, m_So_put),
  (33, .iinc 1 1, 36, 0, 0, 0, m_x),
  (36, .goto (-34), 39, 0, 2, 0, m_x),
  (39, .return_, 40, 0, 0, 0, m_x)]
theorem dc_Walk_keepFirst : ∀ E ∈ k_Walk_keepFirst, xDc m_Walk_keepFirst E := by decide +kernel
set_option maxRecDepth 20000 in
theorem ok_Walk_keepFirst : ∀ E ∈ k_Walk_keepFirst, xOk m_Walk_keepFirst E := xok_of dc_Walk_keepFirst (xfc trivial (xfc trivial (xfc trivial (xfc trivial (xfc fl_Walk_43 (xfc (show ((7 : Nat) : Int) + (32) = ((39 : Nat) : Int) from by decide) (xfc trivial (xfc fl_Walk_46 (xfc (show ((14 : Nat) : Int) + (25) = ((39 : Nat) : Int) from by decide) (xfc trivial (xfc fl_Walk_15 (xfc trivial (xfc trivial (xfc fl_Walk_11 (xfc trivial (xfc ⟨ml_Walk_87, kd_So_at⟩ (xfc ⟨ml_Walk_91, kd_So_put⟩ (xfc trivial (xfc (show ((36 : Nat) : Int) + (-34) = ((2 : Nat) : Int) from by decide) (xfc trivial (xfn)))))))))))))))))))))
theorem s_Walk_keepFirst_0  (C : xCx) (L r : List Value) (hp : xHp) : (xV k_Walk_keepFirst C 0 L (r) hp) = (xV k_Walk_keepFirst C 1 L (.int (0) :: r) hp) := xVe _ _ _ _ _ _
theorem s_Walk_keepFirst_1 (C : xCx) (r : List Value) (hp : xHp) (x : Int32) (a0 a1 : Value) : (xV k_Walk_keepFirst C 1 [a0, a1] (.int x :: r) hp) = (1 < 2 ∧ xNl [a0, a1] 1 ∧ xV k_Walk_keepFirst C 2 [a0, .int x] r hp) := xVe _ _ _ _ _ _
theorem s_Walk_keepFirst_2 (C : xCx) (r : List Value) (hp : xHp) (x : Int32) (a0 : Value) : (xV k_Walk_keepFirst C 2 [a0, .int x] r hp) = (xV k_Walk_keepFirst C 3 [a0, .int x] (.int x :: r) hp) := xVe _ _ _ _ _ _
theorem s_Walk_keepFirst_3 (C : xCx) (r : List Value) (hp : xHp) (x : Nat) (a1 : Value) : (xV k_Walk_keepFirst C 3 [.ref x, a1] r hp) = (True ∧ xV k_Walk_keepFirst C 4 [.ref x, a1] (.ref x :: r) hp) := xVe _ _ _ _ _ _
theorem s_Walk_keepFirst_4 (a : Nat) (C : xCx) (L r : List Value) (hp : xHp) : (xV k_Walk_keepFirst C 4 L (.ref a :: r) hp) = (xF hp a 11 7 (fun v => xV k_Walk_keepFirst C 7 L (v :: r) hp)) := xVe _ _ _ _ _ _
theorem s_Walk_keepFirst_7 (x y : Int32) (C : xCx) (L r : List Value) (hp : xHp) : (xV k_Walk_keepFirst C 7 L (.int y :: .int x :: r) hp) = (((y ≤ x → xV k_Walk_keepFirst C 39 L r hp) ∧ (¬ y ≤ x → xV k_Walk_keepFirst C 10 L r hp))) := xVe _ _ _ _ _ _
theorem s_Walk_keepFirst_10 (C : xCx) (r : List Value) (hp : xHp) (x : Nat) (a1 : Value) : (xV k_Walk_keepFirst C 10 [.ref x, a1] r hp) = (True ∧ xV k_Walk_keepFirst C 11 [.ref x, a1] (.ref x :: r) hp) := xVe _ _ _ _ _ _
theorem s_Walk_keepFirst_11 (a : Nat) (C : xCx) (L r : List Value) (hp : xHp) : (xV k_Walk_keepFirst C 11 L (.ref a :: r) hp) = (xF hp a 11 8 (fun v => xV k_Walk_keepFirst C 14 L (v :: r) hp)) := xVe _ _ _ _ _ _
theorem s_Walk_keepFirst_14 (x : Int32) (C : xCx) (L r : List Value) (hp : xHp) : (xV k_Walk_keepFirst C 14 L (.int x :: r) hp) = (((¬ x = 0 → xV k_Walk_keepFirst C 39 L r hp) ∧ (x = 0 → xV k_Walk_keepFirst C 17 L r hp))) := xVe _ _ _ _ _ _
theorem s_Walk_keepFirst_17 (C : xCx) (r : List Value) (hp : xHp) (x : Nat) (a1 : Value) : (xV k_Walk_keepFirst C 17 [.ref x, a1] r hp) = (True ∧ xV k_Walk_keepFirst C 18 [.ref x, a1] (.ref x :: r) hp) := xVe _ _ _ _ _ _
theorem s_Walk_keepFirst_18 (a : Nat) (C : xCx) (L r : List Value) (hp : xHp) : (xV k_Walk_keepFirst C 18 L (.ref a :: r) hp) = (xF hp a 11 4 (fun v => xV k_Walk_keepFirst C 21 L (v :: r) hp)) := xVe _ _ _ _ _ _
theorem s_Walk_keepFirst_21 (C : xCx) (r : List Value) (hp : xHp) (x : Int32) (a0 : Value) : (xV k_Walk_keepFirst C 21 [a0, .int x] r hp) = (xV k_Walk_keepFirst C 22 [a0, .int x] (.int x :: r) hp) := xVe _ _ _ _ _ _
theorem s_Walk_keepFirst_22 (C : xCx) (r : List Value) (hp : xHp) (x : Nat) (a1 : Value) : (xV k_Walk_keepFirst C 22 [.ref x, a1] r hp) = (True ∧ xV k_Walk_keepFirst C 23 [.ref x, a1] (.ref x :: r) hp) := xVe _ _ _ _ _ _
theorem s_Walk_keepFirst_23 (a : Nat) (C : xCx) (L r : List Value) (hp : xHp) : (xV k_Walk_keepFirst C 23 L (.ref a :: r) hp) = (xF hp a 11 3 (fun v => xV k_Walk_keepFirst C 26 L (v :: r) hp)) := xVe _ _ _ _ _ _
theorem s_Walk_keepFirst_26 (C : xCx) (r : List Value) (hp : xHp) (x : Int32) (a0 : Value) : (xV k_Walk_keepFirst C 26 [a0, .int x] r hp) = (xV k_Walk_keepFirst C 27 [a0, .int x] (.int x :: r) hp) := xVe _ _ _ _ _ _
theorem s_Walk_keepFirst_27 (x0 : Nat) (x1 : Int32) (l : Launch) (d b lo gz n0 s0 : Nat) (Po : Option Value → xHp → Prop) (L r : List Value) (hp : xHp) : (xV k_Walk_keepFirst (l, d + 1, b, lo, gz, n0, s0, m_Walk_keepFirst, Po) 27 L (.int x1 :: .ref x0 :: r) hp) = (2 ≤ List.length (.int x1 :: .ref x0 :: r) ∧ xcs r 8 ∧ xMi l d b lo gz m_So_at [.ref x0, .int x1] hp (fun x hp' => xV k_Walk_keepFirst (l, d + 1, b, lo, gz, n0, s0, m_Walk_keepFirst, Po) 30 L (.int x :: r) hp')) := xVe _ _ _ _ _ _
theorem s_Walk_keepFirst_30 (x0 : Nat) (x1 : Int32) (x2 : Int32) (l : Launch) (d b lo gz n0 s0 : Nat) (Po : Option Value → xHp → Prop) (L r : List Value) (hp : xHp) : (xV k_Walk_keepFirst (l, d + 1, b, lo, gz, n0, s0, m_Walk_keepFirst, Po) 30 L (.int x2 :: .int x1 :: .ref x0 :: r) hp) = (3 ≤ List.length (.int x2 :: .int x1 :: .ref x0 :: r) ∧ xcs r 8 ∧ xMv l d b lo gz m_So_put [.ref x0, .int x1, .int x2] hp (fun hp' => xV k_Walk_keepFirst (l, d + 1, b, lo, gz, n0, s0, m_Walk_keepFirst, Po) 33 L r hp')) := xVe _ _ _ _ _ _
theorem s_Walk_keepFirst_33 (C : xCx) (r : List Value) (hp : xHp) (x : Int32) (a0 : Value) : (xV k_Walk_keepFirst C 33 [a0, .int x] r hp) = (xNl [a0, .int x] 1 ∧ xV k_Walk_keepFirst C 36 [a0, .int (x + (1))] r hp) := xVe _ _ _ _ _ _
theorem s_Walk_keepFirst_36 (C : xCx) (L r : List Value) (hp : xHp) : (xV k_Walk_keepFirst C 36 L r hp) = (xV k_Walk_keepFirst C 2 L r hp) := xVe _ _ _ _ _ _
theorem s_Walk_keepFirst_39 (l : Launch) (d b lo gz n0 s0 : Nat) (Po : Option Value → xHp → Prop) (L : List Value) (hp : xHp) : (xV k_Walk_keepFirst (l, d, b, lo, gz, n0, s0, m_Walk_keepFirst, Po) 39 L [] hp) = (Po (none) hp) := xVe _ _ _ _ _ _
def k_Walk_tellLeast : List xEC := [
  (0, .aload_n 1, 1, 0, 0, 0, m_x),
  (1, .invokevirtual 113, 4, 7, 0, 0, m_Row_clear),
  (4, .iconst 0, 5, 0, 0, 0, m_x),
  (5, .istore_n 2, 6, 0, 0, 0, m_x),
  (6, .iload_n 2, 7, 0, 0, 0, m_x),
  (7, .aload_n 0, 8, 0, 0, 0, m_x),
  (8, .getfield 43, 11, 11, 7, 0, m_x),
  (11, .if_icmp .ge 22, 14, 0, 33, 0, m_x),
  (14, .aload_n 1, 15, 0, 0, 0, m_x),
  (15, .aload_n 0, 16, 0, 0, 0, m_x),
  (16, .getfield 15, 19, 11, 4, 0, m_x),
  (19, .iload_n 2, 20, 0, 0, 0, m_x),
  (20, .invokestatic 87, 23, 0, 0, 0, m_So_at),
  (23, .i2l, 24, 0, 0, 0, m_x),
  (24, .invokevirtual 118, 27, 7, 0, 0, m_Row_add),
  (27, .iinc 2 1, 30, 0, 0, 0, m_x),
  (30, .goto (-24), 33, 0, 6, 0, m_x),
  (33, .return_, 34, 0, 0, 0, m_x)]
theorem dc_Walk_tellLeast : ∀ E ∈ k_Walk_tellLeast, xDc m_Walk_tellLeast E := by decide +kernel
set_option maxRecDepth 20000 in
theorem ok_Walk_tellLeast : ∀ E ∈ k_Walk_tellLeast, xOk m_Walk_tellLeast E := xok_of dc_Walk_tellLeast (xfc trivial (xfc ⟨ml_Walk_113, kd_Row_clear⟩ (xfc trivial (xfc trivial (xfc trivial (xfc trivial (xfc fl_Walk_43 (xfc (show ((11 : Nat) : Int) + (22) = ((33 : Nat) : Int) from by decide) (xfc trivial (xfc trivial (xfc fl_Walk_15 (xfc trivial (xfc ⟨ml_Walk_87, kd_So_at⟩ (xfc trivial (xfc ⟨ml_Walk_118, kd_Row_add⟩ (xfc trivial (xfc (show ((30 : Nat) : Int) + (-24) = ((6 : Nat) : Int) from by decide) (xfc trivial (xfn)))))))))))))))))))
theorem s_Walk_tellLeast_0 (C : xCx) (r : List Value) (hp : xHp) (x : Nat) (a0 a2 : Value) : (xV k_Walk_tellLeast C 0 [a0, .ref x, a2] r hp) = (True ∧ xV k_Walk_tellLeast C 1 [a0, .ref x, a2] (.ref x :: r) hp) := xVe _ _ _ _ _ _
theorem s_Walk_tellLeast_1 (a : Nat) (l : Launch) (d b lo gz n0 s0 : Nat) (Po : Option Value → xHp → Prop) (L r : List Value) (hp : xHp) : (xV k_Walk_tellLeast (l, d + 1, b, lo, gz, n0, s0, m_Walk_tellLeast, Po) 1 L (.ref a :: r) hp) = (xO hp a 7 ∧ xcs r 8 ∧ xMv l d b lo gz m_Row_clear [.ref a] hp (fun hp' => xV k_Walk_tellLeast (l, d + 1, b, lo, gz, n0, s0, m_Walk_tellLeast, Po) 4 L r hp')) := xVe _ _ _ _ _ _
theorem s_Walk_tellLeast_4  (C : xCx) (L r : List Value) (hp : xHp) : (xV k_Walk_tellLeast C 4 L (r) hp) = (xV k_Walk_tellLeast C 5 L (.int (0) :: r) hp) := xVe _ _ _ _ _ _
theorem s_Walk_tellLeast_5 (C : xCx) (r : List Value) (hp : xHp) (x : Int32) (a0 a1 a2 : Value) : (xV k_Walk_tellLeast C 5 [a0, a1, a2] (.int x :: r) hp) = (2 < 3 ∧ xNl [a0, a1, a2] 2 ∧ xV k_Walk_tellLeast C 6 [a0, a1, .int x] r hp) := xVe _ _ _ _ _ _
theorem s_Walk_tellLeast_6 (C : xCx) (r : List Value) (hp : xHp) (x : Int32) (a0 a1 : Value) : (xV k_Walk_tellLeast C 6 [a0, a1, .int x] r hp) = (xV k_Walk_tellLeast C 7 [a0, a1, .int x] (.int x :: r) hp) := xVe _ _ _ _ _ _
theorem s_Walk_tellLeast_7 (C : xCx) (r : List Value) (hp : xHp) (x : Nat) (a1 a2 : Value) : (xV k_Walk_tellLeast C 7 [.ref x, a1, a2] r hp) = (True ∧ xV k_Walk_tellLeast C 8 [.ref x, a1, a2] (.ref x :: r) hp) := xVe _ _ _ _ _ _
theorem s_Walk_tellLeast_8 (a : Nat) (C : xCx) (L r : List Value) (hp : xHp) : (xV k_Walk_tellLeast C 8 L (.ref a :: r) hp) = (xF hp a 11 7 (fun v => xV k_Walk_tellLeast C 11 L (v :: r) hp)) := xVe _ _ _ _ _ _
theorem s_Walk_tellLeast_11 (x y : Int32) (C : xCx) (L r : List Value) (hp : xHp) : (xV k_Walk_tellLeast C 11 L (.int y :: .int x :: r) hp) = (((y ≤ x → xV k_Walk_tellLeast C 33 L r hp) ∧ (¬ y ≤ x → xV k_Walk_tellLeast C 14 L r hp))) := xVe _ _ _ _ _ _
theorem s_Walk_tellLeast_14 (C : xCx) (r : List Value) (hp : xHp) (x : Nat) (a0 a2 : Value) : (xV k_Walk_tellLeast C 14 [a0, .ref x, a2] r hp) = (True ∧ xV k_Walk_tellLeast C 15 [a0, .ref x, a2] (.ref x :: r) hp) := xVe _ _ _ _ _ _
theorem s_Walk_tellLeast_15 (C : xCx) (r : List Value) (hp : xHp) (x : Nat) (a1 a2 : Value) : (xV k_Walk_tellLeast C 15 [.ref x, a1, a2] r hp) = (True ∧ xV k_Walk_tellLeast C 16 [.ref x, a1, a2] (.ref x :: r) hp) := xVe _ _ _ _ _ _
theorem s_Walk_tellLeast_16 (a : Nat) (C : xCx) (L r : List Value) (hp : xHp) : (xV k_Walk_tellLeast C 16 L (.ref a :: r) hp) = (xF hp a 11 4 (fun v => xV k_Walk_tellLeast C 19 L (v :: r) hp)) := xVe _ _ _ _ _ _
theorem s_Walk_tellLeast_19 (C : xCx) (r : List Value) (hp : xHp) (x : Int32) (a0 a1 : Value) : (xV k_Walk_tellLeast C 19 [a0, a1, .int x] r hp) = (xV k_Walk_tellLeast C 20 [a0, a1, .int x] (.int x :: r) hp) := xVe _ _ _ _ _ _
theorem s_Walk_tellLeast_20 (x0 : Nat) (x1 : Int32) (l : Launch) (d b lo gz n0 s0 : Nat) (Po : Option Value → xHp → Prop) (L r : List Value) (hp : xHp) : (xV k_Walk_tellLeast (l, d + 1, b, lo, gz, n0, s0, m_Walk_tellLeast, Po) 20 L (.int x1 :: .ref x0 :: r) hp) = (2 ≤ List.length (.int x1 :: .ref x0 :: r) ∧ xcs r 8 ∧ xMi l d b lo gz m_So_at [.ref x0, .int x1] hp (fun x hp' => xV k_Walk_tellLeast (l, d + 1, b, lo, gz, n0, s0, m_Walk_tellLeast, Po) 23 L (.int x :: r) hp')) := xVe _ _ _ _ _ _
theorem s_Walk_tellLeast_23 (x : Int32) (C : xCx) (L r : List Value) (hp : xHp) : (xV k_Walk_tellLeast C 23 L (.int x :: r) hp) = (xV k_Walk_tellLeast C 24 L (.long x.toInt64 :: r) hp) := xVe _ _ _ _ _ _
theorem s_Walk_tellLeast_24 (x0 : Int64) (a : Nat) (l : Launch) (d b lo gz n0 s0 : Nat) (Po : Option Value → xHp → Prop) (L r : List Value) (hp : xHp) : (xV k_Walk_tellLeast (l, d + 1, b, lo, gz, n0, s0, m_Walk_tellLeast, Po) 24 L (.long x0 :: .ref a :: r) hp) = (xO hp a 7 ∧ xcs r 8 ∧ xMv l d b lo gz m_Row_add [.ref a, .long x0] hp (fun hp' => xV k_Walk_tellLeast (l, d + 1, b, lo, gz, n0, s0, m_Walk_tellLeast, Po) 27 L r hp')) := xVe _ _ _ _ _ _
theorem s_Walk_tellLeast_27 (C : xCx) (r : List Value) (hp : xHp) (x : Int32) (a0 a1 : Value) : (xV k_Walk_tellLeast C 27 [a0, a1, .int x] r hp) = (xNl [a0, a1, .int x] 2 ∧ xV k_Walk_tellLeast C 30 [a0, a1, .int (x + (1))] r hp) := xVe _ _ _ _ _ _
theorem s_Walk_tellLeast_30 (C : xCx) (L r : List Value) (hp : xHp) : (xV k_Walk_tellLeast C 30 L r hp) = (xV k_Walk_tellLeast C 6 L r hp) := xVe _ _ _ _ _ _
theorem s_Walk_tellLeast_33 (l : Launch) (d b lo gz n0 s0 : Nat) (Po : Option Value → xHp → Prop) (L : List Value) (hp : xHp) : (xV k_Walk_tellLeast (l, d, b, lo, gz, n0, s0, m_Walk_tellLeast, Po) 33 L [] hp) = (Po (none) hp) := xVe _ _ _ _ _ _
theorem ml_Rooms_29 : xLk "SunnyOnes$Rooms" 29 m_Folk_size := Or.inl (wg4 131 (by decide +kernel) rfl)
theorem fl_Rooms_35 : xFl "SunnyOnes$Rooms" 35 6 5 := ⟨("SunnyOnes$Rooms", F_Rooms, 9), rfl, by decide, wg1 239 (by decide +kernel) rfl⟩
theorem ml_Rooms_39 : xLk "SunnyOnes$Rooms" 39 m_Land_size := Or.inl (wg4 132 (by decide +kernel) rfl)
theorem ml_Rooms_42 : xLk "SunnyOnes$Rooms" 42 m_Sun_hoursAlone := Or.inl (wg4 133 (by decide +kernel) rfl)
theorem ml_Rooms_48 : xLk "SunnyOnes$Rooms" 48 m_So_put := Or.inr ⟨"SunnyOnes", List.mem_of_getElem? (i := 16) (by decide +kernel)⟩
theorem fl_Rooms_52 : xFl "SunnyOnes$Rooms" 52 6 7 := ⟨("SunnyOnes$Rooms", F_Rooms, 9), rfl, by decide, wg2 1 (by decide +kernel) rfl⟩
theorem fl_Rooms_56 : xFl "SunnyOnes$Rooms" 56 6 8 := ⟨("SunnyOnes$Rooms", F_Rooms, 9), rfl, by decide, wg2 2 (by decide +kernel) rfl⟩
theorem ml_Rooms_59 : xLk "SunnyOnes$Rooms" 59 m_Rooms_give := Or.inl (wg4 138 (by decide +kernel) rfl)
theorem ml_Rooms_63 : xLk "SunnyOnes$Rooms" 63 m_Row_clear := Or.inl (wg4 147 (by decide +kernel) rfl)
theorem ml_Rooms_68 : xLk "SunnyOnes$Rooms" 68 m_So_at := Or.inr ⟨"SunnyOnes", List.mem_of_getElem? (i := 17) (by decide +kernel)⟩
theorem ml_Rooms_72 : xLk "SunnyOnes$Rooms" 72 m_Row_add := Or.inl (wg4 148 (by decide +kernel) rfl)
theorem fl_Rooms_76 : xFl "SunnyOnes$Rooms" 76 6 6 := ⟨("SunnyOnes$Rooms", F_Rooms, 9), rfl, by decide, wg2 0 (by decide +kernel) rfl⟩
def k_Rooms_fill : List xEC := [
  (0, .aload_n 0, 1, 0, 0, 0, m_x),
  (1, .aload_n 1, 2, 0, 0, 0, m_x),
  (2, .invokevirtual 29, 5, 3, 0, 0, m_Folk_size),
  (5, .putfield 35, 8, 6, 5, 0, m_x),
  (8, .aload_n 0, 9, 0, 0, 0, m_x),
  (9, .getfield 35, 12, 6, 5, 0, m_x),
  (12, .ifCond .eq 17, 15, 0, 29, 0, m_x),
  (15, .aload_n 0, 16, 0, 0, 0, m_x),
  (16, .getfield 35, 19, 6, 5, 0, m_x),
  (19, .aload_n 0, 20, 0, 0, 0, m_x),
  (20, .getfield 21, 23, 6, 0, 0, m_x),
  (23, .invokevirtual 39, 26, 4, 0, 0, m_Land_size),
  (26, .if_icmp .le 6, 29, 0, 32, 0, m_x),
  (29, .bipush (-2), 31, 0, 0, 0, m_x),
  (31, .ireturn, 32, 0, 0, 0, m_x),
  (32, .iconst 0, 33, 0, 0, 0, m_x),
  (33, .istore 4, 35, 0, 0, 0, m_x),
  (35, .iload 4, 37, 0, 0, 0, m_x),
  (37, .aload_n 0, 38, 0, 0, 0, m_x),
  (38, .getfield 35, 41, 6, 5, 0, m_x),
  (41, .if_icmp .ge 57, 44, 0, 98, 0, m_x),
  (44, .iconst 0, 45, 0, 0, 0, m_x),
  (45, .istore 5, 47, 0, 0, 0, m_x),
  (47, .iload 5, 49, 0, 0, 0, m_x),
  (49, .aload_n 0, 50, 0, 0, 0, m_x),
  (50, .getfield 21, 53, 6, 0, 0, m_x),
  (53, .invokevirtual 39, 56, 4, 0, 0, m_Land_size),
  (56, .if_icmp .ge 36, 59, 0, 92, 0, m_x),
  (59, .aload_n 0, 60, 0, 0, 0, m_x),
  (60, .getfield 9, 63, 6, 2, 0, m_x),
  (63, .iload 4, 65, 0, 0, 0, m_x),
  (65, .bipush 6, 67, 0, 0, 0, m_x),
  (67, .imul, 68, 0, 0, 0, m_x),
  (68, .iload 5, 70, 0, 0, 0, m_x),
  (70, .iadd, 71, 0, 0, 0, m_x),
  (71, .aload_n 0, 72, 0, 0, 0, m_x),
  (72, .getfield 25, 75, 6, 1, 0, m_x),
  (75, .aload_n 1, 76, 0, 0, 0, m_x),
  (76, .iload 4, 78, 0, 0, 0, m_x),
  (78, .iload 5, 80, 0, 0, 0, m_x),
  (80, .invokevirtual 42, 83, 9, 0, 0, m_Sun_hoursAlone),
  (83, .invokestatic 48, 86, 0, 0, 0, m_So_put),
  (86, .iinc 5 1, 89, 0, 0, 0, m_x),
  (89, .goto (-42), 92, 0, 47, 0, m_x),
  (92, .iinc 4 1, 95, 0, 0, 0, m_x),
  (95, .goto (-60), 98, 0, 35, 0, m_x),
  (98, .aload_n 0, 99, 0, 0, 0, m_x),
  (99, .iload_n 2, 100, 0, 0, 0, m_x),
  (100, .putfield 52, 103, 6, 7, 0, m_x),
  (103, .aload_n 0, 104, 0, 0, 0, m_x),
  (104, .iconst 0, 105, 0, 0, 0, m_x),
  (105, .putfield 56, 108, 6, 8, 0, m_x),
  (108, .aload_n 0, 109, 0, 0, 0, m_x),
  (109, .iconst 0, 110, 0, 0, 0, m_x),
  (110, .iconst 0, 111, 0, 0, 0, m_x),
  (111, .iconst 0, 112, 0, 0, 0, m_x),
  (112, .invokevirtual 59, 115, 6, 0, 0, m_Rooms_give),
  (115, .aload_n 3, 116, 0, 0, 0, m_x),
  (116, .invokevirtual 63, 119, 7, 0, 0, m_Row_clear),
  (119, .iconst 0, 120, 0, 0, 0, m_x),
  (120, .istore 4, 122, 0, 0, 0, m_x),
  (122, .iload 4, 124, 0, 0, 0, m_x),
  (124, .aload_n 0, 125, 0, 0, 0, m_x),
  (125, .getfield 35, 128, 6, 5, 0, m_x),
  (128, .if_icmp .ge 23, 131, 0, 151, 0, m_x),
  (131, .aload_n 3, 132, 0, 0, 0, m_x),
  (132, .aload_n 0, 133, 0, 0, 0, m_x),
  (133, .getfield 18, 136, 6, 4, 0, m_x),
  (136, .iload 4, 138, 0, 0, 0, m_x),
  (138, .invokestatic 68, 141, 0, 0, 0, m_So_at),
  (141, .i2l, 142, 0, 0, 0, m_x),
  (142, .invokevirtual 72, 145, 7, 0, 0, m_Row_add),
  (145, .iinc 4 1, 148, 0, 0, 0, m_x),
  (148, .goto (-26), 151, 0, 122, 0, m_x),
  (151, .aload_n 0, 152, 0, 0, 0, m_x),
  (152, .getfield 76, 155, 6, 6, 0, m_x),
  (155, .ireturn, 156, 0, 0, 0, m_x)]
theorem dc_Rooms_fill : ∀ E ∈ k_Rooms_fill, xDc m_Rooms_fill E := by decide +kernel
set_option maxRecDepth 20000 in
theorem ok_Rooms_fill : ∀ E ∈ k_Rooms_fill, xOk m_Rooms_fill E := xok_of dc_Rooms_fill (xfc trivial (xfc trivial (xfc ⟨ml_Rooms_29, kd_Folk_size⟩ (xfc ⟨fl_Rooms_35, fun q h f => by cases h; exact absurd f (by decide)⟩ (xfc trivial (xfc fl_Rooms_35 (xfc (show ((12 : Nat) : Int) + (17) = ((29 : Nat) : Int) from by decide) (xfc trivial (xfc fl_Rooms_35 (xfc trivial (xfc fl_Rooms_21 (xfc ⟨ml_Rooms_39, kd_Land_size⟩ (xfc (show ((26 : Nat) : Int) + (6) = ((32 : Nat) : Int) from by decide) (xfc trivial (xfc trivial (xfc trivial (xfc trivial (xfc trivial (xfc trivial (xfc fl_Rooms_35 (xfc (show ((41 : Nat) : Int) + (57) = ((98 : Nat) : Int) from by decide) (xfc trivial (xfc trivial (xfc trivial (xfc trivial (xfc fl_Rooms_21 (xfc ⟨ml_Rooms_39, kd_Land_size⟩ (xfc (show ((56 : Nat) : Int) + (36) = ((92 : Nat) : Int) from by decide) (xfc trivial (xfc fl_Rooms_9 (xfc trivial (xfc trivial (xfc trivial (xfc trivial (xfc trivial (xfc trivial (xfc fl_Rooms_25 (xfc trivial (xfc trivial (xfc trivial (xfc ⟨ml_Rooms_42, kd_Sun_hoursAlone⟩ (xfc ⟨ml_Rooms_48, kd_So_put⟩ (xfc trivial (xfc (show ((89 : Nat) : Int) + (-42) = ((47 : Nat) : Int) from by decide) (xfc trivial (xfc (show ((95 : Nat) : Int) + (-60) = ((35 : Nat) : Int) from by decide) (xfc trivial (xfc trivial (xfc ⟨fl_Rooms_52, fun q h f => by cases h; exact absurd f (by decide)⟩ (xfc trivial (xfc trivial (xfc ⟨fl_Rooms_56, fun q h f => by cases h; exact absurd f (by decide)⟩ (xfc trivial (xfc trivial (xfc trivial (xfc trivial (xfc ⟨ml_Rooms_59, kd_Rooms_give⟩ (xfc trivial (xfc ⟨ml_Rooms_63, kd_Row_clear⟩ (xfc trivial (xfc trivial (xfc trivial (xfc trivial (xfc fl_Rooms_35 (xfc (show ((128 : Nat) : Int) + (23) = ((151 : Nat) : Int) from by decide) (xfc trivial (xfc trivial (xfc fl_Rooms_18 (xfc trivial (xfc ⟨ml_Rooms_68, kd_So_at⟩ (xfc trivial (xfc ⟨ml_Rooms_72, kd_Row_add⟩ (xfc trivial (xfc (show ((148 : Nat) : Int) + (-26) = ((122 : Nat) : Int) from by decide) (xfc trivial (xfc fl_Rooms_76 (xfc trivial (xfn))))))))))))))))))))))))))))))))))))))))))))))))))))))))))))))))))))))))))))))
theorem s_Rooms_fill_0 (C : xCx) (r : List Value) (hp : xHp) (x : Nat) (a1 a2 a3 a4 a5 : Value) : (xV k_Rooms_fill C 0 [.ref x, a1, a2, a3, a4, a5] r hp) = (True ∧ xV k_Rooms_fill C 1 [.ref x, a1, a2, a3, a4, a5] (.ref x :: r) hp) := xVe _ _ _ _ _ _
theorem s_Rooms_fill_1 (C : xCx) (r : List Value) (hp : xHp) (x : Nat) (a0 a2 a3 a4 a5 : Value) : (xV k_Rooms_fill C 1 [a0, .ref x, a2, a3, a4, a5] r hp) = (True ∧ xV k_Rooms_fill C 2 [a0, .ref x, a2, a3, a4, a5] (.ref x :: r) hp) := xVe _ _ _ _ _ _
theorem s_Rooms_fill_2 (a : Nat) (l : Launch) (d b lo gz n0 s0 : Nat) (Po : Option Value → xHp → Prop) (L r : List Value) (hp : xHp) : (xV k_Rooms_fill (l, d + 1, b, lo, gz, n0, s0, m_Rooms_fill, Po) 2 L (.ref a :: r) hp) = (xO hp a 3 ∧ xcs r 8 ∧ xMi l d b lo gz m_Folk_size [.ref a] hp (fun x hp' => xV k_Rooms_fill (l, d + 1, b, lo, gz, n0, s0, m_Rooms_fill, Po) 5 L (.int x :: r) hp')) := xVe _ _ _ _ _ _
theorem s_Rooms_fill_5 (x : Int32) (a : Nat) (C : xCx) (L r : List Value) (hp : xHp) : (xV k_Rooms_fill C 5 L (.int x :: .ref a :: r) hp) = (True ∧ xPf hp a 6 5 (.int x) (fun hp' => xV k_Rooms_fill C 8 L r hp')) := xVe _ _ _ _ _ _
theorem s_Rooms_fill_8 (C : xCx) (r : List Value) (hp : xHp) (x : Nat) (a1 a2 a3 a4 a5 : Value) : (xV k_Rooms_fill C 8 [.ref x, a1, a2, a3, a4, a5] r hp) = (True ∧ xV k_Rooms_fill C 9 [.ref x, a1, a2, a3, a4, a5] (.ref x :: r) hp) := xVe _ _ _ _ _ _
theorem s_Rooms_fill_9 (a : Nat) (C : xCx) (L r : List Value) (hp : xHp) : (xV k_Rooms_fill C 9 L (.ref a :: r) hp) = (xF hp a 6 5 (fun v => xV k_Rooms_fill C 12 L (v :: r) hp)) := xVe _ _ _ _ _ _
theorem s_Rooms_fill_12 (x : Int32) (C : xCx) (L r : List Value) (hp : xHp) : (xV k_Rooms_fill C 12 L (.int x :: r) hp) = (((x = 0 → xV k_Rooms_fill C 29 L r hp) ∧ (¬ x = 0 → xV k_Rooms_fill C 15 L r hp))) := xVe _ _ _ _ _ _
theorem s_Rooms_fill_15 (C : xCx) (r : List Value) (hp : xHp) (x : Nat) (a1 a2 a3 a4 a5 : Value) : (xV k_Rooms_fill C 15 [.ref x, a1, a2, a3, a4, a5] r hp) = (True ∧ xV k_Rooms_fill C 16 [.ref x, a1, a2, a3, a4, a5] (.ref x :: r) hp) := xVe _ _ _ _ _ _
theorem s_Rooms_fill_16 (a : Nat) (C : xCx) (L r : List Value) (hp : xHp) : (xV k_Rooms_fill C 16 L (.ref a :: r) hp) = (xF hp a 6 5 (fun v => xV k_Rooms_fill C 19 L (v :: r) hp)) := xVe _ _ _ _ _ _
theorem s_Rooms_fill_19 (C : xCx) (r : List Value) (hp : xHp) (x : Nat) (a1 a2 a3 a4 a5 : Value) : (xV k_Rooms_fill C 19 [.ref x, a1, a2, a3, a4, a5] r hp) = (True ∧ xV k_Rooms_fill C 20 [.ref x, a1, a2, a3, a4, a5] (.ref x :: r) hp) := xVe _ _ _ _ _ _
theorem s_Rooms_fill_20 (a : Nat) (C : xCx) (L r : List Value) (hp : xHp) : (xV k_Rooms_fill C 20 L (.ref a :: r) hp) = (xF hp a 6 0 (fun v => xV k_Rooms_fill C 23 L (v :: r) hp)) := xVe _ _ _ _ _ _
theorem s_Rooms_fill_23 (a : Nat) (l : Launch) (d b lo gz n0 s0 : Nat) (Po : Option Value → xHp → Prop) (L r : List Value) (hp : xHp) : (xV k_Rooms_fill (l, d + 1, b, lo, gz, n0, s0, m_Rooms_fill, Po) 23 L (.ref a :: r) hp) = (xO hp a 4 ∧ xcs r 8 ∧ xMi l d b lo gz m_Land_size [.ref a] hp (fun x hp' => xV k_Rooms_fill (l, d + 1, b, lo, gz, n0, s0, m_Rooms_fill, Po) 26 L (.int x :: r) hp')) := xVe _ _ _ _ _ _
theorem s_Rooms_fill_26 (x y : Int32) (C : xCx) (L r : List Value) (hp : xHp) : (xV k_Rooms_fill C 26 L (.int y :: .int x :: r) hp) = (((x ≤ y → xV k_Rooms_fill C 32 L r hp) ∧ (¬ x ≤ y → xV k_Rooms_fill C 29 L r hp))) := xVe _ _ _ _ _ _
theorem s_Rooms_fill_29  (C : xCx) (L r : List Value) (hp : xHp) : (xV k_Rooms_fill C 29 L (r) hp) = (xV k_Rooms_fill C 31 L (.int (-2) :: r) hp) := xVe _ _ _ _ _ _
theorem s_Rooms_fill_31 (v : Int32) (l : Launch) (d b lo gz n0 s0 : Nat) (Po : Option Value → xHp → Prop) (L : List Value) (hp : xHp) : (xV k_Rooms_fill (l, d, b, lo, gz, n0, s0, m_Rooms_fill, Po) 31 L [.int v] hp) = (Po (some (.int v)) hp) := xVe _ _ _ _ _ _
theorem s_Rooms_fill_32  (C : xCx) (L r : List Value) (hp : xHp) : (xV k_Rooms_fill C 32 L (r) hp) = (xV k_Rooms_fill C 33 L (.int (0) :: r) hp) := xVe _ _ _ _ _ _
theorem s_Rooms_fill_33 (C : xCx) (r : List Value) (hp : xHp) (x : Int32) (a0 a1 a2 a3 a4 a5 : Value) : (xV k_Rooms_fill C 33 [a0, a1, a2, a3, a4, a5] (.int x :: r) hp) = (4 < 6 ∧ xNl [a0, a1, a2, a3, a4, a5] 4 ∧ xV k_Rooms_fill C 35 [a0, a1, a2, a3, .int x, a5] r hp) := xVe _ _ _ _ _ _
theorem s_Rooms_fill_35 (C : xCx) (r : List Value) (hp : xHp) (x : Int32) (a0 a1 a2 a3 a5 : Value) : (xV k_Rooms_fill C 35 [a0, a1, a2, a3, .int x, a5] r hp) = (xV k_Rooms_fill C 37 [a0, a1, a2, a3, .int x, a5] (.int x :: r) hp) := xVe _ _ _ _ _ _
theorem s_Rooms_fill_37 (C : xCx) (r : List Value) (hp : xHp) (x : Nat) (a1 a2 a3 a4 a5 : Value) : (xV k_Rooms_fill C 37 [.ref x, a1, a2, a3, a4, a5] r hp) = (True ∧ xV k_Rooms_fill C 38 [.ref x, a1, a2, a3, a4, a5] (.ref x :: r) hp) := xVe _ _ _ _ _ _
theorem s_Rooms_fill_38 (a : Nat) (C : xCx) (L r : List Value) (hp : xHp) : (xV k_Rooms_fill C 38 L (.ref a :: r) hp) = (xF hp a 6 5 (fun v => xV k_Rooms_fill C 41 L (v :: r) hp)) := xVe _ _ _ _ _ _
theorem s_Rooms_fill_41 (x y : Int32) (C : xCx) (L r : List Value) (hp : xHp) : (xV k_Rooms_fill C 41 L (.int y :: .int x :: r) hp) = (((y ≤ x → xV k_Rooms_fill C 98 L r hp) ∧ (¬ y ≤ x → xV k_Rooms_fill C 44 L r hp))) := xVe _ _ _ _ _ _
theorem s_Rooms_fill_44  (C : xCx) (L r : List Value) (hp : xHp) : (xV k_Rooms_fill C 44 L (r) hp) = (xV k_Rooms_fill C 45 L (.int (0) :: r) hp) := xVe _ _ _ _ _ _
theorem s_Rooms_fill_45 (C : xCx) (r : List Value) (hp : xHp) (x : Int32) (a0 a1 a2 a3 a4 a5 : Value) : (xV k_Rooms_fill C 45 [a0, a1, a2, a3, a4, a5] (.int x :: r) hp) = (5 < 6 ∧ xNl [a0, a1, a2, a3, a4, a5] 5 ∧ xV k_Rooms_fill C 47 [a0, a1, a2, a3, a4, .int x] r hp) := xVe _ _ _ _ _ _
theorem s_Rooms_fill_47 (C : xCx) (r : List Value) (hp : xHp) (x : Int32) (a0 a1 a2 a3 a4 : Value) : (xV k_Rooms_fill C 47 [a0, a1, a2, a3, a4, .int x] r hp) = (xV k_Rooms_fill C 49 [a0, a1, a2, a3, a4, .int x] (.int x :: r) hp) := xVe _ _ _ _ _ _
theorem s_Rooms_fill_49 (C : xCx) (r : List Value) (hp : xHp) (x : Nat) (a1 a2 a3 a4 a5 : Value) : (xV k_Rooms_fill C 49 [.ref x, a1, a2, a3, a4, a5] r hp) = (True ∧ xV k_Rooms_fill C 50 [.ref x, a1, a2, a3, a4, a5] (.ref x :: r) hp) := xVe _ _ _ _ _ _
theorem s_Rooms_fill_50 (a : Nat) (C : xCx) (L r : List Value) (hp : xHp) : (xV k_Rooms_fill C 50 L (.ref a :: r) hp) = (xF hp a 6 0 (fun v => xV k_Rooms_fill C 53 L (v :: r) hp)) := xVe _ _ _ _ _ _
theorem s_Rooms_fill_53 (a : Nat) (l : Launch) (d b lo gz n0 s0 : Nat) (Po : Option Value → xHp → Prop) (L r : List Value) (hp : xHp) : (xV k_Rooms_fill (l, d + 1, b, lo, gz, n0, s0, m_Rooms_fill, Po) 53 L (.ref a :: r) hp) = (xO hp a 4 ∧ xcs r 8 ∧ xMi l d b lo gz m_Land_size [.ref a] hp (fun x hp' => xV k_Rooms_fill (l, d + 1, b, lo, gz, n0, s0, m_Rooms_fill, Po) 56 L (.int x :: r) hp')) := xVe _ _ _ _ _ _
theorem s_Rooms_fill_56 (x y : Int32) (C : xCx) (L r : List Value) (hp : xHp) : (xV k_Rooms_fill C 56 L (.int y :: .int x :: r) hp) = (((y ≤ x → xV k_Rooms_fill C 92 L r hp) ∧ (¬ y ≤ x → xV k_Rooms_fill C 59 L r hp))) := xVe _ _ _ _ _ _
theorem s_Rooms_fill_59 (C : xCx) (r : List Value) (hp : xHp) (x : Nat) (a1 a2 a3 a4 a5 : Value) : (xV k_Rooms_fill C 59 [.ref x, a1, a2, a3, a4, a5] r hp) = (True ∧ xV k_Rooms_fill C 60 [.ref x, a1, a2, a3, a4, a5] (.ref x :: r) hp) := xVe _ _ _ _ _ _
theorem s_Rooms_fill_60 (a : Nat) (C : xCx) (L r : List Value) (hp : xHp) : (xV k_Rooms_fill C 60 L (.ref a :: r) hp) = (xF hp a 6 2 (fun v => xV k_Rooms_fill C 63 L (v :: r) hp)) := xVe _ _ _ _ _ _
theorem s_Rooms_fill_63 (C : xCx) (r : List Value) (hp : xHp) (x : Int32) (a0 a1 a2 a3 a5 : Value) : (xV k_Rooms_fill C 63 [a0, a1, a2, a3, .int x, a5] r hp) = (xV k_Rooms_fill C 65 [a0, a1, a2, a3, .int x, a5] (.int x :: r) hp) := xVe _ _ _ _ _ _
theorem s_Rooms_fill_65  (C : xCx) (L r : List Value) (hp : xHp) : (xV k_Rooms_fill C 65 L (r) hp) = (xV k_Rooms_fill C 67 L (.int (6) :: r) hp) := xVe _ _ _ _ _ _
theorem s_Rooms_fill_67 (x y : Int32) (C : xCx) (L r : List Value) (hp : xHp) : (xV k_Rooms_fill C 67 L (.int y :: .int x :: r) hp) = (xV k_Rooms_fill C 68 L (.int (x * y) :: r) hp) := xVe _ _ _ _ _ _
theorem s_Rooms_fill_68 (C : xCx) (r : List Value) (hp : xHp) (x : Int32) (a0 a1 a2 a3 a4 : Value) : (xV k_Rooms_fill C 68 [a0, a1, a2, a3, a4, .int x] r hp) = (xV k_Rooms_fill C 70 [a0, a1, a2, a3, a4, .int x] (.int x :: r) hp) := xVe _ _ _ _ _ _
theorem s_Rooms_fill_70 (x y : Int32) (C : xCx) (L r : List Value) (hp : xHp) : (xV k_Rooms_fill C 70 L (.int y :: .int x :: r) hp) = (xV k_Rooms_fill C 71 L (.int (x + y) :: r) hp) := xVe _ _ _ _ _ _
theorem s_Rooms_fill_71 (C : xCx) (r : List Value) (hp : xHp) (x : Nat) (a1 a2 a3 a4 a5 : Value) : (xV k_Rooms_fill C 71 [.ref x, a1, a2, a3, a4, a5] r hp) = (True ∧ xV k_Rooms_fill C 72 [.ref x, a1, a2, a3, a4, a5] (.ref x :: r) hp) := xVe _ _ _ _ _ _
theorem s_Rooms_fill_72 (a : Nat) (C : xCx) (L r : List Value) (hp : xHp) : (xV k_Rooms_fill C 72 L (.ref a :: r) hp) = (xF hp a 6 1 (fun v => xV k_Rooms_fill C 75 L (v :: r) hp)) := xVe _ _ _ _ _ _
theorem s_Rooms_fill_75 (C : xCx) (r : List Value) (hp : xHp) (x : Nat) (a0 a2 a3 a4 a5 : Value) : (xV k_Rooms_fill C 75 [a0, .ref x, a2, a3, a4, a5] r hp) = (True ∧ xV k_Rooms_fill C 76 [a0, .ref x, a2, a3, a4, a5] (.ref x :: r) hp) := xVe _ _ _ _ _ _
theorem s_Rooms_fill_76 (C : xCx) (r : List Value) (hp : xHp) (x : Int32) (a0 a1 a2 a3 a5 : Value) : (xV k_Rooms_fill C 76 [a0, a1, a2, a3, .int x, a5] r hp) = (xV k_Rooms_fill C 78 [a0, a1, a2, a3, .int x, a5] (.int x :: r) hp) := xVe _ _ _ _ _ _
theorem s_Rooms_fill_78 (C : xCx) (r : List Value) (hp : xHp) (x : Int32) (a0 a1 a2 a3 a4 : Value) : (xV k_Rooms_fill C 78 [a0, a1, a2, a3, a4, .int x] r hp) = (xV k_Rooms_fill C 80 [a0, a1, a2, a3, a4, .int x] (.int x :: r) hp) := xVe _ _ _ _ _ _
theorem s_Rooms_fill_80 (x0 : Nat) (x1 : Int32) (x2 : Int32) (a : Nat) (l : Launch) (d b lo gz n0 s0 : Nat) (Po : Option Value → xHp → Prop) (L r : List Value) (hp : xHp) : (xV k_Rooms_fill (l, d + 1, b, lo, gz, n0, s0, m_Rooms_fill, Po) 80 L (.int x2 :: .int x1 :: .ref x0 :: .ref a :: r) hp) = (xO hp a 9 ∧ xcs r 8 ∧ xMi l d b lo gz m_Sun_hoursAlone [.ref a, .ref x0, .int x1, .int x2] hp (fun x hp' => xV k_Rooms_fill (l, d + 1, b, lo, gz, n0, s0, m_Rooms_fill, Po) 83 L (.int x :: r) hp')) := xVe _ _ _ _ _ _
theorem s_Rooms_fill_83 (x0 : Nat) (x1 : Int32) (x2 : Int32) (l : Launch) (d b lo gz n0 s0 : Nat) (Po : Option Value → xHp → Prop) (L r : List Value) (hp : xHp) : (xV k_Rooms_fill (l, d + 1, b, lo, gz, n0, s0, m_Rooms_fill, Po) 83 L (.int x2 :: .int x1 :: .ref x0 :: r) hp) = (3 ≤ List.length (.int x2 :: .int x1 :: .ref x0 :: r) ∧ xcs r 8 ∧ xMv l d b lo gz m_So_put [.ref x0, .int x1, .int x2] hp (fun hp' => xV k_Rooms_fill (l, d + 1, b, lo, gz, n0, s0, m_Rooms_fill, Po) 86 L r hp')) := xVe _ _ _ _ _ _
theorem s_Rooms_fill_86 (C : xCx) (r : List Value) (hp : xHp) (x : Int32) (a0 a1 a2 a3 a4 : Value) : (xV k_Rooms_fill C 86 [a0, a1, a2, a3, a4, .int x] r hp) = (xNl [a0, a1, a2, a3, a4, .int x] 5 ∧ xV k_Rooms_fill C 89 [a0, a1, a2, a3, a4, .int (x + (1))] r hp) := xVe _ _ _ _ _ _
theorem s_Rooms_fill_89 (C : xCx) (L r : List Value) (hp : xHp) : (xV k_Rooms_fill C 89 L r hp) = (xV k_Rooms_fill C 47 L r hp) := xVe _ _ _ _ _ _
theorem s_Rooms_fill_92 (C : xCx) (r : List Value) (hp : xHp) (x : Int32) (a0 a1 a2 a3 a5 : Value) : (xV k_Rooms_fill C 92 [a0, a1, a2, a3, .int x, a5] r hp) = (xNl [a0, a1, a2, a3, .int x, a5] 4 ∧ xV k_Rooms_fill C 95 [a0, a1, a2, a3, .int (x + (1)), a5] r hp) := xVe _ _ _ _ _ _
theorem s_Rooms_fill_95 (C : xCx) (L r : List Value) (hp : xHp) : (xV k_Rooms_fill C 95 L r hp) = (xV k_Rooms_fill C 35 L r hp) := xVe _ _ _ _ _ _
theorem s_Rooms_fill_98 (C : xCx) (r : List Value) (hp : xHp) (x : Nat) (a1 a2 a3 a4 a5 : Value) : (xV k_Rooms_fill C 98 [.ref x, a1, a2, a3, a4, a5] r hp) = (True ∧ xV k_Rooms_fill C 99 [.ref x, a1, a2, a3, a4, a5] (.ref x :: r) hp) := xVe _ _ _ _ _ _
theorem s_Rooms_fill_99 (C : xCx) (r : List Value) (hp : xHp) (x : Int32) (a0 a1 a3 a4 a5 : Value) : (xV k_Rooms_fill C 99 [a0, a1, .int x, a3, a4, a5] r hp) = (xV k_Rooms_fill C 100 [a0, a1, .int x, a3, a4, a5] (.int x :: r) hp) := xVe _ _ _ _ _ _
theorem s_Rooms_fill_100 (x : Int32) (a : Nat) (C : xCx) (L r : List Value) (hp : xHp) : (xV k_Rooms_fill C 100 L (.int x :: .ref a :: r) hp) = ((x = 0 ∨ x = 1) ∧ xPf hp a 6 7 (.int x) (fun hp' => xV k_Rooms_fill C 103 L r hp')) := xVe _ _ _ _ _ _
theorem s_Rooms_fill_103 (C : xCx) (r : List Value) (hp : xHp) (x : Nat) (a1 a2 a3 a4 a5 : Value) : (xV k_Rooms_fill C 103 [.ref x, a1, a2, a3, a4, a5] r hp) = (True ∧ xV k_Rooms_fill C 104 [.ref x, a1, a2, a3, a4, a5] (.ref x :: r) hp) := xVe _ _ _ _ _ _
theorem s_Rooms_fill_104  (C : xCx) (L r : List Value) (hp : xHp) : (xV k_Rooms_fill C 104 L (r) hp) = (xV k_Rooms_fill C 105 L (.int (0) :: r) hp) := xVe _ _ _ _ _ _
theorem s_Rooms_fill_105 (x : Int32) (a : Nat) (C : xCx) (L r : List Value) (hp : xHp) : (xV k_Rooms_fill C 105 L (.int x :: .ref a :: r) hp) = ((x = 0 ∨ x = 1) ∧ xPf hp a 6 8 (.int x) (fun hp' => xV k_Rooms_fill C 108 L r hp')) := xVe _ _ _ _ _ _
theorem s_Rooms_fill_108 (C : xCx) (r : List Value) (hp : xHp) (x : Nat) (a1 a2 a3 a4 a5 : Value) : (xV k_Rooms_fill C 108 [.ref x, a1, a2, a3, a4, a5] r hp) = (True ∧ xV k_Rooms_fill C 109 [.ref x, a1, a2, a3, a4, a5] (.ref x :: r) hp) := xVe _ _ _ _ _ _
theorem s_Rooms_fill_109  (C : xCx) (L r : List Value) (hp : xHp) : (xV k_Rooms_fill C 109 L (r) hp) = (xV k_Rooms_fill C 110 L (.int (0) :: r) hp) := xVe _ _ _ _ _ _
theorem s_Rooms_fill_110  (C : xCx) (L r : List Value) (hp : xHp) : (xV k_Rooms_fill C 110 L (r) hp) = (xV k_Rooms_fill C 111 L (.int (0) :: r) hp) := xVe _ _ _ _ _ _
theorem s_Rooms_fill_111  (C : xCx) (L r : List Value) (hp : xHp) : (xV k_Rooms_fill C 111 L (r) hp) = (xV k_Rooms_fill C 112 L (.int (0) :: r) hp) := xVe _ _ _ _ _ _
theorem s_Rooms_fill_112 (x0 : Int32) (x1 : Int32) (x2 : Int32) (a : Nat) (l : Launch) (d b lo gz n0 s0 : Nat) (Po : Option Value → xHp → Prop) (L r : List Value) (hp : xHp) : (xV k_Rooms_fill (l, d + 1, b, lo, gz, n0, s0, m_Rooms_fill, Po) 112 L (.int x2 :: .int x1 :: .int x0 :: .ref a :: r) hp) = (xO hp a 6 ∧ xcs r 8 ∧ xMv l d b lo gz m_Rooms_give [.ref a, .int x0, .int x1, .int x2] hp (fun hp' => xV k_Rooms_fill (l, d + 1, b, lo, gz, n0, s0, m_Rooms_fill, Po) 115 L r hp')) := xVe _ _ _ _ _ _
theorem s_Rooms_fill_115 (C : xCx) (r : List Value) (hp : xHp) (x : Nat) (a0 a1 a2 a4 a5 : Value) : (xV k_Rooms_fill C 115 [a0, a1, a2, .ref x, a4, a5] r hp) = (True ∧ xV k_Rooms_fill C 116 [a0, a1, a2, .ref x, a4, a5] (.ref x :: r) hp) := xVe _ _ _ _ _ _
theorem s_Rooms_fill_116 (a : Nat) (l : Launch) (d b lo gz n0 s0 : Nat) (Po : Option Value → xHp → Prop) (L r : List Value) (hp : xHp) : (xV k_Rooms_fill (l, d + 1, b, lo, gz, n0, s0, m_Rooms_fill, Po) 116 L (.ref a :: r) hp) = (xO hp a 7 ∧ xcs r 8 ∧ xMv l d b lo gz m_Row_clear [.ref a] hp (fun hp' => xV k_Rooms_fill (l, d + 1, b, lo, gz, n0, s0, m_Rooms_fill, Po) 119 L r hp')) := xVe _ _ _ _ _ _
theorem s_Rooms_fill_119  (C : xCx) (L r : List Value) (hp : xHp) : (xV k_Rooms_fill C 119 L (r) hp) = (xV k_Rooms_fill C 120 L (.int (0) :: r) hp) := xVe _ _ _ _ _ _
theorem s_Rooms_fill_120 (C : xCx) (r : List Value) (hp : xHp) (x : Int32) (a0 a1 a2 a3 a4 a5 : Value) : (xV k_Rooms_fill C 120 [a0, a1, a2, a3, a4, a5] (.int x :: r) hp) = (4 < 6 ∧ xNl [a0, a1, a2, a3, a4, a5] 4 ∧ xV k_Rooms_fill C 122 [a0, a1, a2, a3, .int x, a5] r hp) := xVe _ _ _ _ _ _
theorem s_Rooms_fill_122 (C : xCx) (r : List Value) (hp : xHp) (x : Int32) (a0 a1 a2 a3 a5 : Value) : (xV k_Rooms_fill C 122 [a0, a1, a2, a3, .int x, a5] r hp) = (xV k_Rooms_fill C 124 [a0, a1, a2, a3, .int x, a5] (.int x :: r) hp) := xVe _ _ _ _ _ _
theorem s_Rooms_fill_124 (C : xCx) (r : List Value) (hp : xHp) (x : Nat) (a1 a2 a3 a4 a5 : Value) : (xV k_Rooms_fill C 124 [.ref x, a1, a2, a3, a4, a5] r hp) = (True ∧ xV k_Rooms_fill C 125 [.ref x, a1, a2, a3, a4, a5] (.ref x :: r) hp) := xVe _ _ _ _ _ _
theorem s_Rooms_fill_125 (a : Nat) (C : xCx) (L r : List Value) (hp : xHp) : (xV k_Rooms_fill C 125 L (.ref a :: r) hp) = (xF hp a 6 5 (fun v => xV k_Rooms_fill C 128 L (v :: r) hp)) := xVe _ _ _ _ _ _
theorem s_Rooms_fill_128 (x y : Int32) (C : xCx) (L r : List Value) (hp : xHp) : (xV k_Rooms_fill C 128 L (.int y :: .int x :: r) hp) = (((y ≤ x → xV k_Rooms_fill C 151 L r hp) ∧ (¬ y ≤ x → xV k_Rooms_fill C 131 L r hp))) := xVe _ _ _ _ _ _
theorem s_Rooms_fill_131 (C : xCx) (r : List Value) (hp : xHp) (x : Nat) (a0 a1 a2 a4 a5 : Value) : (xV k_Rooms_fill C 131 [a0, a1, a2, .ref x, a4, a5] r hp) = (True ∧ xV k_Rooms_fill C 132 [a0, a1, a2, .ref x, a4, a5] (.ref x :: r) hp) := xVe _ _ _ _ _ _
theorem s_Rooms_fill_132 (C : xCx) (r : List Value) (hp : xHp) (x : Nat) (a1 a2 a3 a4 a5 : Value) : (xV k_Rooms_fill C 132 [.ref x, a1, a2, a3, a4, a5] r hp) = (True ∧ xV k_Rooms_fill C 133 [.ref x, a1, a2, a3, a4, a5] (.ref x :: r) hp) := xVe _ _ _ _ _ _
theorem s_Rooms_fill_133 (a : Nat) (C : xCx) (L r : List Value) (hp : xHp) : (xV k_Rooms_fill C 133 L (.ref a :: r) hp) = (xF hp a 6 4 (fun v => xV k_Rooms_fill C 136 L (v :: r) hp)) := xVe _ _ _ _ _ _
theorem s_Rooms_fill_136 (C : xCx) (r : List Value) (hp : xHp) (x : Int32) (a0 a1 a2 a3 a5 : Value) : (xV k_Rooms_fill C 136 [a0, a1, a2, a3, .int x, a5] r hp) = (xV k_Rooms_fill C 138 [a0, a1, a2, a3, .int x, a5] (.int x :: r) hp) := xVe _ _ _ _ _ _
theorem s_Rooms_fill_138 (x0 : Nat) (x1 : Int32) (l : Launch) (d b lo gz n0 s0 : Nat) (Po : Option Value → xHp → Prop) (L r : List Value) (hp : xHp) : (xV k_Rooms_fill (l, d + 1, b, lo, gz, n0, s0, m_Rooms_fill, Po) 138 L (.int x1 :: .ref x0 :: r) hp) = (2 ≤ List.length (.int x1 :: .ref x0 :: r) ∧ xcs r 8 ∧ xMi l d b lo gz m_So_at [.ref x0, .int x1] hp (fun x hp' => xV k_Rooms_fill (l, d + 1, b, lo, gz, n0, s0, m_Rooms_fill, Po) 141 L (.int x :: r) hp')) := xVe _ _ _ _ _ _
theorem s_Rooms_fill_141 (x : Int32) (C : xCx) (L r : List Value) (hp : xHp) : (xV k_Rooms_fill C 141 L (.int x :: r) hp) = (xV k_Rooms_fill C 142 L (.long x.toInt64 :: r) hp) := xVe _ _ _ _ _ _
theorem s_Rooms_fill_142 (x0 : Int64) (a : Nat) (l : Launch) (d b lo gz n0 s0 : Nat) (Po : Option Value → xHp → Prop) (L r : List Value) (hp : xHp) : (xV k_Rooms_fill (l, d + 1, b, lo, gz, n0, s0, m_Rooms_fill, Po) 142 L (.long x0 :: .ref a :: r) hp) = (xO hp a 7 ∧ xcs r 8 ∧ xMv l d b lo gz m_Row_add [.ref a, .long x0] hp (fun hp' => xV k_Rooms_fill (l, d + 1, b, lo, gz, n0, s0, m_Rooms_fill, Po) 145 L r hp')) := xVe _ _ _ _ _ _
theorem s_Rooms_fill_145 (C : xCx) (r : List Value) (hp : xHp) (x : Int32) (a0 a1 a2 a3 a5 : Value) : (xV k_Rooms_fill C 145 [a0, a1, a2, a3, .int x, a5] r hp) = (xNl [a0, a1, a2, a3, .int x, a5] 4 ∧ xV k_Rooms_fill C 148 [a0, a1, a2, a3, .int (x + (1)), a5] r hp) := xVe _ _ _ _ _ _
theorem s_Rooms_fill_148 (C : xCx) (L r : List Value) (hp : xHp) : (xV k_Rooms_fill C 148 L r hp) = (xV k_Rooms_fill C 122 L r hp) := xVe _ _ _ _ _ _
theorem s_Rooms_fill_151 (C : xCx) (r : List Value) (hp : xHp) (x : Nat) (a1 a2 a3 a4 a5 : Value) : (xV k_Rooms_fill C 151 [.ref x, a1, a2, a3, a4, a5] r hp) = (True ∧ xV k_Rooms_fill C 152 [.ref x, a1, a2, a3, a4, a5] (.ref x :: r) hp) := xVe _ _ _ _ _ _
theorem s_Rooms_fill_152 (a : Nat) (C : xCx) (L r : List Value) (hp : xHp) : (xV k_Rooms_fill C 152 L (.ref a :: r) hp) = (xF hp a 6 6 (fun v => xV k_Rooms_fill C 155 L (v :: r) hp)) := xVe _ _ _ _ _ _
theorem s_Rooms_fill_155 (v : Int32) (l : Launch) (d b lo gz n0 s0 : Nat) (Po : Option Value → xHp → Prop) (L : List Value) (hp : xHp) : (xV k_Rooms_fill (l, d, b, lo, gz, n0, s0, m_Rooms_fill, Po) 155 L [.int v] hp) = (Po (some (.int v)) hp) := xVe _ _ _ _ _ _
def k_Sun_hoursAlone : List xEC := [
  (0, .aload_n 0, 1, 0, 0, 0, m_x),
  (1, .aload_n 0, 2, 0, 0, 0, m_x),
  (2, .getfield 21, 5, 9, 1, 0, m_x),
  (5, .aload_n 1, 6, 0, 0, 0, m_x),
  (6, .iload_n 2, 7, 0, 0, 0, m_x),
  (7, .iload_n 3, 8, 0, 0, 0, m_x),
  (8, .iconst 0, 9, 0, 0, 0, m_x),
  (9, .aload_n 0, 10, 0, 0, 0, m_x),
  (10, .getfield 17, 13, 9, 0, 0, m_x),
  (13, .aload_n 1, 14, 0, 0, 0, m_x),
  (14, .invokevirtual 40, 17, 3, 0, 0, m_Folk_day),
  (17, .invokevirtual 59, 20, 4, 0, 0, m_Land_skyOn),
  (20, .invokevirtual 62, 23, 9, 0, 0, m_Sun_hoursBy),
  (23, .ireturn, 24, 0, 0, 0, m_x)]
theorem dc_Sun_hoursAlone : ∀ E ∈ k_Sun_hoursAlone, xDc m_Sun_hoursAlone E := by decide +kernel
set_option maxRecDepth 20000 in
theorem ok_Sun_hoursAlone : ∀ E ∈ k_Sun_hoursAlone, xOk m_Sun_hoursAlone E := xok_of dc_Sun_hoursAlone (xfc trivial (xfc trivial (xfc fl_Sun_21 (xfc trivial (xfc trivial (xfc trivial (xfc trivial (xfc trivial (xfc fl_Sun_17 (xfc trivial (xfc ⟨ml_Sun_40, kd_Folk_day⟩ (xfc ⟨ml_Sun_59, kd_Land_skyOn⟩ (xfc ⟨ml_Sun_62, kd_Sun_hoursBy⟩ (xfc trivial (xfn)))))))))))))))
theorem s_Sun_hoursAlone_0 (C : xCx) (r : List Value) (hp : xHp) (x : Nat) (a1 a2 a3 : Value) : (xV k_Sun_hoursAlone C 0 [.ref x, a1, a2, a3] r hp) = (True ∧ xV k_Sun_hoursAlone C 1 [.ref x, a1, a2, a3] (.ref x :: r) hp) := xVe _ _ _ _ _ _
theorem s_Sun_hoursAlone_1 (C : xCx) (r : List Value) (hp : xHp) (x : Nat) (a1 a2 a3 : Value) : (xV k_Sun_hoursAlone C 1 [.ref x, a1, a2, a3] r hp) = (True ∧ xV k_Sun_hoursAlone C 2 [.ref x, a1, a2, a3] (.ref x :: r) hp) := xVe _ _ _ _ _ _
theorem s_Sun_hoursAlone_2 (a : Nat) (C : xCx) (L r : List Value) (hp : xHp) : (xV k_Sun_hoursAlone C 2 L (.ref a :: r) hp) = (xF hp a 9 1 (fun v => xV k_Sun_hoursAlone C 5 L (v :: r) hp)) := xVe _ _ _ _ _ _
theorem s_Sun_hoursAlone_5 (C : xCx) (r : List Value) (hp : xHp) (x : Nat) (a0 a2 a3 : Value) : (xV k_Sun_hoursAlone C 5 [a0, .ref x, a2, a3] r hp) = (True ∧ xV k_Sun_hoursAlone C 6 [a0, .ref x, a2, a3] (.ref x :: r) hp) := xVe _ _ _ _ _ _
theorem s_Sun_hoursAlone_6 (C : xCx) (r : List Value) (hp : xHp) (x : Int32) (a0 a1 a3 : Value) : (xV k_Sun_hoursAlone C 6 [a0, a1, .int x, a3] r hp) = (xV k_Sun_hoursAlone C 7 [a0, a1, .int x, a3] (.int x :: r) hp) := xVe _ _ _ _ _ _
theorem s_Sun_hoursAlone_7 (C : xCx) (r : List Value) (hp : xHp) (x : Int32) (a0 a1 a2 : Value) : (xV k_Sun_hoursAlone C 7 [a0, a1, a2, .int x] r hp) = (xV k_Sun_hoursAlone C 8 [a0, a1, a2, .int x] (.int x :: r) hp) := xVe _ _ _ _ _ _
theorem s_Sun_hoursAlone_8  (C : xCx) (L r : List Value) (hp : xHp) : (xV k_Sun_hoursAlone C 8 L (r) hp) = (xV k_Sun_hoursAlone C 9 L (.int (0) :: r) hp) := xVe _ _ _ _ _ _
theorem s_Sun_hoursAlone_9 (C : xCx) (r : List Value) (hp : xHp) (x : Nat) (a1 a2 a3 : Value) : (xV k_Sun_hoursAlone C 9 [.ref x, a1, a2, a3] r hp) = (True ∧ xV k_Sun_hoursAlone C 10 [.ref x, a1, a2, a3] (.ref x :: r) hp) := xVe _ _ _ _ _ _
theorem s_Sun_hoursAlone_10 (a : Nat) (C : xCx) (L r : List Value) (hp : xHp) : (xV k_Sun_hoursAlone C 10 L (.ref a :: r) hp) = (xF hp a 9 0 (fun v => xV k_Sun_hoursAlone C 13 L (v :: r) hp)) := xVe _ _ _ _ _ _
theorem s_Sun_hoursAlone_13 (C : xCx) (r : List Value) (hp : xHp) (x : Nat) (a0 a2 a3 : Value) : (xV k_Sun_hoursAlone C 13 [a0, .ref x, a2, a3] r hp) = (True ∧ xV k_Sun_hoursAlone C 14 [a0, .ref x, a2, a3] (.ref x :: r) hp) := xVe _ _ _ _ _ _
theorem s_Sun_hoursAlone_14 (a : Nat) (l : Launch) (d b lo gz n0 s0 : Nat) (Po : Option Value → xHp → Prop) (L r : List Value) (hp : xHp) : (xV k_Sun_hoursAlone (l, d + 1, b, lo, gz, n0, s0, m_Sun_hoursAlone, Po) 14 L (.ref a :: r) hp) = (xO hp a 3 ∧ xcs r 8 ∧ xMi l d b lo gz m_Folk_day [.ref a] hp (fun x hp' => xV k_Sun_hoursAlone (l, d + 1, b, lo, gz, n0, s0, m_Sun_hoursAlone, Po) 17 L (.int x :: r) hp')) := xVe _ _ _ _ _ _
theorem s_Sun_hoursAlone_17 (x0 : Int32) (a : Nat) (l : Launch) (d b lo gz n0 s0 : Nat) (Po : Option Value → xHp → Prop) (L r : List Value) (hp : xHp) : (xV k_Sun_hoursAlone (l, d + 1, b, lo, gz, n0, s0, m_Sun_hoursAlone, Po) 17 L (.int x0 :: .ref a :: r) hp) = (xO hp a 4 ∧ xcs r 8 ∧ xMi l d b lo gz m_Land_skyOn [.ref a, .int x0] hp (fun x hp' => xV k_Sun_hoursAlone (l, d + 1, b, lo, gz, n0, s0, m_Sun_hoursAlone, Po) 20 L (.int x :: r) hp')) := xVe _ _ _ _ _ _
theorem s_Sun_hoursAlone_20 (x0 : Nat) (x1 : Nat) (x2 : Int32) (x3 : Int32) (x4 : Int32) (x5 : Int32) (a : Nat) (l : Launch) (d b lo gz n0 s0 : Nat) (Po : Option Value → xHp → Prop) (L r : List Value) (hp : xHp) : (xV k_Sun_hoursAlone (l, d + 1, b, lo, gz, n0, s0, m_Sun_hoursAlone, Po) 20 L (.int x5 :: .int x4 :: .int x3 :: .int x2 :: .ref x1 :: .ref x0 :: .ref a :: r) hp) = (xO hp a 9 ∧ xcs r 8 ∧ xMi l d b lo gz m_Sun_hoursBy [.ref a, .ref x0, .ref x1, .int x2, .int x3, .int x4, .int x5] hp (fun x hp' => xV k_Sun_hoursAlone (l, d + 1, b, lo, gz, n0, s0, m_Sun_hoursAlone, Po) 23 L (.int x :: r) hp')) := xVe _ _ _ _ _ _
theorem s_Sun_hoursAlone_23 (v : Int32) (l : Launch) (d b lo gz n0 s0 : Nat) (Po : Option Value → xHp → Prop) (L : List Value) (hp : xHp) : (xV k_Sun_hoursAlone (l, d, b, lo, gz, n0, s0, m_Sun_hoursAlone, Po) 23 L [.int v] hp) = (Po (some (.int v)) hp) := xVe _ _ _ _ _ _
theorem ml_Rooms_79 : xLk "SunnyOnes$Rooms" 79 m_Rooms_compare := Or.inl (wg4 142 (by decide +kernel) rfl)
def k_Rooms_give : List xEC := [
  (0, .iload_n 1, 1, 0, 0, 0, m_x),
  (1, .aload_n 0, 2, 0, 0, 0, m_x),
  (2, .getfield 35, 5, 6, 5, 0, m_x),
  (5, .if_icmp .lt 9, 8, 0, 14, 0, m_x),
  (8, .aload_n 0, 9, 0, 0, 0, m_x),
  (9, .iload_n 3, 10, 0, 0, 0, m_x),
  (10, .invokevirtual 79, 13, 6, 0, 0, m_Rooms_compare),
  (13, .return_, 14, 0, 0, 0, m_x),
  (14, .iconst 0, 15, 0, 0, 0, m_x),
  (15, .istore 4, 17, 0, 0, 0, m_x),
  (17, .iload 4, 19, 0, 0, 0, m_x),
  (19, .aload_n 0, 20, 0, 0, 0, m_x),
  (20, .getfield 21, 23, 6, 0, 0, m_x),
  (23, .invokevirtual 39, 26, 4, 0, 0, m_Land_size),
  (26, .if_icmp .ge 57, 29, 0, 83, 0, m_x),
  (29, .iload_n 2, 30, 0, 0, 0, m_x),
  (30, .iconst 1, 31, 0, 0, 0, m_x),
  (31, .iload 4, 33, 0, 0, 0, m_x),
  (33, .ishl, 34, 0, 0, 0, m_x),
  (34, .iand, 35, 0, 0, 0, m_x),
  (35, .ifCond .ne 42, 38, 0, 77, 0, m_x),
  (38, .aload_n 0, 39, 0, 0, 0, m_x),
  (39, .getfield 15, 42, 6, 3, 0, m_x),
  (42, .iload_n 1, 43, 0, 0, 0, m_x),
  (43, .iload 4, 45, 0, 0, 0, m_x),
  (45, .invokestatic 48, 48, 0, 0, 0, m_So_put),
  (48, .aload_n 0, 49, 0, 0, 0, m_x),
  (49, .iload_n 1, 50, 0, 0, 0, m_x),
  (50, .iconst 1, 51, 0, 0, 0, m_x),
  (51, .iadd, 52, 0, 0, 0, m_x),
  (52, .iload_n 2, 53, 0, 0, 0, m_x),
  (53, .iconst 1, 54, 0, 0, 0, m_x),
  (54, .iload 4, 56, 0, 0, 0, m_x),
  (56, .ishl, 57, 0, 0, 0, m_x),
  (57, .ior, 58, 0, 0, 0, m_x),
  (58, .iload_n 3, 59, 0, 0, 0, m_x),
  (59, .aload_n 0, 60, 0, 0, 0, m_x),
  (60, .getfield 9, 63, 6, 2, 0, m_x),
  (63, .iload_n 1, 64, 0, 0, 0, m_x),
  (64, .bipush 6, 66, 0, 0, 0, m_x),
  (66, .imul, 67, 0, 0, 0, m_x),
  (67, .iload 4, 69, 0, 0, 0, m_x),
  (69, .iadd, 70, 0, 0, 0, m_x),
  (70, .invokestatic 68, 73, 0, 0, 0, m_So_at),
  (73, .iadd, 74, 0, 0, 0, m_x),
  (74, .invokevirtual 59, 77, 6, 0, 0, m_Rooms_give),
  (77, .iinc 4 1, 80, 0, 0, 0, m_x),
  (80, .goto (-63), 83, 0, 17, 0, m_x),
  (83, .return_, 84, 0, 0, 0, m_x)]
theorem dc_Rooms_give : ∀ E ∈ k_Rooms_give, xDc m_Rooms_give E := by decide +kernel
set_option maxRecDepth 20000 in
theorem ok_Rooms_give : ∀ E ∈ k_Rooms_give, xOk m_Rooms_give E := xok_of dc_Rooms_give (xfc trivial (xfc trivial (xfc fl_Rooms_35 (xfc (show ((5 : Nat) : Int) + (9) = ((14 : Nat) : Int) from by decide) (xfc trivial (xfc trivial (xfc ⟨ml_Rooms_79, kd_Rooms_compare⟩ (xfc trivial (xfc trivial (xfc trivial (xfc trivial (xfc trivial (xfc fl_Rooms_21 (xfc ⟨ml_Rooms_39, kd_Land_size⟩ (xfc (show ((26 : Nat) : Int) + (57) = ((83 : Nat) : Int) from by decide) (xfc trivial (xfc trivial (xfc trivial (xfc trivial (xfc trivial (xfc (show ((35 : Nat) : Int) + (42) = ((77 : Nat) : Int) from by decide) (xfc trivial (xfc fl_Rooms_15 (xfc trivial (xfc trivial (xfc ⟨ml_Rooms_48, kd_So_put⟩ (xfc trivial (xfc trivial (xfc trivial (xfc trivial (xfc trivial (xfc trivial (xfc trivial (xfc trivial (xfc trivial (xfc trivial (xfc trivial (xfc fl_Rooms_9 (xfc trivial (xfc trivial (xfc trivial (xfc trivial (xfc trivial (xfc ⟨ml_Rooms_68, kd_So_at⟩ (xfc trivial (xfc ⟨ml_Rooms_59, kd_Rooms_give⟩ (xfc trivial (xfc (show ((80 : Nat) : Int) + (-63) = ((17 : Nat) : Int) from by decide) (xfc trivial (xfn))))))))))))))))))))))))))))))))))))))))))))))))))
theorem s_Rooms_give_0 (C : xCx) (r : List Value) (hp : xHp) (x : Int32) (a0 a2 a3 a4 : Value) : (xV k_Rooms_give C 0 [a0, .int x, a2, a3, a4] r hp) = (xV k_Rooms_give C 1 [a0, .int x, a2, a3, a4] (.int x :: r) hp) := xVe _ _ _ _ _ _
theorem s_Rooms_give_1 (C : xCx) (r : List Value) (hp : xHp) (x : Nat) (a1 a2 a3 a4 : Value) : (xV k_Rooms_give C 1 [.ref x, a1, a2, a3, a4] r hp) = (True ∧ xV k_Rooms_give C 2 [.ref x, a1, a2, a3, a4] (.ref x :: r) hp) := xVe _ _ _ _ _ _
theorem s_Rooms_give_2 (a : Nat) (C : xCx) (L r : List Value) (hp : xHp) : (xV k_Rooms_give C 2 L (.ref a :: r) hp) = (xF hp a 6 5 (fun v => xV k_Rooms_give C 5 L (v :: r) hp)) := xVe _ _ _ _ _ _
theorem s_Rooms_give_5 (x y : Int32) (C : xCx) (L r : List Value) (hp : xHp) : (xV k_Rooms_give C 5 L (.int y :: .int x :: r) hp) = (((x < y → xV k_Rooms_give C 14 L r hp) ∧ (¬ x < y → xV k_Rooms_give C 8 L r hp))) := xVe _ _ _ _ _ _
theorem s_Rooms_give_8 (C : xCx) (r : List Value) (hp : xHp) (x : Nat) (a1 a2 a3 a4 : Value) : (xV k_Rooms_give C 8 [.ref x, a1, a2, a3, a4] r hp) = (True ∧ xV k_Rooms_give C 9 [.ref x, a1, a2, a3, a4] (.ref x :: r) hp) := xVe _ _ _ _ _ _
theorem s_Rooms_give_9 (C : xCx) (r : List Value) (hp : xHp) (x : Int32) (a0 a1 a2 a4 : Value) : (xV k_Rooms_give C 9 [a0, a1, a2, .int x, a4] r hp) = (xV k_Rooms_give C 10 [a0, a1, a2, .int x, a4] (.int x :: r) hp) := xVe _ _ _ _ _ _
theorem s_Rooms_give_10 (x0 : Int32) (a : Nat) (l : Launch) (d b lo gz n0 s0 : Nat) (Po : Option Value → xHp → Prop) (L r : List Value) (hp : xHp) : (xV k_Rooms_give (l, d + 1, b, lo, gz, n0, s0, m_Rooms_give, Po) 10 L (.int x0 :: .ref a :: r) hp) = (xO hp a 6 ∧ xcs r 8 ∧ xMv l d b lo gz m_Rooms_compare [.ref a, .int x0] hp (fun hp' => xV k_Rooms_give (l, d + 1, b, lo, gz, n0, s0, m_Rooms_give, Po) 13 L r hp')) := xVe _ _ _ _ _ _
theorem s_Rooms_give_13 (l : Launch) (d b lo gz n0 s0 : Nat) (Po : Option Value → xHp → Prop) (L : List Value) (hp : xHp) : (xV k_Rooms_give (l, d, b, lo, gz, n0, s0, m_Rooms_give, Po) 13 L [] hp) = (Po (none) hp) := xVe _ _ _ _ _ _
theorem s_Rooms_give_14  (C : xCx) (L r : List Value) (hp : xHp) : (xV k_Rooms_give C 14 L (r) hp) = (xV k_Rooms_give C 15 L (.int (0) :: r) hp) := xVe _ _ _ _ _ _
theorem s_Rooms_give_15 (C : xCx) (r : List Value) (hp : xHp) (x : Int32) (a0 a1 a2 a3 a4 : Value) : (xV k_Rooms_give C 15 [a0, a1, a2, a3, a4] (.int x :: r) hp) = (4 < 5 ∧ xNl [a0, a1, a2, a3, a4] 4 ∧ xV k_Rooms_give C 17 [a0, a1, a2, a3, .int x] r hp) := xVe _ _ _ _ _ _
theorem s_Rooms_give_17 (C : xCx) (r : List Value) (hp : xHp) (x : Int32) (a0 a1 a2 a3 : Value) : (xV k_Rooms_give C 17 [a0, a1, a2, a3, .int x] r hp) = (xV k_Rooms_give C 19 [a0, a1, a2, a3, .int x] (.int x :: r) hp) := xVe _ _ _ _ _ _
theorem s_Rooms_give_19 (C : xCx) (r : List Value) (hp : xHp) (x : Nat) (a1 a2 a3 a4 : Value) : (xV k_Rooms_give C 19 [.ref x, a1, a2, a3, a4] r hp) = (True ∧ xV k_Rooms_give C 20 [.ref x, a1, a2, a3, a4] (.ref x :: r) hp) := xVe _ _ _ _ _ _
theorem s_Rooms_give_20 (a : Nat) (C : xCx) (L r : List Value) (hp : xHp) : (xV k_Rooms_give C 20 L (.ref a :: r) hp) = (xF hp a 6 0 (fun v => xV k_Rooms_give C 23 L (v :: r) hp)) := xVe _ _ _ _ _ _
theorem s_Rooms_give_23 (a : Nat) (l : Launch) (d b lo gz n0 s0 : Nat) (Po : Option Value → xHp → Prop) (L r : List Value) (hp : xHp) : (xV k_Rooms_give (l, d + 1, b, lo, gz, n0, s0, m_Rooms_give, Po) 23 L (.ref a :: r) hp) = (xO hp a 4 ∧ xcs r 8 ∧ xMi l d b lo gz m_Land_size [.ref a] hp (fun x hp' => xV k_Rooms_give (l, d + 1, b, lo, gz, n0, s0, m_Rooms_give, Po) 26 L (.int x :: r) hp')) := xVe _ _ _ _ _ _
theorem s_Rooms_give_26 (x y : Int32) (C : xCx) (L r : List Value) (hp : xHp) : (xV k_Rooms_give C 26 L (.int y :: .int x :: r) hp) = (((y ≤ x → xV k_Rooms_give C 83 L r hp) ∧ (¬ y ≤ x → xV k_Rooms_give C 29 L r hp))) := xVe _ _ _ _ _ _
theorem s_Rooms_give_29 (C : xCx) (r : List Value) (hp : xHp) (x : Int32) (a0 a1 a3 a4 : Value) : (xV k_Rooms_give C 29 [a0, a1, .int x, a3, a4] r hp) = (xV k_Rooms_give C 30 [a0, a1, .int x, a3, a4] (.int x :: r) hp) := xVe _ _ _ _ _ _
theorem s_Rooms_give_30  (C : xCx) (L r : List Value) (hp : xHp) : (xV k_Rooms_give C 30 L (r) hp) = (xV k_Rooms_give C 31 L (.int (1) :: r) hp) := xVe _ _ _ _ _ _
theorem s_Rooms_give_31 (C : xCx) (r : List Value) (hp : xHp) (x : Int32) (a0 a1 a2 a3 : Value) : (xV k_Rooms_give C 31 [a0, a1, a2, a3, .int x] r hp) = (xV k_Rooms_give C 33 [a0, a1, a2, a3, .int x] (.int x :: r) hp) := xVe _ _ _ _ _ _
theorem s_Rooms_give_33 (x y : Int32) (C : xCx) (L r : List Value) (hp : xHp) : (xV k_Rooms_give C 33 L (.int y :: .int x :: r) hp) = (xV k_Rooms_give C 34 L (.int (x <<< (y &&& 31)) :: r) hp) := xVe _ _ _ _ _ _
theorem s_Rooms_give_34 (x y : Int32) (C : xCx) (L r : List Value) (hp : xHp) : (xV k_Rooms_give C 34 L (.int y :: .int x :: r) hp) = (xV k_Rooms_give C 35 L (.int (x &&& y) :: r) hp) := xVe _ _ _ _ _ _
theorem s_Rooms_give_35 (x : Int32) (C : xCx) (L r : List Value) (hp : xHp) : (xV k_Rooms_give C 35 L (.int x :: r) hp) = (((¬ x = 0 → xV k_Rooms_give C 77 L r hp) ∧ (x = 0 → xV k_Rooms_give C 38 L r hp))) := xVe _ _ _ _ _ _
theorem s_Rooms_give_38 (C : xCx) (r : List Value) (hp : xHp) (x : Nat) (a1 a2 a3 a4 : Value) : (xV k_Rooms_give C 38 [.ref x, a1, a2, a3, a4] r hp) = (True ∧ xV k_Rooms_give C 39 [.ref x, a1, a2, a3, a4] (.ref x :: r) hp) := xVe _ _ _ _ _ _
theorem s_Rooms_give_39 (a : Nat) (C : xCx) (L r : List Value) (hp : xHp) : (xV k_Rooms_give C 39 L (.ref a :: r) hp) = (xF hp a 6 3 (fun v => xV k_Rooms_give C 42 L (v :: r) hp)) := xVe _ _ _ _ _ _
theorem s_Rooms_give_42 (C : xCx) (r : List Value) (hp : xHp) (x : Int32) (a0 a2 a3 a4 : Value) : (xV k_Rooms_give C 42 [a0, .int x, a2, a3, a4] r hp) = (xV k_Rooms_give C 43 [a0, .int x, a2, a3, a4] (.int x :: r) hp) := xVe _ _ _ _ _ _
theorem s_Rooms_give_43 (C : xCx) (r : List Value) (hp : xHp) (x : Int32) (a0 a1 a2 a3 : Value) : (xV k_Rooms_give C 43 [a0, a1, a2, a3, .int x] r hp) = (xV k_Rooms_give C 45 [a0, a1, a2, a3, .int x] (.int x :: r) hp) := xVe _ _ _ _ _ _
theorem s_Rooms_give_45 (x0 : Nat) (x1 : Int32) (x2 : Int32) (l : Launch) (d b lo gz n0 s0 : Nat) (Po : Option Value → xHp → Prop) (L r : List Value) (hp : xHp) : (xV k_Rooms_give (l, d + 1, b, lo, gz, n0, s0, m_Rooms_give, Po) 45 L (.int x2 :: .int x1 :: .ref x0 :: r) hp) = (3 ≤ List.length (.int x2 :: .int x1 :: .ref x0 :: r) ∧ xcs r 8 ∧ xMv l d b lo gz m_So_put [.ref x0, .int x1, .int x2] hp (fun hp' => xV k_Rooms_give (l, d + 1, b, lo, gz, n0, s0, m_Rooms_give, Po) 48 L r hp')) := xVe _ _ _ _ _ _
theorem s_Rooms_give_48 (C : xCx) (r : List Value) (hp : xHp) (x : Nat) (a1 a2 a3 a4 : Value) : (xV k_Rooms_give C 48 [.ref x, a1, a2, a3, a4] r hp) = (True ∧ xV k_Rooms_give C 49 [.ref x, a1, a2, a3, a4] (.ref x :: r) hp) := xVe _ _ _ _ _ _
theorem s_Rooms_give_49 (C : xCx) (r : List Value) (hp : xHp) (x : Int32) (a0 a2 a3 a4 : Value) : (xV k_Rooms_give C 49 [a0, .int x, a2, a3, a4] r hp) = (xV k_Rooms_give C 50 [a0, .int x, a2, a3, a4] (.int x :: r) hp) := xVe _ _ _ _ _ _
theorem s_Rooms_give_50  (C : xCx) (L r : List Value) (hp : xHp) : (xV k_Rooms_give C 50 L (r) hp) = (xV k_Rooms_give C 51 L (.int (1) :: r) hp) := xVe _ _ _ _ _ _
theorem s_Rooms_give_51 (x y : Int32) (C : xCx) (L r : List Value) (hp : xHp) : (xV k_Rooms_give C 51 L (.int y :: .int x :: r) hp) = (xV k_Rooms_give C 52 L (.int (x + y) :: r) hp) := xVe _ _ _ _ _ _
theorem s_Rooms_give_52 (C : xCx) (r : List Value) (hp : xHp) (x : Int32) (a0 a1 a3 a4 : Value) : (xV k_Rooms_give C 52 [a0, a1, .int x, a3, a4] r hp) = (xV k_Rooms_give C 53 [a0, a1, .int x, a3, a4] (.int x :: r) hp) := xVe _ _ _ _ _ _
theorem s_Rooms_give_53  (C : xCx) (L r : List Value) (hp : xHp) : (xV k_Rooms_give C 53 L (r) hp) = (xV k_Rooms_give C 54 L (.int (1) :: r) hp) := xVe _ _ _ _ _ _
theorem s_Rooms_give_54 (C : xCx) (r : List Value) (hp : xHp) (x : Int32) (a0 a1 a2 a3 : Value) : (xV k_Rooms_give C 54 [a0, a1, a2, a3, .int x] r hp) = (xV k_Rooms_give C 56 [a0, a1, a2, a3, .int x] (.int x :: r) hp) := xVe _ _ _ _ _ _
theorem s_Rooms_give_56 (x y : Int32) (C : xCx) (L r : List Value) (hp : xHp) : (xV k_Rooms_give C 56 L (.int y :: .int x :: r) hp) = (xV k_Rooms_give C 57 L (.int (x <<< (y &&& 31)) :: r) hp) := xVe _ _ _ _ _ _
theorem s_Rooms_give_57 (x y : Int32) (C : xCx) (L r : List Value) (hp : xHp) : (xV k_Rooms_give C 57 L (.int y :: .int x :: r) hp) = (xV k_Rooms_give C 58 L (.int (x ||| y) :: r) hp) := xVe _ _ _ _ _ _
theorem s_Rooms_give_58 (C : xCx) (r : List Value) (hp : xHp) (x : Int32) (a0 a1 a2 a4 : Value) : (xV k_Rooms_give C 58 [a0, a1, a2, .int x, a4] r hp) = (xV k_Rooms_give C 59 [a0, a1, a2, .int x, a4] (.int x :: r) hp) := xVe _ _ _ _ _ _
theorem s_Rooms_give_59 (C : xCx) (r : List Value) (hp : xHp) (x : Nat) (a1 a2 a3 a4 : Value) : (xV k_Rooms_give C 59 [.ref x, a1, a2, a3, a4] r hp) = (True ∧ xV k_Rooms_give C 60 [.ref x, a1, a2, a3, a4] (.ref x :: r) hp) := xVe _ _ _ _ _ _
theorem s_Rooms_give_60 (a : Nat) (C : xCx) (L r : List Value) (hp : xHp) : (xV k_Rooms_give C 60 L (.ref a :: r) hp) = (xF hp a 6 2 (fun v => xV k_Rooms_give C 63 L (v :: r) hp)) := xVe _ _ _ _ _ _
theorem s_Rooms_give_63 (C : xCx) (r : List Value) (hp : xHp) (x : Int32) (a0 a2 a3 a4 : Value) : (xV k_Rooms_give C 63 [a0, .int x, a2, a3, a4] r hp) = (xV k_Rooms_give C 64 [a0, .int x, a2, a3, a4] (.int x :: r) hp) := xVe _ _ _ _ _ _
theorem s_Rooms_give_64  (C : xCx) (L r : List Value) (hp : xHp) : (xV k_Rooms_give C 64 L (r) hp) = (xV k_Rooms_give C 66 L (.int (6) :: r) hp) := xVe _ _ _ _ _ _
theorem s_Rooms_give_66 (x y : Int32) (C : xCx) (L r : List Value) (hp : xHp) : (xV k_Rooms_give C 66 L (.int y :: .int x :: r) hp) = (xV k_Rooms_give C 67 L (.int (x * y) :: r) hp) := xVe _ _ _ _ _ _
theorem s_Rooms_give_67 (C : xCx) (r : List Value) (hp : xHp) (x : Int32) (a0 a1 a2 a3 : Value) : (xV k_Rooms_give C 67 [a0, a1, a2, a3, .int x] r hp) = (xV k_Rooms_give C 69 [a0, a1, a2, a3, .int x] (.int x :: r) hp) := xVe _ _ _ _ _ _
theorem s_Rooms_give_69 (x y : Int32) (C : xCx) (L r : List Value) (hp : xHp) : (xV k_Rooms_give C 69 L (.int y :: .int x :: r) hp) = (xV k_Rooms_give C 70 L (.int (x + y) :: r) hp) := xVe _ _ _ _ _ _
theorem s_Rooms_give_70 (x0 : Nat) (x1 : Int32) (l : Launch) (d b lo gz n0 s0 : Nat) (Po : Option Value → xHp → Prop) (L r : List Value) (hp : xHp) : (xV k_Rooms_give (l, d + 1, b, lo, gz, n0, s0, m_Rooms_give, Po) 70 L (.int x1 :: .ref x0 :: r) hp) = (2 ≤ List.length (.int x1 :: .ref x0 :: r) ∧ xcs r 8 ∧ xMi l d b lo gz m_So_at [.ref x0, .int x1] hp (fun x hp' => xV k_Rooms_give (l, d + 1, b, lo, gz, n0, s0, m_Rooms_give, Po) 73 L (.int x :: r) hp')) := xVe _ _ _ _ _ _
theorem s_Rooms_give_73 (x y : Int32) (C : xCx) (L r : List Value) (hp : xHp) : (xV k_Rooms_give C 73 L (.int y :: .int x :: r) hp) = (xV k_Rooms_give C 74 L (.int (x + y) :: r) hp) := xVe _ _ _ _ _ _
theorem s_Rooms_give_74 (x0 : Int32) (x1 : Int32) (x2 : Int32) (a : Nat) (l : Launch) (d b lo gz n0 s0 : Nat) (Po : Option Value → xHp → Prop) (L r : List Value) (hp : xHp) : (xV k_Rooms_give (l, d + 1, b, lo, gz, n0, s0, m_Rooms_give, Po) 74 L (.int x2 :: .int x1 :: .int x0 :: .ref a :: r) hp) = (xO hp a 6 ∧ xcs r 8 ∧ xMv l d b lo gz m_Rooms_give [.ref a, .int x0, .int x1, .int x2] hp (fun hp' => xV k_Rooms_give (l, d + 1, b, lo, gz, n0, s0, m_Rooms_give, Po) 77 L r hp')) := xVe _ _ _ _ _ _
theorem s_Rooms_give_77 (C : xCx) (r : List Value) (hp : xHp) (x : Int32) (a0 a1 a2 a3 : Value) : (xV k_Rooms_give C 77 [a0, a1, a2, a3, .int x] r hp) = (xNl [a0, a1, a2, a3, .int x] 4 ∧ xV k_Rooms_give C 80 [a0, a1, a2, a3, .int (x + (1))] r hp) := xVe _ _ _ _ _ _
theorem s_Rooms_give_80 (C : xCx) (L r : List Value) (hp : xHp) : (xV k_Rooms_give C 80 L r hp) = (xV k_Rooms_give C 17 L r hp) := xVe _ _ _ _ _ _
theorem s_Rooms_give_83 (l : Launch) (d b lo gz n0 s0 : Nat) (Po : Option Value → xHp → Prop) (L : List Value) (hp : xHp) : (xV k_Rooms_give (l, d, b, lo, gz, n0, s0, m_Rooms_give, Po) 83 L [] hp) = (Po (none) hp) := xVe _ _ _ _ _ _
def k_Rooms_compare : List xEC := [
  (0, .aload_n 0, 1, 0, 0, 0, m_x),
  (1, .getfield 56, 4, 6, 8, 0, m_x),
  (4, .ifCond .eq 30, 7, 0, 34, 0, m_x),
  (7, .aload_n 0, 8, 0, 0, 0, m_x),
  (8, .getfield 52, 11, 6, 7, 0, m_x),
  (11, .ifCond .eq 14, 14, 0, 25, 0, m_x),
  (14, .iload_n 1, 15, 0, 0, 0, m_x),
  (15, .aload_n 0, 16, 0, 0, 0, m_x),
  (16, .getfield 76, 19, 6, 6, 0, m_x),
  (19, .if_icmp .gt 15, 22, 0, 34, 0, m_x),
  (22, .goto 11, 25, 0, 33, 0, m_x),
  (25, .iload_n 1, 26, 0, 0, 0, m_x),
  (26, .aload_n 0, 27, 0, 0, 0, m_x),
  (27, .getfield 76, 30, 6, 6, 0, m_x),
  (30, .if_icmp .lt 4, 33, 0, 34, 0, m_x),
  (33, .return_, 34, 0, 0, 0, m_x),
  (34, .aload_n 0, 35, 0, 0, 0, m_x),
  (35, .iconst 1, 36, 0, 0, 0, m_x),
  (36, .putfield 56, 39, 6, 8, 0, m_x),
  (39, .aload_n 0, 40, 0, 0, 0, m_x),
  (40, .iload_n 1, 41, 0, 0, 0, m_x),
  (41, .putfield 76, 44, 6, 6, 0, m_x),
  (44, .iconst 0, 45, 0, 0, 0, m_x),
  (45, .istore_n 2, 46, 0, 0, 0, m_x),
  (46, .iload_n 2, 47, 0, 0, 0, m_x),
  (47, .aload_n 0, 48, 0, 0, 0, m_x),
  (48, .getfield 35, 51, 6, 5, 0, m_x),
  (51, .if_icmp .ge 25, 54, 0, 76, 0, m_x),
  (54, .aload_n 0, 55, 0, 0, 0, m_x),
  (55, .getfield 18, 58, 6, 4, 0, m_x),
  (58, .iload_n 2, 59, 0, 0, 0, m_x),
  (59, .aload_n 0, 60, 0, 0, 0, m_x),
  (60, .getfield 15, 63, 6, 3, 0, m_x),
  (63, .iload_n 2, 64, 0, 0, 0, m_x),
  (64, .invokestatic 68, 67, 0, 0, 0, m_So_at),
  (67, .invokestatic 48, 70, 0, 0, 0, m_So_put),
  (70, .iinc 2 1, 73, 0, 0, 0, m_x),
  (73, .goto (-27), 76, 0, 46, 0, m_x),
  (76, .return_, 77, 0, 0, 0, m_x)]
theorem dc_Rooms_compare : ∀ E ∈ k_Rooms_compare, xDc m_Rooms_compare E := by decide +kernel
set_option maxRecDepth 20000 in
theorem ok_Rooms_compare : ∀ E ∈ k_Rooms_compare, xOk m_Rooms_compare E := xok_of dc_Rooms_compare (xfc trivial (xfc fl_Rooms_56 (xfc (show ((4 : Nat) : Int) + (30) = ((34 : Nat) : Int) from by decide) (xfc trivial (xfc fl_Rooms_52 (xfc (show ((11 : Nat) : Int) + (14) = ((25 : Nat) : Int) from by decide) (xfc trivial (xfc trivial (xfc fl_Rooms_76 (xfc (show ((19 : Nat) : Int) + (15) = ((34 : Nat) : Int) from by decide) (xfc (show ((22 : Nat) : Int) + (11) = ((33 : Nat) : Int) from by decide) (xfc trivial (xfc trivial (xfc fl_Rooms_76 (xfc (show ((30 : Nat) : Int) + (4) = ((34 : Nat) : Int) from by decide) (xfc trivial (xfc trivial (xfc trivial (xfc ⟨fl_Rooms_56, fun q h f => by cases h; exact absurd f (by decide)⟩ (xfc trivial (xfc trivial (xfc ⟨fl_Rooms_76, fun q h f => by cases h; exact absurd f (by decide)⟩ (xfc trivial (xfc trivial (xfc trivial (xfc trivial (xfc fl_Rooms_35 (xfc (show ((51 : Nat) : Int) + (25) = ((76 : Nat) : Int) from by decide) (xfc trivial (xfc fl_Rooms_18 (xfc trivial (xfc trivial (xfc fl_Rooms_15 (xfc trivial (xfc ⟨ml_Rooms_68, kd_So_at⟩ (xfc ⟨ml_Rooms_48, kd_So_put⟩ (xfc trivial (xfc (show ((73 : Nat) : Int) + (-27) = ((46 : Nat) : Int) from by decide) (xfc trivial (xfn))))))))))))))))))))))))))))))))))))))))
theorem s_Rooms_compare_0 (C : xCx) (r : List Value) (hp : xHp) (x : Nat) (a1 a2 : Value) : (xV k_Rooms_compare C 0 [.ref x, a1, a2] r hp) = (True ∧ xV k_Rooms_compare C 1 [.ref x, a1, a2] (.ref x :: r) hp) := xVe _ _ _ _ _ _
theorem s_Rooms_compare_1 (a : Nat) (C : xCx) (L r : List Value) (hp : xHp) : (xV k_Rooms_compare C 1 L (.ref a :: r) hp) = (xF hp a 6 8 (fun v => xV k_Rooms_compare C 4 L (v :: r) hp)) := xVe _ _ _ _ _ _
theorem s_Rooms_compare_4 (x : Int32) (C : xCx) (L r : List Value) (hp : xHp) : (xV k_Rooms_compare C 4 L (.int x :: r) hp) = (((x = 0 → xV k_Rooms_compare C 34 L r hp) ∧ (¬ x = 0 → xV k_Rooms_compare C 7 L r hp))) := xVe _ _ _ _ _ _
theorem s_Rooms_compare_7 (C : xCx) (r : List Value) (hp : xHp) (x : Nat) (a1 a2 : Value) : (xV k_Rooms_compare C 7 [.ref x, a1, a2] r hp) = (True ∧ xV k_Rooms_compare C 8 [.ref x, a1, a2] (.ref x :: r) hp) := xVe _ _ _ _ _ _
theorem s_Rooms_compare_8 (a : Nat) (C : xCx) (L r : List Value) (hp : xHp) : (xV k_Rooms_compare C 8 L (.ref a :: r) hp) = (xF hp a 6 7 (fun v => xV k_Rooms_compare C 11 L (v :: r) hp)) := xVe _ _ _ _ _ _
theorem s_Rooms_compare_11 (x : Int32) (C : xCx) (L r : List Value) (hp : xHp) : (xV k_Rooms_compare C 11 L (.int x :: r) hp) = (((x = 0 → xV k_Rooms_compare C 25 L r hp) ∧ (¬ x = 0 → xV k_Rooms_compare C 14 L r hp))) := xVe _ _ _ _ _ _
theorem s_Rooms_compare_14 (C : xCx) (r : List Value) (hp : xHp) (x : Int32) (a0 a2 : Value) : (xV k_Rooms_compare C 14 [a0, .int x, a2] r hp) = (xV k_Rooms_compare C 15 [a0, .int x, a2] (.int x :: r) hp) := xVe _ _ _ _ _ _
theorem s_Rooms_compare_15 (C : xCx) (r : List Value) (hp : xHp) (x : Nat) (a1 a2 : Value) : (xV k_Rooms_compare C 15 [.ref x, a1, a2] r hp) = (True ∧ xV k_Rooms_compare C 16 [.ref x, a1, a2] (.ref x :: r) hp) := xVe _ _ _ _ _ _
theorem s_Rooms_compare_16 (a : Nat) (C : xCx) (L r : List Value) (hp : xHp) : (xV k_Rooms_compare C 16 L (.ref a :: r) hp) = (xF hp a 6 6 (fun v => xV k_Rooms_compare C 19 L (v :: r) hp)) := xVe _ _ _ _ _ _
theorem s_Rooms_compare_19 (x y : Int32) (C : xCx) (L r : List Value) (hp : xHp) : (xV k_Rooms_compare C 19 L (.int y :: .int x :: r) hp) = (((y < x → xV k_Rooms_compare C 34 L r hp) ∧ (¬ y < x → xV k_Rooms_compare C 22 L r hp))) := xVe _ _ _ _ _ _
theorem s_Rooms_compare_22 (C : xCx) (L r : List Value) (hp : xHp) : (xV k_Rooms_compare C 22 L r hp) = (xV k_Rooms_compare C 33 L r hp) := xVe _ _ _ _ _ _
theorem s_Rooms_compare_25 (C : xCx) (r : List Value) (hp : xHp) (x : Int32) (a0 a2 : Value) : (xV k_Rooms_compare C 25 [a0, .int x, a2] r hp) = (xV k_Rooms_compare C 26 [a0, .int x, a2] (.int x :: r) hp) := xVe _ _ _ _ _ _
theorem s_Rooms_compare_26 (C : xCx) (r : List Value) (hp : xHp) (x : Nat) (a1 a2 : Value) : (xV k_Rooms_compare C 26 [.ref x, a1, a2] r hp) = (True ∧ xV k_Rooms_compare C 27 [.ref x, a1, a2] (.ref x :: r) hp) := xVe _ _ _ _ _ _
theorem s_Rooms_compare_27 (a : Nat) (C : xCx) (L r : List Value) (hp : xHp) : (xV k_Rooms_compare C 27 L (.ref a :: r) hp) = (xF hp a 6 6 (fun v => xV k_Rooms_compare C 30 L (v :: r) hp)) := xVe _ _ _ _ _ _
theorem s_Rooms_compare_30 (x y : Int32) (C : xCx) (L r : List Value) (hp : xHp) : (xV k_Rooms_compare C 30 L (.int y :: .int x :: r) hp) = (((x < y → xV k_Rooms_compare C 34 L r hp) ∧ (¬ x < y → xV k_Rooms_compare C 33 L r hp))) := xVe _ _ _ _ _ _
theorem s_Rooms_compare_33 (l : Launch) (d b lo gz n0 s0 : Nat) (Po : Option Value → xHp → Prop) (L : List Value) (hp : xHp) : (xV k_Rooms_compare (l, d, b, lo, gz, n0, s0, m_Rooms_compare, Po) 33 L [] hp) = (Po (none) hp) := xVe _ _ _ _ _ _
theorem s_Rooms_compare_34 (C : xCx) (r : List Value) (hp : xHp) (x : Nat) (a1 a2 : Value) : (xV k_Rooms_compare C 34 [.ref x, a1, a2] r hp) = (True ∧ xV k_Rooms_compare C 35 [.ref x, a1, a2] (.ref x :: r) hp) := xVe _ _ _ _ _ _
theorem s_Rooms_compare_35  (C : xCx) (L r : List Value) (hp : xHp) : (xV k_Rooms_compare C 35 L (r) hp) = (xV k_Rooms_compare C 36 L (.int (1) :: r) hp) := xVe _ _ _ _ _ _
theorem s_Rooms_compare_36 (x : Int32) (a : Nat) (C : xCx) (L r : List Value) (hp : xHp) : (xV k_Rooms_compare C 36 L (.int x :: .ref a :: r) hp) = ((x = 0 ∨ x = 1) ∧ xPf hp a 6 8 (.int x) (fun hp' => xV k_Rooms_compare C 39 L r hp')) := xVe _ _ _ _ _ _
theorem s_Rooms_compare_39 (C : xCx) (r : List Value) (hp : xHp) (x : Nat) (a1 a2 : Value) : (xV k_Rooms_compare C 39 [.ref x, a1, a2] r hp) = (True ∧ xV k_Rooms_compare C 40 [.ref x, a1, a2] (.ref x :: r) hp) := xVe _ _ _ _ _ _
theorem s_Rooms_compare_40 (C : xCx) (r : List Value) (hp : xHp) (x : Int32) (a0 a2 : Value) : (xV k_Rooms_compare C 40 [a0, .int x, a2] r hp) = (xV k_Rooms_compare C 41 [a0, .int x, a2] (.int x :: r) hp) := xVe _ _ _ _ _ _
theorem s_Rooms_compare_41 (x : Int32) (a : Nat) (C : xCx) (L r : List Value) (hp : xHp) : (xV k_Rooms_compare C 41 L (.int x :: .ref a :: r) hp) = (True ∧ xPf hp a 6 6 (.int x) (fun hp' => xV k_Rooms_compare C 44 L r hp')) := xVe _ _ _ _ _ _
theorem s_Rooms_compare_44  (C : xCx) (L r : List Value) (hp : xHp) : (xV k_Rooms_compare C 44 L (r) hp) = (xV k_Rooms_compare C 45 L (.int (0) :: r) hp) := xVe _ _ _ _ _ _
theorem s_Rooms_compare_45 (C : xCx) (r : List Value) (hp : xHp) (x : Int32) (a0 a1 a2 : Value) : (xV k_Rooms_compare C 45 [a0, a1, a2] (.int x :: r) hp) = (2 < 3 ∧ xNl [a0, a1, a2] 2 ∧ xV k_Rooms_compare C 46 [a0, a1, .int x] r hp) := xVe _ _ _ _ _ _
theorem s_Rooms_compare_46 (C : xCx) (r : List Value) (hp : xHp) (x : Int32) (a0 a1 : Value) : (xV k_Rooms_compare C 46 [a0, a1, .int x] r hp) = (xV k_Rooms_compare C 47 [a0, a1, .int x] (.int x :: r) hp) := xVe _ _ _ _ _ _
theorem s_Rooms_compare_47 (C : xCx) (r : List Value) (hp : xHp) (x : Nat) (a1 a2 : Value) : (xV k_Rooms_compare C 47 [.ref x, a1, a2] r hp) = (True ∧ xV k_Rooms_compare C 48 [.ref x, a1, a2] (.ref x :: r) hp) := xVe _ _ _ _ _ _
theorem s_Rooms_compare_48 (a : Nat) (C : xCx) (L r : List Value) (hp : xHp) : (xV k_Rooms_compare C 48 L (.ref a :: r) hp) = (xF hp a 6 5 (fun v => xV k_Rooms_compare C 51 L (v :: r) hp)) := xVe _ _ _ _ _ _
theorem s_Rooms_compare_51 (x y : Int32) (C : xCx) (L r : List Value) (hp : xHp) : (xV k_Rooms_compare C 51 L (.int y :: .int x :: r) hp) = (((y ≤ x → xV k_Rooms_compare C 76 L r hp) ∧ (¬ y ≤ x → xV k_Rooms_compare C 54 L r hp))) := xVe _ _ _ _ _ _
theorem s_Rooms_compare_54 (C : xCx) (r : List Value) (hp : xHp) (x : Nat) (a1 a2 : Value) : (xV k_Rooms_compare C 54 [.ref x, a1, a2] r hp) = (True ∧ xV k_Rooms_compare C 55 [.ref x, a1, a2] (.ref x :: r) hp) := xVe _ _ _ _ _ _
theorem s_Rooms_compare_55 (a : Nat) (C : xCx) (L r : List Value) (hp : xHp) : (xV k_Rooms_compare C 55 L (.ref a :: r) hp) = (xF hp a 6 4 (fun v => xV k_Rooms_compare C 58 L (v :: r) hp)) := xVe _ _ _ _ _ _
theorem s_Rooms_compare_58 (C : xCx) (r : List Value) (hp : xHp) (x : Int32) (a0 a1 : Value) : (xV k_Rooms_compare C 58 [a0, a1, .int x] r hp) = (xV k_Rooms_compare C 59 [a0, a1, .int x] (.int x :: r) hp) := xVe _ _ _ _ _ _
theorem s_Rooms_compare_59 (C : xCx) (r : List Value) (hp : xHp) (x : Nat) (a1 a2 : Value) : (xV k_Rooms_compare C 59 [.ref x, a1, a2] r hp) = (True ∧ xV k_Rooms_compare C 60 [.ref x, a1, a2] (.ref x :: r) hp) := xVe _ _ _ _ _ _
theorem s_Rooms_compare_60 (a : Nat) (C : xCx) (L r : List Value) (hp : xHp) : (xV k_Rooms_compare C 60 L (.ref a :: r) hp) = (xF hp a 6 3 (fun v => xV k_Rooms_compare C 63 L (v :: r) hp)) := xVe _ _ _ _ _ _
theorem s_Rooms_compare_63 (C : xCx) (r : List Value) (hp : xHp) (x : Int32) (a0 a1 : Value) : (xV k_Rooms_compare C 63 [a0, a1, .int x] r hp) = (xV k_Rooms_compare C 64 [a0, a1, .int x] (.int x :: r) hp) := xVe _ _ _ _ _ _
theorem s_Rooms_compare_64 (x0 : Nat) (x1 : Int32) (l : Launch) (d b lo gz n0 s0 : Nat) (Po : Option Value → xHp → Prop) (L r : List Value) (hp : xHp) : (xV k_Rooms_compare (l, d + 1, b, lo, gz, n0, s0, m_Rooms_compare, Po) 64 L (.int x1 :: .ref x0 :: r) hp) = (2 ≤ List.length (.int x1 :: .ref x0 :: r) ∧ xcs r 8 ∧ xMi l d b lo gz m_So_at [.ref x0, .int x1] hp (fun x hp' => xV k_Rooms_compare (l, d + 1, b, lo, gz, n0, s0, m_Rooms_compare, Po) 67 L (.int x :: r) hp')) := xVe _ _ _ _ _ _
theorem s_Rooms_compare_67 (x0 : Nat) (x1 : Int32) (x2 : Int32) (l : Launch) (d b lo gz n0 s0 : Nat) (Po : Option Value → xHp → Prop) (L r : List Value) (hp : xHp) : (xV k_Rooms_compare (l, d + 1, b, lo, gz, n0, s0, m_Rooms_compare, Po) 67 L (.int x2 :: .int x1 :: .ref x0 :: r) hp) = (3 ≤ List.length (.int x2 :: .int x1 :: .ref x0 :: r) ∧ xcs r 8 ∧ xMv l d b lo gz m_So_put [.ref x0, .int x1, .int x2] hp (fun hp' => xV k_Rooms_compare (l, d + 1, b, lo, gz, n0, s0, m_Rooms_compare, Po) 70 L r hp')) := xVe _ _ _ _ _ _
theorem s_Rooms_compare_70 (C : xCx) (r : List Value) (hp : xHp) (x : Int32) (a0 a1 : Value) : (xV k_Rooms_compare C 70 [a0, a1, .int x] r hp) = (xNl [a0, a1, .int x] 2 ∧ xV k_Rooms_compare C 73 [a0, a1, .int (x + (1))] r hp) := xVe _ _ _ _ _ _
theorem s_Rooms_compare_73 (C : xCx) (L r : List Value) (hp : xHp) : (xV k_Rooms_compare C 73 L r hp) = (xV k_Rooms_compare C 46 L r hp) := xVe _ _ _ _ _ _
theorem s_Rooms_compare_76 (l : Launch) (d b lo gz n0 s0 : Nat) (Po : Option Value → xHp → Prop) (L : List Value) (hp : xHp) : (xV k_Rooms_compare (l, d, b, lo, gz, n0, s0, m_Rooms_compare, Po) 76 L [] hp) = (Po (none) hp) := xVe _ _ _ _ _ _
def k_Sun_hoursUnder : List xEC := [
  (0, .aload_n 1, 1, 0, 0, 0, m_x),
  (1, .iload_n 2, 2, 0, 0, 0, m_x),
  (2, .invokevirtual 52, 5, 3, 0, 0, m_Folk_spot),
  (5, .istore 4, 7, 0, 0, 0, m_x),
  (7, .aload_n 0, 8, 0, 0, 0, m_x),
  (8, .aload_n 0, 9, 0, 0, 0, m_x),
  (9, .getfield 21, 12, 9, 1, 0, m_x),
  (12, .aload_n 1, 13, 0, 0, 0, m_x),
  (13, .iload_n 2, 14, 0, 0, 0, m_x),
  (14, .iload 4, 16, 0, 0, 0, m_x),
  (16, .aload_n 1, 17, 0, 0, 0, m_x),
  (17, .iload 4, 19, 0, 0, 0, m_x),
  (19, .iload_n 2, 20, 0, 0, 0, m_x),
  (20, .invokevirtual 55, 23, 3, 0, 0, m_Folk_othersAt),
  (23, .iload_n 3, 24, 0, 0, 0, m_x),
  (24, .invokevirtual 62, 27, 9, 0, 0, m_Sun_hoursBy),
  (27, .ireturn, 28, 0, 0, 0, m_x)]
theorem dc_Sun_hoursUnder : ∀ E ∈ k_Sun_hoursUnder, xDc m_Sun_hoursUnder E := by decide +kernel
set_option maxRecDepth 20000 in
theorem ok_Sun_hoursUnder : ∀ E ∈ k_Sun_hoursUnder, xOk m_Sun_hoursUnder E := xok_of dc_Sun_hoursUnder (xfc trivial (xfc trivial (xfc ⟨ml_Sun_52, kd_Folk_spot⟩ (xfc trivial (xfc trivial (xfc trivial (xfc fl_Sun_21 (xfc trivial (xfc trivial (xfc trivial (xfc trivial (xfc trivial (xfc trivial (xfc ⟨ml_Sun_55, kd_Folk_othersAt⟩ (xfc trivial (xfc ⟨ml_Sun_62, kd_Sun_hoursBy⟩ (xfc trivial (xfn))))))))))))))))))
theorem s_Sun_hoursUnder_0 (C : xCx) (r : List Value) (hp : xHp) (x : Nat) (a0 a2 a3 a4 : Value) : (xV k_Sun_hoursUnder C 0 [a0, .ref x, a2, a3, a4] r hp) = (True ∧ xV k_Sun_hoursUnder C 1 [a0, .ref x, a2, a3, a4] (.ref x :: r) hp) := xVe _ _ _ _ _ _
theorem s_Sun_hoursUnder_1 (C : xCx) (r : List Value) (hp : xHp) (x : Int32) (a0 a1 a3 a4 : Value) : (xV k_Sun_hoursUnder C 1 [a0, a1, .int x, a3, a4] r hp) = (xV k_Sun_hoursUnder C 2 [a0, a1, .int x, a3, a4] (.int x :: r) hp) := xVe _ _ _ _ _ _
theorem s_Sun_hoursUnder_2 (x0 : Int32) (a : Nat) (l : Launch) (d b lo gz n0 s0 : Nat) (Po : Option Value → xHp → Prop) (L r : List Value) (hp : xHp) : (xV k_Sun_hoursUnder (l, d + 1, b, lo, gz, n0, s0, m_Sun_hoursUnder, Po) 2 L (.int x0 :: .ref a :: r) hp) = (xO hp a 3 ∧ xcs r 8 ∧ xMi l d b lo gz m_Folk_spot [.ref a, .int x0] hp (fun x hp' => xV k_Sun_hoursUnder (l, d + 1, b, lo, gz, n0, s0, m_Sun_hoursUnder, Po) 5 L (.int x :: r) hp')) := xVe _ _ _ _ _ _
theorem s_Sun_hoursUnder_5 (C : xCx) (r : List Value) (hp : xHp) (x : Int32) (a0 a1 a2 a3 a4 : Value) : (xV k_Sun_hoursUnder C 5 [a0, a1, a2, a3, a4] (.int x :: r) hp) = (4 < 5 ∧ xNl [a0, a1, a2, a3, a4] 4 ∧ xV k_Sun_hoursUnder C 7 [a0, a1, a2, a3, .int x] r hp) := xVe _ _ _ _ _ _
theorem s_Sun_hoursUnder_7 (C : xCx) (r : List Value) (hp : xHp) (x : Nat) (a1 a2 a3 a4 : Value) : (xV k_Sun_hoursUnder C 7 [.ref x, a1, a2, a3, a4] r hp) = (True ∧ xV k_Sun_hoursUnder C 8 [.ref x, a1, a2, a3, a4] (.ref x :: r) hp) := xVe _ _ _ _ _ _
theorem s_Sun_hoursUnder_8 (C : xCx) (r : List Value) (hp : xHp) (x : Nat) (a1 a2 a3 a4 : Value) : (xV k_Sun_hoursUnder C 8 [.ref x, a1, a2, a3, a4] r hp) = (True ∧ xV k_Sun_hoursUnder C 9 [.ref x, a1, a2, a3, a4] (.ref x :: r) hp) := xVe _ _ _ _ _ _
theorem s_Sun_hoursUnder_9 (a : Nat) (C : xCx) (L r : List Value) (hp : xHp) : (xV k_Sun_hoursUnder C 9 L (.ref a :: r) hp) = (xF hp a 9 1 (fun v => xV k_Sun_hoursUnder C 12 L (v :: r) hp)) := xVe _ _ _ _ _ _
theorem s_Sun_hoursUnder_12 (C : xCx) (r : List Value) (hp : xHp) (x : Nat) (a0 a2 a3 a4 : Value) : (xV k_Sun_hoursUnder C 12 [a0, .ref x, a2, a3, a4] r hp) = (True ∧ xV k_Sun_hoursUnder C 13 [a0, .ref x, a2, a3, a4] (.ref x :: r) hp) := xVe _ _ _ _ _ _
theorem s_Sun_hoursUnder_13 (C : xCx) (r : List Value) (hp : xHp) (x : Int32) (a0 a1 a3 a4 : Value) : (xV k_Sun_hoursUnder C 13 [a0, a1, .int x, a3, a4] r hp) = (xV k_Sun_hoursUnder C 14 [a0, a1, .int x, a3, a4] (.int x :: r) hp) := xVe _ _ _ _ _ _
theorem s_Sun_hoursUnder_14 (C : xCx) (r : List Value) (hp : xHp) (x : Int32) (a0 a1 a2 a3 : Value) : (xV k_Sun_hoursUnder C 14 [a0, a1, a2, a3, .int x] r hp) = (xV k_Sun_hoursUnder C 16 [a0, a1, a2, a3, .int x] (.int x :: r) hp) := xVe _ _ _ _ _ _
theorem s_Sun_hoursUnder_16 (C : xCx) (r : List Value) (hp : xHp) (x : Nat) (a0 a2 a3 a4 : Value) : (xV k_Sun_hoursUnder C 16 [a0, .ref x, a2, a3, a4] r hp) = (True ∧ xV k_Sun_hoursUnder C 17 [a0, .ref x, a2, a3, a4] (.ref x :: r) hp) := xVe _ _ _ _ _ _
theorem s_Sun_hoursUnder_17 (C : xCx) (r : List Value) (hp : xHp) (x : Int32) (a0 a1 a2 a3 : Value) : (xV k_Sun_hoursUnder C 17 [a0, a1, a2, a3, .int x] r hp) = (xV k_Sun_hoursUnder C 19 [a0, a1, a2, a3, .int x] (.int x :: r) hp) := xVe _ _ _ _ _ _
theorem s_Sun_hoursUnder_19 (C : xCx) (r : List Value) (hp : xHp) (x : Int32) (a0 a1 a3 a4 : Value) : (xV k_Sun_hoursUnder C 19 [a0, a1, .int x, a3, a4] r hp) = (xV k_Sun_hoursUnder C 20 [a0, a1, .int x, a3, a4] (.int x :: r) hp) := xVe _ _ _ _ _ _
theorem s_Sun_hoursUnder_20 (x0 : Int32) (x1 : Int32) (a : Nat) (l : Launch) (d b lo gz n0 s0 : Nat) (Po : Option Value → xHp → Prop) (L r : List Value) (hp : xHp) : (xV k_Sun_hoursUnder (l, d + 1, b, lo, gz, n0, s0, m_Sun_hoursUnder, Po) 20 L (.int x1 :: .int x0 :: .ref a :: r) hp) = (xO hp a 3 ∧ xcs r 8 ∧ xMi l d b lo gz m_Folk_othersAt [.ref a, .int x0, .int x1] hp (fun x hp' => xV k_Sun_hoursUnder (l, d + 1, b, lo, gz, n0, s0, m_Sun_hoursUnder, Po) 23 L (.int x :: r) hp')) := xVe _ _ _ _ _ _
theorem s_Sun_hoursUnder_23 (C : xCx) (r : List Value) (hp : xHp) (x : Int32) (a0 a1 a2 a4 : Value) : (xV k_Sun_hoursUnder C 23 [a0, a1, a2, .int x, a4] r hp) = (xV k_Sun_hoursUnder C 24 [a0, a1, a2, .int x, a4] (.int x :: r) hp) := xVe _ _ _ _ _ _
theorem s_Sun_hoursUnder_24 (x0 : Nat) (x1 : Nat) (x2 : Int32) (x3 : Int32) (x4 : Int32) (x5 : Int32) (a : Nat) (l : Launch) (d b lo gz n0 s0 : Nat) (Po : Option Value → xHp → Prop) (L r : List Value) (hp : xHp) : (xV k_Sun_hoursUnder (l, d + 1, b, lo, gz, n0, s0, m_Sun_hoursUnder, Po) 24 L (.int x5 :: .int x4 :: .int x3 :: .int x2 :: .ref x1 :: .ref x0 :: .ref a :: r) hp) = (xO hp a 9 ∧ xcs r 8 ∧ xMi l d b lo gz m_Sun_hoursBy [.ref a, .ref x0, .ref x1, .int x2, .int x3, .int x4, .int x5] hp (fun x hp' => xV k_Sun_hoursUnder (l, d + 1, b, lo, gz, n0, s0, m_Sun_hoursUnder, Po) 27 L (.int x :: r) hp')) := xVe _ _ _ _ _ _
theorem s_Sun_hoursUnder_27 (v : Int32) (l : Launch) (d b lo gz n0 s0 : Nat) (Po : Option Value → xHp → Prop) (L : List Value) (hp : xHp) : (xV k_Sun_hoursUnder (l, d, b, lo, gz, n0, s0, m_Sun_hoursUnder, Po) 27 L [.int v] hp) = (Po (some (.int v)) hp) := xVe _ _ _ _ _ _
theorem fl_Chance_17 : xFl "SunnyOnes$Chance" 17 1 2 := ⟨("SunnyOnes$Chance", F_Chance, 5), rfl, by decide, wg2 30 (by decide +kernel) rfl⟩
theorem fl_Chance_21 : xFl "SunnyOnes$Chance" 21 1 3 := ⟨("SunnyOnes$Chance", F_Chance, 5), rfl, by decide, wg2 31 (by decide +kernel) rfl⟩
theorem fl_Chance_24 : xFl "SunnyOnes$Chance" 24 1 4 := ⟨("SunnyOnes$Chance", F_Chance, 5), rfl, by decide, wg2 32 (by decide +kernel) rfl⟩
theorem ml_Chance_27 : xLk "SunnyOnes$Chance" 27 m_Chance_cases := Or.inl (wg5 16 (by decide +kernel) rfl)
theorem ml_Chance_31 : xLk "SunnyOnes$Chance" 31 m_Chance_tens := Or.inl (wg5 20 (by decide +kernel) rfl)
theorem ml_Chance_35 : xLk "SunnyOnes$Chance" 35 m_Chance_commonDivisor := Or.inl (wg5 34 (by decide +kernel) rfl)
theorem ml_Chance_39 : xLk "SunnyOnes$Chance" 39 m_Row_tell2 := Or.inl (wg5 37 (by decide +kernel) rfl)
def k_Chance_tell : List xEC := [
  (0, .aload_n 0, 1, 0, 0, 0, m_x),
  (1, .iload_n 1, 2, 0, 0, 0, m_x),
  (2, .putfield 17, 5, 1, 2, 0, m_x),
  (5, .aload_n 0, 6, 0, 0, 0, m_x),
  (6, .iload_n 3, 7, 0, 0, 0, m_x),
  (7, .putfield 21, 10, 1, 3, 0, m_x),
  (10, .aload_n 0, 11, 0, 0, 0, m_x),
  (11, .iload 4, 13, 0, 0, 0, m_x),
  (13, .putfield 24, 16, 1, 4, 0, m_x),
  (16, .aload_n 0, 17, 0, 0, 0, m_x),
  (17, .iload_n 2, 18, 0, 0, 0, m_x),
  (18, .iconst 0, 19, 0, 0, 0, m_x),
  (19, .invokevirtual 27, 22, 1, 0, 0, m_Chance_cases),
  (22, .lstore 6, 24, 0, 0, 0, m_x),
  (24, .iload_n 2, 25, 0, 0, 0, m_x),
  (25, .invokestatic 31, 28, 0, 0, 0, m_Chance_tens),
  (28, .lstore 8, 30, 0, 0, 0, m_x),
  (30, .lload 6, 32, 0, 0, 0, m_x),
  (32, .lload 8, 34, 0, 0, 0, m_x),
  (34, .invokestatic 35, 37, 0, 0, 0, m_Chance_commonDivisor),
  (37, .lstore 10, 39, 0, 0, 0, m_x),
  (39, .lload 10, 41, 0, 0, 0, m_x),
  (41, .lconst 0, 42, 0, 0, 0, m_x),
  (42, .lcmp, 43, 0, 0, 0, m_x),
  (43, .ifCond .le 18, 46, 0, 61, 0, m_x),
  (46, .aload 5, 48, 0, 0, 0, m_x),
  (48, .lload 6, 50, 0, 0, 0, m_x),
  (50, .lload 10, 52, 0, 0, 0, m_x),
  (52, .ldiv, 53, 0, 0, 0, m_x),
  (53, .lload 8, 55, 0, 0, 0, m_x),
  (55, .lload 10, 57, 0, 0, 0, m_x),
  (57, .ldiv, 58, 0, 0, 0, m_x),
  (58, .invokevirtual 39, 61, 7, 0, 0, m_Row_tell2),
  (61, .return_, 62, 0, 0, 0, m_x)]
theorem dc_Chance_tell : ∀ E ∈ k_Chance_tell, xDc m_Chance_tell E := by decide +kernel
set_option maxRecDepth 20000 in
theorem ok_Chance_tell : ∀ E ∈ k_Chance_tell, xOk m_Chance_tell E := xok_of dc_Chance_tell (xfc trivial (xfc trivial (xfc ⟨fl_Chance_17, fun q h f => by cases h; exact absurd f (by decide)⟩ (xfc trivial (xfc trivial (xfc ⟨fl_Chance_21, fun q h f => by cases h; exact absurd f (by decide)⟩ (xfc trivial (xfc trivial (xfc ⟨fl_Chance_24, fun q h f => by cases h; exact absurd f (by decide)⟩ (xfc trivial (xfc trivial (xfc trivial (xfc ⟨ml_Chance_27, kd_Chance_cases⟩ (xfc trivial (xfc trivial (xfc ⟨ml_Chance_31, kd_Chance_tens⟩ (xfc trivial (xfc trivial (xfc trivial (xfc ⟨ml_Chance_35, kd_Chance_commonDivisor⟩ (xfc trivial (xfc trivial (xfc trivial (xfc trivial (xfc (show ((43 : Nat) : Int) + (18) = ((61 : Nat) : Int) from by decide) (xfc trivial (xfc trivial (xfc trivial (xfc trivial (xfc trivial (xfc trivial (xfc trivial (xfc ⟨ml_Chance_39, kd_Row_tell2⟩ (xfc trivial (xfn)))))))))))))))))))))))))))))))))))
theorem s_Chance_tell_0 (C : xCx) (r : List Value) (hp : xHp) (x : Nat) (a1 a2 a3 a4 a5 a6 a7 a8 a9 a10 a11 : Value) : (xV k_Chance_tell C 0 [.ref x, a1, a2, a3, a4, a5, a6, a7, a8, a9, a10, a11] r hp) = (True ∧ xV k_Chance_tell C 1 [.ref x, a1, a2, a3, a4, a5, a6, a7, a8, a9, a10, a11] (.ref x :: r) hp) := xVe _ _ _ _ _ _
theorem s_Chance_tell_1 (C : xCx) (r : List Value) (hp : xHp) (x : Int32) (a0 a2 a3 a4 a5 a6 a7 a8 a9 a10 a11 : Value) : (xV k_Chance_tell C 1 [a0, .int x, a2, a3, a4, a5, a6, a7, a8, a9, a10, a11] r hp) = (xV k_Chance_tell C 2 [a0, .int x, a2, a3, a4, a5, a6, a7, a8, a9, a10, a11] (.int x :: r) hp) := xVe _ _ _ _ _ _
theorem s_Chance_tell_2 (x : Int32) (a : Nat) (C : xCx) (L r : List Value) (hp : xHp) : (xV k_Chance_tell C 2 L (.int x :: .ref a :: r) hp) = (True ∧ xPf hp a 1 2 (.int x) (fun hp' => xV k_Chance_tell C 5 L r hp')) := xVe _ _ _ _ _ _
theorem s_Chance_tell_5 (C : xCx) (r : List Value) (hp : xHp) (x : Nat) (a1 a2 a3 a4 a5 a6 a7 a8 a9 a10 a11 : Value) : (xV k_Chance_tell C 5 [.ref x, a1, a2, a3, a4, a5, a6, a7, a8, a9, a10, a11] r hp) = (True ∧ xV k_Chance_tell C 6 [.ref x, a1, a2, a3, a4, a5, a6, a7, a8, a9, a10, a11] (.ref x :: r) hp) := xVe _ _ _ _ _ _
theorem s_Chance_tell_6 (C : xCx) (r : List Value) (hp : xHp) (x : Int32) (a0 a1 a2 a4 a5 a6 a7 a8 a9 a10 a11 : Value) : (xV k_Chance_tell C 6 [a0, a1, a2, .int x, a4, a5, a6, a7, a8, a9, a10, a11] r hp) = (xV k_Chance_tell C 7 [a0, a1, a2, .int x, a4, a5, a6, a7, a8, a9, a10, a11] (.int x :: r) hp) := xVe _ _ _ _ _ _
theorem s_Chance_tell_7 (x : Int32) (a : Nat) (C : xCx) (L r : List Value) (hp : xHp) : (xV k_Chance_tell C 7 L (.int x :: .ref a :: r) hp) = (True ∧ xPf hp a 1 3 (.int x) (fun hp' => xV k_Chance_tell C 10 L r hp')) := xVe _ _ _ _ _ _
theorem s_Chance_tell_10 (C : xCx) (r : List Value) (hp : xHp) (x : Nat) (a1 a2 a3 a4 a5 a6 a7 a8 a9 a10 a11 : Value) : (xV k_Chance_tell C 10 [.ref x, a1, a2, a3, a4, a5, a6, a7, a8, a9, a10, a11] r hp) = (True ∧ xV k_Chance_tell C 11 [.ref x, a1, a2, a3, a4, a5, a6, a7, a8, a9, a10, a11] (.ref x :: r) hp) := xVe _ _ _ _ _ _
theorem s_Chance_tell_11 (C : xCx) (r : List Value) (hp : xHp) (x : Int32) (a0 a1 a2 a3 a5 a6 a7 a8 a9 a10 a11 : Value) : (xV k_Chance_tell C 11 [a0, a1, a2, a3, .int x, a5, a6, a7, a8, a9, a10, a11] r hp) = (xV k_Chance_tell C 13 [a0, a1, a2, a3, .int x, a5, a6, a7, a8, a9, a10, a11] (.int x :: r) hp) := xVe _ _ _ _ _ _
theorem s_Chance_tell_13 (x : Int32) (a : Nat) (C : xCx) (L r : List Value) (hp : xHp) : (xV k_Chance_tell C 13 L (.int x :: .ref a :: r) hp) = (True ∧ xPf hp a 1 4 (.int x) (fun hp' => xV k_Chance_tell C 16 L r hp')) := xVe _ _ _ _ _ _
theorem s_Chance_tell_16 (C : xCx) (r : List Value) (hp : xHp) (x : Nat) (a1 a2 a3 a4 a5 a6 a7 a8 a9 a10 a11 : Value) : (xV k_Chance_tell C 16 [.ref x, a1, a2, a3, a4, a5, a6, a7, a8, a9, a10, a11] r hp) = (True ∧ xV k_Chance_tell C 17 [.ref x, a1, a2, a3, a4, a5, a6, a7, a8, a9, a10, a11] (.ref x :: r) hp) := xVe _ _ _ _ _ _
theorem s_Chance_tell_17 (C : xCx) (r : List Value) (hp : xHp) (x : Int32) (a0 a1 a3 a4 a5 a6 a7 a8 a9 a10 a11 : Value) : (xV k_Chance_tell C 17 [a0, a1, .int x, a3, a4, a5, a6, a7, a8, a9, a10, a11] r hp) = (xV k_Chance_tell C 18 [a0, a1, .int x, a3, a4, a5, a6, a7, a8, a9, a10, a11] (.int x :: r) hp) := xVe _ _ _ _ _ _
theorem s_Chance_tell_18  (C : xCx) (L r : List Value) (hp : xHp) : (xV k_Chance_tell C 18 L (r) hp) = (xV k_Chance_tell C 19 L (.int (0) :: r) hp) := xVe _ _ _ _ _ _
theorem s_Chance_tell_19 (x0 : Int32) (x1 : Int32) (a : Nat) (l : Launch) (d b lo gz n0 s0 : Nat) (Po : Option Value → xHp → Prop) (L r : List Value) (hp : xHp) : (xV k_Chance_tell (l, d + 1, b, lo, gz, n0, s0, m_Chance_tell, Po) 19 L (.int x1 :: .int x0 :: .ref a :: r) hp) = (xO hp a 1 ∧ xcs r 8 ∧ xMl l d b lo gz m_Chance_cases [.ref a, .int x0, .int x1] hp (fun x hp' => xV k_Chance_tell (l, d + 1, b, lo, gz, n0, s0, m_Chance_tell, Po) 22 L (.long x :: r) hp')) := xVe _ _ _ _ _ _
theorem s_Chance_tell_22 (C : xCx) (r : List Value) (hp : xHp) (x : Int64) (a0 a1 a2 a3 a4 a5 a6 a7 a8 a9 a10 a11 : Value) : (xV k_Chance_tell C 22 [a0, a1, a2, a3, a4, a5, a6, a7, a8, a9, a10, a11] (.long x :: r) hp) = (6 + 1 < 12 ∧ xNl [a0, a1, a2, a3, a4, a5, a6, a7, a8, a9, a10, a11] 6 ∧ xV k_Chance_tell C 24 [a0, a1, a2, a3, a4, a5, .long x, .retAddr 0, a8, a9, a10, a11] r hp) := xVe _ _ _ _ _ _
theorem s_Chance_tell_24 (C : xCx) (r : List Value) (hp : xHp) (x : Int32) (a0 a1 a3 a4 a5 a6 a7 a8 a9 a10 a11 : Value) : (xV k_Chance_tell C 24 [a0, a1, .int x, a3, a4, a5, a6, a7, a8, a9, a10, a11] r hp) = (xV k_Chance_tell C 25 [a0, a1, .int x, a3, a4, a5, a6, a7, a8, a9, a10, a11] (.int x :: r) hp) := xVe _ _ _ _ _ _
theorem s_Chance_tell_25 (x0 : Int32) (l : Launch) (d b lo gz n0 s0 : Nat) (Po : Option Value → xHp → Prop) (L r : List Value) (hp : xHp) : (xV k_Chance_tell (l, d + 1, b, lo, gz, n0, s0, m_Chance_tell, Po) 25 L (.int x0 :: r) hp) = (1 ≤ List.length (.int x0 :: r) ∧ xcs r 8 ∧ xMl l d b lo gz m_Chance_tens [.int x0] hp (fun x hp' => xV k_Chance_tell (l, d + 1, b, lo, gz, n0, s0, m_Chance_tell, Po) 28 L (.long x :: r) hp')) := xVe _ _ _ _ _ _
theorem s_Chance_tell_28 (C : xCx) (r : List Value) (hp : xHp) (x : Int64) (a0 a1 a2 a3 a4 a5 a6 a7 a8 a9 a10 a11 : Value) : (xV k_Chance_tell C 28 [a0, a1, a2, a3, a4, a5, a6, a7, a8, a9, a10, a11] (.long x :: r) hp) = (8 + 1 < 12 ∧ xNl [a0, a1, a2, a3, a4, a5, a6, a7, a8, a9, a10, a11] 8 ∧ xV k_Chance_tell C 30 [a0, a1, a2, a3, a4, a5, a6, a7, .long x, .retAddr 0, a10, a11] r hp) := xVe _ _ _ _ _ _
theorem s_Chance_tell_30 (C : xCx) (r : List Value) (hp : xHp) (x : Int64) (a0 a1 a2 a3 a4 a5 a7 a8 a9 a10 a11 : Value) : (xV k_Chance_tell C 30 [a0, a1, a2, a3, a4, a5, .long x, a7, a8, a9, a10, a11] r hp) = (xV k_Chance_tell C 32 [a0, a1, a2, a3, a4, a5, .long x, a7, a8, a9, a10, a11] (.long x :: r) hp) := xVe _ _ _ _ _ _
theorem s_Chance_tell_32 (C : xCx) (r : List Value) (hp : xHp) (x : Int64) (a0 a1 a2 a3 a4 a5 a6 a7 a9 a10 a11 : Value) : (xV k_Chance_tell C 32 [a0, a1, a2, a3, a4, a5, a6, a7, .long x, a9, a10, a11] r hp) = (xV k_Chance_tell C 34 [a0, a1, a2, a3, a4, a5, a6, a7, .long x, a9, a10, a11] (.long x :: r) hp) := xVe _ _ _ _ _ _
theorem s_Chance_tell_34 (x0 : Int64) (x1 : Int64) (l : Launch) (d b lo gz n0 s0 : Nat) (Po : Option Value → xHp → Prop) (L r : List Value) (hp : xHp) : (xV k_Chance_tell (l, d + 1, b, lo, gz, n0, s0, m_Chance_tell, Po) 34 L (.long x1 :: .long x0 :: r) hp) = (2 ≤ List.length (.long x1 :: .long x0 :: r) ∧ xcs r 8 ∧ xMl l d b lo gz m_Chance_commonDivisor [.long x0, .long x1] hp (fun x hp' => xV k_Chance_tell (l, d + 1, b, lo, gz, n0, s0, m_Chance_tell, Po) 37 L (.long x :: r) hp')) := xVe _ _ _ _ _ _
theorem s_Chance_tell_37 (C : xCx) (r : List Value) (hp : xHp) (x : Int64) (a0 a1 a2 a3 a4 a5 a6 a7 a8 a9 a10 a11 : Value) : (xV k_Chance_tell C 37 [a0, a1, a2, a3, a4, a5, a6, a7, a8, a9, a10, a11] (.long x :: r) hp) = (10 + 1 < 12 ∧ xNl [a0, a1, a2, a3, a4, a5, a6, a7, a8, a9, a10, a11] 10 ∧ xV k_Chance_tell C 39 [a0, a1, a2, a3, a4, a5, a6, a7, a8, a9, .long x, .retAddr 0] r hp) := xVe _ _ _ _ _ _
theorem s_Chance_tell_39 (C : xCx) (r : List Value) (hp : xHp) (x : Int64) (a0 a1 a2 a3 a4 a5 a6 a7 a8 a9 a11 : Value) : (xV k_Chance_tell C 39 [a0, a1, a2, a3, a4, a5, a6, a7, a8, a9, .long x, a11] r hp) = (xV k_Chance_tell C 41 [a0, a1, a2, a3, a4, a5, a6, a7, a8, a9, .long x, a11] (.long x :: r) hp) := xVe _ _ _ _ _ _
theorem s_Chance_tell_41  (C : xCx) (L r : List Value) (hp : xHp) : (xV k_Chance_tell C 41 L (r) hp) = (xV k_Chance_tell C 42 L (.long 0 :: r) hp) := xVe _ _ _ _ _ _
theorem s_Chance_tell_42 (x y : Int64) (C : xCx) (L r : List Value) (hp : xHp) : (xV k_Chance_tell C 42 L (.long y :: .long x :: r) hp) = (xV k_Chance_tell C 43 L (.int (lg_cmp x y) :: r) hp) := xVe _ _ _ _ _ _
theorem s_Chance_tell_43 (x : Int32) (C : xCx) (L r : List Value) (hp : xHp) : (xV k_Chance_tell C 43 L (.int x :: r) hp) = (((x ≤ 0 → xV k_Chance_tell C 61 L r hp) ∧ (¬ x ≤ 0 → xV k_Chance_tell C 46 L r hp))) := xVe _ _ _ _ _ _
theorem s_Chance_tell_46 (C : xCx) (r : List Value) (hp : xHp) (x : Nat) (a0 a1 a2 a3 a4 a6 a7 a8 a9 a10 a11 : Value) : (xV k_Chance_tell C 46 [a0, a1, a2, a3, a4, .ref x, a6, a7, a8, a9, a10, a11] r hp) = (True ∧ xV k_Chance_tell C 48 [a0, a1, a2, a3, a4, .ref x, a6, a7, a8, a9, a10, a11] (.ref x :: r) hp) := xVe _ _ _ _ _ _
theorem s_Chance_tell_48 (C : xCx) (r : List Value) (hp : xHp) (x : Int64) (a0 a1 a2 a3 a4 a5 a7 a8 a9 a10 a11 : Value) : (xV k_Chance_tell C 48 [a0, a1, a2, a3, a4, a5, .long x, a7, a8, a9, a10, a11] r hp) = (xV k_Chance_tell C 50 [a0, a1, a2, a3, a4, a5, .long x, a7, a8, a9, a10, a11] (.long x :: r) hp) := xVe _ _ _ _ _ _
theorem s_Chance_tell_50 (C : xCx) (r : List Value) (hp : xHp) (x : Int64) (a0 a1 a2 a3 a4 a5 a6 a7 a8 a9 a11 : Value) : (xV k_Chance_tell C 50 [a0, a1, a2, a3, a4, a5, a6, a7, a8, a9, .long x, a11] r hp) = (xV k_Chance_tell C 52 [a0, a1, a2, a3, a4, a5, a6, a7, a8, a9, .long x, a11] (.long x :: r) hp) := xVe _ _ _ _ _ _
theorem s_Chance_tell_52 (x y : Int64) (C : xCx) (L r : List Value) (hp : xHp) : (xV k_Chance_tell C 52 L (.long y :: .long x :: r) hp) = (¬ y = 0 ∧ xV k_Chance_tell C 53 L (.long (x / y) :: r) hp) := xVe _ _ _ _ _ _
theorem s_Chance_tell_53 (C : xCx) (r : List Value) (hp : xHp) (x : Int64) (a0 a1 a2 a3 a4 a5 a6 a7 a9 a10 a11 : Value) : (xV k_Chance_tell C 53 [a0, a1, a2, a3, a4, a5, a6, a7, .long x, a9, a10, a11] r hp) = (xV k_Chance_tell C 55 [a0, a1, a2, a3, a4, a5, a6, a7, .long x, a9, a10, a11] (.long x :: r) hp) := xVe _ _ _ _ _ _
theorem s_Chance_tell_55 (C : xCx) (r : List Value) (hp : xHp) (x : Int64) (a0 a1 a2 a3 a4 a5 a6 a7 a8 a9 a11 : Value) : (xV k_Chance_tell C 55 [a0, a1, a2, a3, a4, a5, a6, a7, a8, a9, .long x, a11] r hp) = (xV k_Chance_tell C 57 [a0, a1, a2, a3, a4, a5, a6, a7, a8, a9, .long x, a11] (.long x :: r) hp) := xVe _ _ _ _ _ _
theorem s_Chance_tell_57 (x y : Int64) (C : xCx) (L r : List Value) (hp : xHp) : (xV k_Chance_tell C 57 L (.long y :: .long x :: r) hp) = (¬ y = 0 ∧ xV k_Chance_tell C 58 L (.long (x / y) :: r) hp) := xVe _ _ _ _ _ _
theorem s_Chance_tell_58 (x0 : Int64) (x1 : Int64) (a : Nat) (l : Launch) (d b lo gz n0 s0 : Nat) (Po : Option Value → xHp → Prop) (L r : List Value) (hp : xHp) : (xV k_Chance_tell (l, d + 1, b, lo, gz, n0, s0, m_Chance_tell, Po) 58 L (.long x1 :: .long x0 :: .ref a :: r) hp) = (xO hp a 7 ∧ xcs r 8 ∧ xMv l d b lo gz m_Row_tell2 [.ref a, .long x0, .long x1] hp (fun hp' => xV k_Chance_tell (l, d + 1, b, lo, gz, n0, s0, m_Chance_tell, Po) 61 L r hp')) := xVe _ _ _ _ _ _
theorem s_Chance_tell_61 (l : Launch) (d b lo gz n0 s0 : Nat) (Po : Option Value → xHp → Prop) (L : List Value) (hp : xHp) : (xV k_Chance_tell (l, d, b, lo, gz, n0, s0, m_Chance_tell, Po) 61 L [] hp) = (Po (none) hp) := xVe _ _ _ _ _ _
theorem ml_Chance_45 : xLk "SunnyOnes$Chance" 45 m_Chance_casesUnder := Or.inl (wg5 24 (by decide +kernel) rfl)
def k_Chance_cases : List xEC := [
  (0, .iload_n 2, 1, 0, 0, 0, m_x),
  (1, .aload_n 0, 2, 0, 0, 0, m_x),
  (2, .getfield 24, 5, 1, 4, 0, m_x),
  (5, .if_icmp .lt 8, 8, 0, 13, 0, m_x),
  (8, .iload_n 1, 9, 0, 0, 0, m_x),
  (9, .invokestatic 31, 12, 0, 0, 0, m_Chance_tens),
  (12, .lreturn, 13, 0, 0, 0, m_x),
  (13, .iload_n 1, 14, 0, 0, 0, m_x),
  (14, .ifCond .gt 5, 17, 0, 19, 0, m_x),
  (17, .lconst 0, 18, 0, 0, 0, m_x),
  (18, .lreturn, 19, 0, 0, 0, m_x),
  (19, .aload_n 0, 20, 0, 0, 0, m_x),
  (20, .getfield 21, 23, 1, 3, 0, m_x),
  (23, .ifCond .le 20, 26, 0, 43, 0, m_x),
  (26, .aload_n 0, 27, 0, 0, 0, m_x),
  (27, .getfield 21, 30, 1, 3, 0, m_x),
  (30, .i2l, 31, 0, 0, 0, m_x),
  (31, .aload_n 0, 32, 0, 0, 0, m_x),
  (32, .bipush 9, 34, 0, 0, 0, m_x),
  (34, .iload_n 1, 35, 0, 0, 0, m_x),
  (35, .iload_n 2, 36, 0, 0, 0, m_x),
  (36, .invokevirtual 45, 39, 1, 0, 0, m_Chance_casesUnder),
  (39, .lmul, 40, 0, 0, 0, m_x),
  (40, .goto 4, 43, 0, 44, 0, m_x),
  (43, .lconst 0, 44, 0, 0, 0, m_x),
  (44, .lstore_n 3, 45, 0, 0, 0, m_x),
  (45, .aload_n 0, 46, 0, 0, 0, m_x),
  (46, .getfield 21, 49, 1, 3, 0, m_x),
  (49, .bipush 10, 51, 0, 0, 0, m_x),
  (51, .if_icmp .ge 22, 54, 0, 73, 0, m_x),
  (54, .bipush 10, 56, 0, 0, 0, m_x),
  (56, .aload_n 0, 57, 0, 0, 0, m_x),
  (57, .getfield 21, 60, 1, 3, 0, m_x),
  (60, .isub, 61, 0, 0, 0, m_x),
  (61, .i2l, 62, 0, 0, 0, m_x),
  (62, .aload_n 0, 63, 0, 0, 0, m_x),
  (63, .iconst 0, 64, 0, 0, 0, m_x),
  (64, .iload_n 1, 65, 0, 0, 0, m_x),
  (65, .iload_n 2, 66, 0, 0, 0, m_x),
  (66, .invokevirtual 45, 69, 1, 0, 0, m_Chance_casesUnder),
  (69, .lmul, 70, 0, 0, 0, m_x),
  (70, .goto 4, 73, 0, 74, 0, m_x),
  (73, .lconst 0, 74, 0, 0, 0, m_x),
  (74, .lstore 5, 76, 0, 0, 0, m_x),
  (76, .lload_n 3, 77, 0, 0, 0, m_x),
  (77, .lload 5, 79, 0, 0, 0, m_x),
  (79, .ladd, 80, 0, 0, 0, m_x),
  (80, .lreturn, 81, 0, 0, 0, m_x)]
theorem dc_Chance_cases : ∀ E ∈ k_Chance_cases, xDc m_Chance_cases E := by decide +kernel
set_option maxRecDepth 20000 in
theorem ok_Chance_cases : ∀ E ∈ k_Chance_cases, xOk m_Chance_cases E := xok_of dc_Chance_cases (xfc trivial (xfc trivial (xfc fl_Chance_24 (xfc (show ((5 : Nat) : Int) + (8) = ((13 : Nat) : Int) from by decide) (xfc trivial (xfc ⟨ml_Chance_31, kd_Chance_tens⟩ (xfc trivial (xfc trivial (xfc (show ((14 : Nat) : Int) + (5) = ((19 : Nat) : Int) from by decide) (xfc trivial (xfc trivial (xfc trivial (xfc fl_Chance_21 (xfc (show ((23 : Nat) : Int) + (20) = ((43 : Nat) : Int) from by decide) (xfc trivial (xfc fl_Chance_21 (xfc trivial (xfc trivial (xfc trivial (xfc trivial (xfc trivial (xfc ⟨ml_Chance_45, kd_Chance_casesUnder⟩ (xfc trivial (xfc (show ((40 : Nat) : Int) + (4) = ((44 : Nat) : Int) from by decide) (xfc trivial (xfc trivial (xfc trivial (xfc fl_Chance_21 (xfc trivial (xfc (show ((51 : Nat) : Int) + (22) = ((73 : Nat) : Int) from by decide) (xfc trivial (xfc trivial (xfc fl_Chance_21 (xfc trivial (xfc trivial (xfc trivial (xfc trivial (xfc trivial (xfc trivial (xfc ⟨ml_Chance_45, kd_Chance_casesUnder⟩ (xfc trivial (xfc (show ((70 : Nat) : Int) + (4) = ((74 : Nat) : Int) from by decide) (xfc trivial (xfc trivial (xfc trivial (xfc trivial (xfc trivial (xfc trivial (xfn)))))))))))))))))))))))))))))))))))))))))))))))))
theorem s_Chance_cases_0 (C : xCx) (r : List Value) (hp : xHp) (x : Int32) (a0 a1 a3 a4 a5 a6 : Value) : (xV k_Chance_cases C 0 [a0, a1, .int x, a3, a4, a5, a6] r hp) = (xV k_Chance_cases C 1 [a0, a1, .int x, a3, a4, a5, a6] (.int x :: r) hp) := xVe _ _ _ _ _ _
theorem s_Chance_cases_1 (C : xCx) (r : List Value) (hp : xHp) (x : Nat) (a1 a2 a3 a4 a5 a6 : Value) : (xV k_Chance_cases C 1 [.ref x, a1, a2, a3, a4, a5, a6] r hp) = (True ∧ xV k_Chance_cases C 2 [.ref x, a1, a2, a3, a4, a5, a6] (.ref x :: r) hp) := xVe _ _ _ _ _ _
theorem s_Chance_cases_2 (a : Nat) (C : xCx) (L r : List Value) (hp : xHp) : (xV k_Chance_cases C 2 L (.ref a :: r) hp) = (xF hp a 1 4 (fun v => xV k_Chance_cases C 5 L (v :: r) hp)) := xVe _ _ _ _ _ _
theorem s_Chance_cases_5 (x y : Int32) (C : xCx) (L r : List Value) (hp : xHp) : (xV k_Chance_cases C 5 L (.int y :: .int x :: r) hp) = (((x < y → xV k_Chance_cases C 13 L r hp) ∧ (¬ x < y → xV k_Chance_cases C 8 L r hp))) := xVe _ _ _ _ _ _
theorem s_Chance_cases_8 (C : xCx) (r : List Value) (hp : xHp) (x : Int32) (a0 a2 a3 a4 a5 a6 : Value) : (xV k_Chance_cases C 8 [a0, .int x, a2, a3, a4, a5, a6] r hp) = (xV k_Chance_cases C 9 [a0, .int x, a2, a3, a4, a5, a6] (.int x :: r) hp) := xVe _ _ _ _ _ _
theorem s_Chance_cases_9 (x0 : Int32) (l : Launch) (d b lo gz n0 s0 : Nat) (Po : Option Value → xHp → Prop) (L r : List Value) (hp : xHp) : (xV k_Chance_cases (l, d + 1, b, lo, gz, n0, s0, m_Chance_cases, Po) 9 L (.int x0 :: r) hp) = (1 ≤ List.length (.int x0 :: r) ∧ xcs r 8 ∧ xMl l d b lo gz m_Chance_tens [.int x0] hp (fun x hp' => xV k_Chance_cases (l, d + 1, b, lo, gz, n0, s0, m_Chance_cases, Po) 12 L (.long x :: r) hp')) := xVe _ _ _ _ _ _
theorem s_Chance_cases_12 (v : Int64) (l : Launch) (d b lo gz n0 s0 : Nat) (Po : Option Value → xHp → Prop) (L : List Value) (hp : xHp) : (xV k_Chance_cases (l, d, b, lo, gz, n0, s0, m_Chance_cases, Po) 12 L [.long v] hp) = (Po (some (.long v)) hp) := xVe _ _ _ _ _ _
theorem s_Chance_cases_13 (C : xCx) (r : List Value) (hp : xHp) (x : Int32) (a0 a2 a3 a4 a5 a6 : Value) : (xV k_Chance_cases C 13 [a0, .int x, a2, a3, a4, a5, a6] r hp) = (xV k_Chance_cases C 14 [a0, .int x, a2, a3, a4, a5, a6] (.int x :: r) hp) := xVe _ _ _ _ _ _
theorem s_Chance_cases_14 (x : Int32) (C : xCx) (L r : List Value) (hp : xHp) : (xV k_Chance_cases C 14 L (.int x :: r) hp) = (((0 < x → xV k_Chance_cases C 19 L r hp) ∧ (¬ 0 < x → xV k_Chance_cases C 17 L r hp))) := xVe _ _ _ _ _ _
theorem s_Chance_cases_17  (C : xCx) (L r : List Value) (hp : xHp) : (xV k_Chance_cases C 17 L (r) hp) = (xV k_Chance_cases C 18 L (.long 0 :: r) hp) := xVe _ _ _ _ _ _
theorem s_Chance_cases_18 (v : Int64) (l : Launch) (d b lo gz n0 s0 : Nat) (Po : Option Value → xHp → Prop) (L : List Value) (hp : xHp) : (xV k_Chance_cases (l, d, b, lo, gz, n0, s0, m_Chance_cases, Po) 18 L [.long v] hp) = (Po (some (.long v)) hp) := xVe _ _ _ _ _ _
theorem s_Chance_cases_19 (C : xCx) (r : List Value) (hp : xHp) (x : Nat) (a1 a2 a3 a4 a5 a6 : Value) : (xV k_Chance_cases C 19 [.ref x, a1, a2, a3, a4, a5, a6] r hp) = (True ∧ xV k_Chance_cases C 20 [.ref x, a1, a2, a3, a4, a5, a6] (.ref x :: r) hp) := xVe _ _ _ _ _ _
theorem s_Chance_cases_20 (a : Nat) (C : xCx) (L r : List Value) (hp : xHp) : (xV k_Chance_cases C 20 L (.ref a :: r) hp) = (xF hp a 1 3 (fun v => xV k_Chance_cases C 23 L (v :: r) hp)) := xVe _ _ _ _ _ _
theorem s_Chance_cases_23 (x : Int32) (C : xCx) (L r : List Value) (hp : xHp) : (xV k_Chance_cases C 23 L (.int x :: r) hp) = (((x ≤ 0 → xV k_Chance_cases C 43 L r hp) ∧ (¬ x ≤ 0 → xV k_Chance_cases C 26 L r hp))) := xVe _ _ _ _ _ _
theorem s_Chance_cases_26 (C : xCx) (r : List Value) (hp : xHp) (x : Nat) (a1 a2 a3 a4 a5 a6 : Value) : (xV k_Chance_cases C 26 [.ref x, a1, a2, a3, a4, a5, a6] r hp) = (True ∧ xV k_Chance_cases C 27 [.ref x, a1, a2, a3, a4, a5, a6] (.ref x :: r) hp) := xVe _ _ _ _ _ _
theorem s_Chance_cases_27 (a : Nat) (C : xCx) (L r : List Value) (hp : xHp) : (xV k_Chance_cases C 27 L (.ref a :: r) hp) = (xF hp a 1 3 (fun v => xV k_Chance_cases C 30 L (v :: r) hp)) := xVe _ _ _ _ _ _
theorem s_Chance_cases_30 (x : Int32) (C : xCx) (L r : List Value) (hp : xHp) : (xV k_Chance_cases C 30 L (.int x :: r) hp) = (xV k_Chance_cases C 31 L (.long x.toInt64 :: r) hp) := xVe _ _ _ _ _ _
theorem s_Chance_cases_31 (C : xCx) (r : List Value) (hp : xHp) (x : Nat) (a1 a2 a3 a4 a5 a6 : Value) : (xV k_Chance_cases C 31 [.ref x, a1, a2, a3, a4, a5, a6] r hp) = (True ∧ xV k_Chance_cases C 32 [.ref x, a1, a2, a3, a4, a5, a6] (.ref x :: r) hp) := xVe _ _ _ _ _ _
theorem s_Chance_cases_32  (C : xCx) (L r : List Value) (hp : xHp) : (xV k_Chance_cases C 32 L (r) hp) = (xV k_Chance_cases C 34 L (.int (9) :: r) hp) := xVe _ _ _ _ _ _
theorem s_Chance_cases_34 (C : xCx) (r : List Value) (hp : xHp) (x : Int32) (a0 a2 a3 a4 a5 a6 : Value) : (xV k_Chance_cases C 34 [a0, .int x, a2, a3, a4, a5, a6] r hp) = (xV k_Chance_cases C 35 [a0, .int x, a2, a3, a4, a5, a6] (.int x :: r) hp) := xVe _ _ _ _ _ _
theorem s_Chance_cases_35 (C : xCx) (r : List Value) (hp : xHp) (x : Int32) (a0 a1 a3 a4 a5 a6 : Value) : (xV k_Chance_cases C 35 [a0, a1, .int x, a3, a4, a5, a6] r hp) = (xV k_Chance_cases C 36 [a0, a1, .int x, a3, a4, a5, a6] (.int x :: r) hp) := xVe _ _ _ _ _ _
theorem s_Chance_cases_36 (x0 : Int32) (x1 : Int32) (x2 : Int32) (a : Nat) (l : Launch) (d b lo gz n0 s0 : Nat) (Po : Option Value → xHp → Prop) (L r : List Value) (hp : xHp) : (xV k_Chance_cases (l, d + 1, b, lo, gz, n0, s0, m_Chance_cases, Po) 36 L (.int x2 :: .int x1 :: .int x0 :: .ref a :: r) hp) = (xO hp a 1 ∧ xcs r 8 ∧ xMl l d b lo gz m_Chance_casesUnder [.ref a, .int x0, .int x1, .int x2] hp (fun x hp' => xV k_Chance_cases (l, d + 1, b, lo, gz, n0, s0, m_Chance_cases, Po) 39 L (.long x :: r) hp')) := xVe _ _ _ _ _ _
theorem s_Chance_cases_39 (x y : Int64) (C : xCx) (L r : List Value) (hp : xHp) : (xV k_Chance_cases C 39 L (.long y :: .long x :: r) hp) = (xV k_Chance_cases C 40 L (.long (x * y) :: r) hp) := xVe _ _ _ _ _ _
theorem s_Chance_cases_40 (C : xCx) (L r : List Value) (hp : xHp) : (xV k_Chance_cases C 40 L r hp) = (xV k_Chance_cases C 44 L r hp) := xVe _ _ _ _ _ _
theorem s_Chance_cases_43  (C : xCx) (L r : List Value) (hp : xHp) : (xV k_Chance_cases C 43 L (r) hp) = (xV k_Chance_cases C 44 L (.long 0 :: r) hp) := xVe _ _ _ _ _ _
theorem s_Chance_cases_44 (C : xCx) (r : List Value) (hp : xHp) (x : Int64) (a0 a1 a2 a3 a4 a5 a6 : Value) : (xV k_Chance_cases C 44 [a0, a1, a2, a3, a4, a5, a6] (.long x :: r) hp) = (3 + 1 < 7 ∧ xNl [a0, a1, a2, a3, a4, a5, a6] 3 ∧ xV k_Chance_cases C 45 [a0, a1, a2, .long x, .retAddr 0, a5, a6] r hp) := xVe _ _ _ _ _ _
theorem s_Chance_cases_45 (C : xCx) (r : List Value) (hp : xHp) (x : Nat) (a1 a2 a3 a4 a5 a6 : Value) : (xV k_Chance_cases C 45 [.ref x, a1, a2, a3, a4, a5, a6] r hp) = (True ∧ xV k_Chance_cases C 46 [.ref x, a1, a2, a3, a4, a5, a6] (.ref x :: r) hp) := xVe _ _ _ _ _ _
theorem s_Chance_cases_46 (a : Nat) (C : xCx) (L r : List Value) (hp : xHp) : (xV k_Chance_cases C 46 L (.ref a :: r) hp) = (xF hp a 1 3 (fun v => xV k_Chance_cases C 49 L (v :: r) hp)) := xVe _ _ _ _ _ _
theorem s_Chance_cases_49  (C : xCx) (L r : List Value) (hp : xHp) : (xV k_Chance_cases C 49 L (r) hp) = (xV k_Chance_cases C 51 L (.int (10) :: r) hp) := xVe _ _ _ _ _ _
theorem s_Chance_cases_51 (x y : Int32) (C : xCx) (L r : List Value) (hp : xHp) : (xV k_Chance_cases C 51 L (.int y :: .int x :: r) hp) = (((y ≤ x → xV k_Chance_cases C 73 L r hp) ∧ (¬ y ≤ x → xV k_Chance_cases C 54 L r hp))) := xVe _ _ _ _ _ _
theorem s_Chance_cases_54  (C : xCx) (L r : List Value) (hp : xHp) : (xV k_Chance_cases C 54 L (r) hp) = (xV k_Chance_cases C 56 L (.int (10) :: r) hp) := xVe _ _ _ _ _ _
theorem s_Chance_cases_56 (C : xCx) (r : List Value) (hp : xHp) (x : Nat) (a1 a2 a3 a4 a5 a6 : Value) : (xV k_Chance_cases C 56 [.ref x, a1, a2, a3, a4, a5, a6] r hp) = (True ∧ xV k_Chance_cases C 57 [.ref x, a1, a2, a3, a4, a5, a6] (.ref x :: r) hp) := xVe _ _ _ _ _ _
theorem s_Chance_cases_57 (a : Nat) (C : xCx) (L r : List Value) (hp : xHp) : (xV k_Chance_cases C 57 L (.ref a :: r) hp) = (xF hp a 1 3 (fun v => xV k_Chance_cases C 60 L (v :: r) hp)) := xVe _ _ _ _ _ _
theorem s_Chance_cases_60 (x y : Int32) (C : xCx) (L r : List Value) (hp : xHp) : (xV k_Chance_cases C 60 L (.int y :: .int x :: r) hp) = (xV k_Chance_cases C 61 L (.int (x - y) :: r) hp) := xVe _ _ _ _ _ _
theorem s_Chance_cases_61 (x : Int32) (C : xCx) (L r : List Value) (hp : xHp) : (xV k_Chance_cases C 61 L (.int x :: r) hp) = (xV k_Chance_cases C 62 L (.long x.toInt64 :: r) hp) := xVe _ _ _ _ _ _
theorem s_Chance_cases_62 (C : xCx) (r : List Value) (hp : xHp) (x : Nat) (a1 a2 a3 a4 a5 a6 : Value) : (xV k_Chance_cases C 62 [.ref x, a1, a2, a3, a4, a5, a6] r hp) = (True ∧ xV k_Chance_cases C 63 [.ref x, a1, a2, a3, a4, a5, a6] (.ref x :: r) hp) := xVe _ _ _ _ _ _
theorem s_Chance_cases_63  (C : xCx) (L r : List Value) (hp : xHp) : (xV k_Chance_cases C 63 L (r) hp) = (xV k_Chance_cases C 64 L (.int (0) :: r) hp) := xVe _ _ _ _ _ _
theorem s_Chance_cases_64 (C : xCx) (r : List Value) (hp : xHp) (x : Int32) (a0 a2 a3 a4 a5 a6 : Value) : (xV k_Chance_cases C 64 [a0, .int x, a2, a3, a4, a5, a6] r hp) = (xV k_Chance_cases C 65 [a0, .int x, a2, a3, a4, a5, a6] (.int x :: r) hp) := xVe _ _ _ _ _ _
theorem s_Chance_cases_65 (C : xCx) (r : List Value) (hp : xHp) (x : Int32) (a0 a1 a3 a4 a5 a6 : Value) : (xV k_Chance_cases C 65 [a0, a1, .int x, a3, a4, a5, a6] r hp) = (xV k_Chance_cases C 66 [a0, a1, .int x, a3, a4, a5, a6] (.int x :: r) hp) := xVe _ _ _ _ _ _
theorem s_Chance_cases_66 (x0 : Int32) (x1 : Int32) (x2 : Int32) (a : Nat) (l : Launch) (d b lo gz n0 s0 : Nat) (Po : Option Value → xHp → Prop) (L r : List Value) (hp : xHp) : (xV k_Chance_cases (l, d + 1, b, lo, gz, n0, s0, m_Chance_cases, Po) 66 L (.int x2 :: .int x1 :: .int x0 :: .ref a :: r) hp) = (xO hp a 1 ∧ xcs r 8 ∧ xMl l d b lo gz m_Chance_casesUnder [.ref a, .int x0, .int x1, .int x2] hp (fun x hp' => xV k_Chance_cases (l, d + 1, b, lo, gz, n0, s0, m_Chance_cases, Po) 69 L (.long x :: r) hp')) := xVe _ _ _ _ _ _
theorem s_Chance_cases_69 (x y : Int64) (C : xCx) (L r : List Value) (hp : xHp) : (xV k_Chance_cases C 69 L (.long y :: .long x :: r) hp) = (xV k_Chance_cases C 70 L (.long (x * y) :: r) hp) := xVe _ _ _ _ _ _
theorem s_Chance_cases_70 (C : xCx) (L r : List Value) (hp : xHp) : (xV k_Chance_cases C 70 L r hp) = (xV k_Chance_cases C 74 L r hp) := xVe _ _ _ _ _ _
theorem s_Chance_cases_73  (C : xCx) (L r : List Value) (hp : xHp) : (xV k_Chance_cases C 73 L (r) hp) = (xV k_Chance_cases C 74 L (.long 0 :: r) hp) := xVe _ _ _ _ _ _
theorem s_Chance_cases_74 (C : xCx) (r : List Value) (hp : xHp) (x : Int64) (a0 a1 a2 a3 a4 a5 a6 : Value) : (xV k_Chance_cases C 74 [a0, a1, a2, a3, a4, a5, a6] (.long x :: r) hp) = (5 + 1 < 7 ∧ xNl [a0, a1, a2, a3, a4, a5, a6] 5 ∧ xV k_Chance_cases C 76 [a0, a1, a2, a3, a4, .long x, .retAddr 0] r hp) := xVe _ _ _ _ _ _
theorem s_Chance_cases_76 (C : xCx) (r : List Value) (hp : xHp) (x : Int64) (a0 a1 a2 a4 a5 a6 : Value) : (xV k_Chance_cases C 76 [a0, a1, a2, .long x, a4, a5, a6] r hp) = (xV k_Chance_cases C 77 [a0, a1, a2, .long x, a4, a5, a6] (.long x :: r) hp) := xVe _ _ _ _ _ _
theorem s_Chance_cases_77 (C : xCx) (r : List Value) (hp : xHp) (x : Int64) (a0 a1 a2 a3 a4 a6 : Value) : (xV k_Chance_cases C 77 [a0, a1, a2, a3, a4, .long x, a6] r hp) = (xV k_Chance_cases C 79 [a0, a1, a2, a3, a4, .long x, a6] (.long x :: r) hp) := xVe _ _ _ _ _ _
theorem s_Chance_cases_79 (x y : Int64) (C : xCx) (L r : List Value) (hp : xHp) : (xV k_Chance_cases C 79 L (.long y :: .long x :: r) hp) = (xV k_Chance_cases C 80 L (.long (x + y) :: r) hp) := xVe _ _ _ _ _ _
theorem s_Chance_cases_80 (v : Int64) (l : Launch) (d b lo gz n0 s0 : Nat) (Po : Option Value → xHp → Prop) (L : List Value) (hp : xHp) : (xV k_Chance_cases (l, d, b, lo, gz, n0, s0, m_Chance_cases, Po) 80 L [.long v] hp) = (Po (some (.long v)) hp) := xVe _ _ _ _ _ _
def k_Chance_tens : List xEC := [
  (0, .lconst 1, 1, 0, 0, 0, m_x),
  (1, .lstore_n 1, 2, 0, 0, 0, m_x),
  (2, .iconst 0, 3, 0, 0, 0, m_x),
  (3, .istore_n 3, 4, 0, 0, 0, m_x),
  (4, .iload_n 3, 5, 0, 0, 0, m_x),
  (5, .iload_n 0, 6, 0, 0, 0, m_x),
  (6, .if_icmp .ge 15, 9, 0, 21, 0, m_x),
  (9, .lload_n 1, 10, 0, 0, 0, m_x),
  (10, .ldc2_w 76, 13, 0, 0, (10), m_x),
  (13, .lmul, 14, 0, 0, 0, m_x),
  (14, .lstore_n 1, 15, 0, 0, 0, m_x),
  (15, .iinc 3 1, 18, 0, 0, 0, m_x),
  (18, .goto (-14), 21, 0, 4, 0, m_x),
  (21, .lload_n 1, 22, 0, 0, 0, m_x),
  (22, .lreturn, 23, 0, 0, 0, m_x)]
theorem dc_Chance_tens : ∀ E ∈ k_Chance_tens, xDc m_Chance_tens E := by decide +kernel
set_option maxRecDepth 20000 in
theorem ok_Chance_tens : ∀ E ∈ k_Chance_tens, xOk m_Chance_tens E := xok_of dc_Chance_tens (xfc trivial (xfc trivial (xfc trivial (xfc trivial (xfc trivial (xfc trivial (xfc (show ((6 : Nat) : Int) + (15) = ((21 : Nat) : Int) from by decide) (xfc trivial (xfc (wg5 23 (by decide +kernel) rfl) (xfc trivial (xfc trivial (xfc trivial (xfc (show ((18 : Nat) : Int) + (-14) = ((4 : Nat) : Int) from by decide) (xfc trivial (xfc trivial (xfn))))))))))))))))
theorem s_Chance_tens_0  (C : xCx) (L r : List Value) (hp : xHp) : (xV k_Chance_tens C 0 L (r) hp) = (xV k_Chance_tens C 1 L (.long 1 :: r) hp) := xVe _ _ _ _ _ _
theorem s_Chance_tens_1 (C : xCx) (r : List Value) (hp : xHp) (x : Int64) (a0 a1 a2 a3 : Value) : (xV k_Chance_tens C 1 [a0, a1, a2, a3] (.long x :: r) hp) = (1 + 1 < 4 ∧ xNl [a0, a1, a2, a3] 1 ∧ xV k_Chance_tens C 2 [a0, .long x, .retAddr 0, a3] r hp) := xVe _ _ _ _ _ _
theorem s_Chance_tens_2  (C : xCx) (L r : List Value) (hp : xHp) : (xV k_Chance_tens C 2 L (r) hp) = (xV k_Chance_tens C 3 L (.int (0) :: r) hp) := xVe _ _ _ _ _ _
theorem s_Chance_tens_3 (C : xCx) (r : List Value) (hp : xHp) (x : Int32) (a0 a1 a2 a3 : Value) : (xV k_Chance_tens C 3 [a0, a1, a2, a3] (.int x :: r) hp) = (3 < 4 ∧ xNl [a0, a1, a2, a3] 3 ∧ xV k_Chance_tens C 4 [a0, a1, a2, .int x] r hp) := xVe _ _ _ _ _ _
theorem s_Chance_tens_4 (C : xCx) (r : List Value) (hp : xHp) (x : Int32) (a0 a1 a2 : Value) : (xV k_Chance_tens C 4 [a0, a1, a2, .int x] r hp) = (xV k_Chance_tens C 5 [a0, a1, a2, .int x] (.int x :: r) hp) := xVe _ _ _ _ _ _
theorem s_Chance_tens_5 (C : xCx) (r : List Value) (hp : xHp) (x : Int32) (a1 a2 a3 : Value) : (xV k_Chance_tens C 5 [.int x, a1, a2, a3] r hp) = (xV k_Chance_tens C 6 [.int x, a1, a2, a3] (.int x :: r) hp) := xVe _ _ _ _ _ _
theorem s_Chance_tens_6 (x y : Int32) (C : xCx) (L r : List Value) (hp : xHp) : (xV k_Chance_tens C 6 L (.int y :: .int x :: r) hp) = (((y ≤ x → xV k_Chance_tens C 21 L r hp) ∧ (¬ y ≤ x → xV k_Chance_tens C 9 L r hp))) := xVe _ _ _ _ _ _
theorem s_Chance_tens_9 (C : xCx) (r : List Value) (hp : xHp) (x : Int64) (a0 a2 a3 : Value) : (xV k_Chance_tens C 9 [a0, .long x, a2, a3] r hp) = (xV k_Chance_tens C 10 [a0, .long x, a2, a3] (.long x :: r) hp) := xVe _ _ _ _ _ _
theorem s_Chance_tens_10  (C : xCx) (L r : List Value) (hp : xHp) : (xV k_Chance_tens C 10 L (r) hp) = (xV k_Chance_tens C 13 L (.long (10) :: r) hp) := xVe _ _ _ _ _ _
theorem s_Chance_tens_13 (x y : Int64) (C : xCx) (L r : List Value) (hp : xHp) : (xV k_Chance_tens C 13 L (.long y :: .long x :: r) hp) = (xV k_Chance_tens C 14 L (.long (x * y) :: r) hp) := xVe _ _ _ _ _ _
theorem s_Chance_tens_14 (C : xCx) (r : List Value) (hp : xHp) (x : Int64) (a0 a1 a2 a3 : Value) : (xV k_Chance_tens C 14 [a0, a1, a2, a3] (.long x :: r) hp) = (1 + 1 < 4 ∧ xNl [a0, a1, a2, a3] 1 ∧ xV k_Chance_tens C 15 [a0, .long x, .retAddr 0, a3] r hp) := xVe _ _ _ _ _ _
theorem s_Chance_tens_15 (C : xCx) (r : List Value) (hp : xHp) (x : Int32) (a0 a1 a2 : Value) : (xV k_Chance_tens C 15 [a0, a1, a2, .int x] r hp) = (xNl [a0, a1, a2, .int x] 3 ∧ xV k_Chance_tens C 18 [a0, a1, a2, .int (x + (1))] r hp) := xVe _ _ _ _ _ _
theorem s_Chance_tens_18 (C : xCx) (L r : List Value) (hp : xHp) : (xV k_Chance_tens C 18 L r hp) = (xV k_Chance_tens C 4 L r hp) := xVe _ _ _ _ _ _
theorem s_Chance_tens_21 (C : xCx) (r : List Value) (hp : xHp) (x : Int64) (a0 a2 a3 : Value) : (xV k_Chance_tens C 21 [a0, .long x, a2, a3] r hp) = (xV k_Chance_tens C 22 [a0, .long x, a2, a3] (.long x :: r) hp) := xVe _ _ _ _ _ _
theorem s_Chance_tens_22 (v : Int64) (l : Launch) (d b lo gz n0 s0 : Nat) (Po : Option Value → xHp → Prop) (L : List Value) (hp : xHp) : (xV k_Chance_tens (l, d, b, lo, gz, n0, s0, m_Chance_tens, Po) 22 L [.long v] hp) = (Po (some (.long v)) hp) := xVe _ _ _ _ _ _
theorem ml_Chance_49 : xLk "SunnyOnes$Chance" 49 m_Folk_age := Or.inl (wg5 28 (by decide +kernel) rfl)
theorem ml_Chance_55 : xLk "SunnyOnes$Chance" 55 m_Folk_day := Or.inl (wg5 29 (by decide +kernel) rfl)
theorem ml_Chance_59 : xLk "SunnyOnes$Chance" 59 m_Sun_hoursUnder := Or.inl (wg5 30 (by decide +kernel) rfl)
theorem ml_Chance_65 : xLk "SunnyOnes$Chance" 65 m_Folk_grow := Or.inl (wg5 31 (by decide +kernel) rfl)
theorem ml_Chance_69 : xLk "SunnyOnes$Chance" 69 m_Folk_setDay := Or.inl (wg5 32 (by decide +kernel) rfl)
theorem ml_Chance_73 : xLk "SunnyOnes$Chance" 73 m_Folk_setAge := Or.inl (wg5 33 (by decide +kernel) rfl)
def k_Chance_casesUnder : List xEC := [
  (0, .aload_n 0, 1, 0, 0, 0, m_x),
  (1, .getfield 13, 4, 1, 1, 0, m_x),
  (4, .aload_n 0, 5, 0, 0, 0, m_x),
  (5, .getfield 17, 8, 1, 2, 0, m_x),
  (8, .invokevirtual 49, 11, 3, 0, 0, m_Folk_age),
  (11, .istore 4, 13, 0, 0, 0, m_x),
  (13, .aload_n 0, 14, 0, 0, 0, m_x),
  (14, .getfield 13, 17, 1, 1, 0, m_x),
  (17, .invokevirtual 55, 20, 3, 0, 0, m_Folk_day),
  (20, .istore 5, 22, 0, 0, 0, m_x),
  (22, .aload_n 0, 23, 0, 0, 0, m_x),
  (23, .getfield 7, 26, 1, 0, 0, m_x),
  (26, .aload_n 0, 27, 0, 0, 0, m_x),
  (27, .getfield 13, 30, 1, 1, 0, m_x),
  (30, .aload_n 0, 31, 0, 0, 0, m_x),
  (31, .getfield 17, 34, 1, 2, 0, m_x),
  (34, .iload_n 1, 35, 0, 0, 0, m_x),
  (35, .invokevirtual 59, 38, 9, 0, 0, m_Sun_hoursUnder),
  (38, .istore 6, 40, 0, 0, 0, m_x),
  (40, .aload_n 0, 41, 0, 0, 0, m_x),
  (41, .getfield 13, 44, 1, 1, 0, m_x),
  (44, .aload_n 0, 45, 0, 0, 0, m_x),
  (45, .getfield 17, 48, 1, 2, 0, m_x),
  (48, .iload 6, 50, 0, 0, 0, m_x),
  (50, .invokevirtual 65, 53, 3, 0, 0, m_Folk_grow),
  (53, .aload_n 0, 54, 0, 0, 0, m_x),
  (54, .getfield 13, 57, 1, 1, 0, m_x),
  (57, .iload 5, 59, 0, 0, 0, m_x),
  (59, .iconst 1, 60, 0, 0, 0, m_x),
  (60, .iadd, 61, 0, 0, 0, m_x),
  (61, .invokevirtual 69, 64, 3, 0, 0, m_Folk_setDay),
  (64, .aload_n 0, 65, 0, 0, 0, m_x),
  (65, .iload_n 2, 66, 0, 0, 0, m_x),
  (66, .iconst 1, 67, 0, 0, 0, m_x),
  (67, .isub, 68, 0, 0, 0, m_x),
  (68, .iload_n 3, 69, 0, 0, 0, m_x),
  (69, .iload 6, 71, 0, 0, 0, m_x),
  (71, .iadd, 72, 0, 0, 0, m_x),
  (72, .invokevirtual 27, 75, 1, 0, 0, m_Chance_cases),
  (75, .lstore 7, 77, 0, 0, 0, m_x),
  (77, .aload_n 0, 78, 0, 0, 0, m_x),
  (78, .getfield 13, 81, 1, 1, 0, m_x),
  (81, .aload_n 0, 82, 0, 0, 0, m_x),
  (82, .getfield 17, 85, 1, 2, 0, m_x),
  (85, .iload 4, 87, 0, 0, 0, m_x),
  (87, .invokevirtual 73, 90, 3, 0, 0, m_Folk_setAge),
  (90, .aload_n 0, 91, 0, 0, 0, m_x),
  (91, .getfield 13, 94, 1, 1, 0, m_x),
  (94, .iload 5, 96, 0, 0, 0, m_x),
  (96, .invokevirtual 69, 99, 3, 0, 0, m_Folk_setDay),
  (99, .lload 7, 101, 0, 0, 0, m_x),
  (101, .lreturn, 102, 0, 0, 0, m_x)]
theorem dc_Chance_casesUnder : ∀ E ∈ k_Chance_casesUnder, xDc m_Chance_casesUnder E := by decide +kernel
set_option maxRecDepth 20000 in
theorem ok_Chance_casesUnder : ∀ E ∈ k_Chance_casesUnder, xOk m_Chance_casesUnder E := xok_of dc_Chance_casesUnder (xfc trivial (xfc fl_Chance_13 (xfc trivial (xfc fl_Chance_17 (xfc ⟨ml_Chance_49, kd_Folk_age⟩ (xfc trivial (xfc trivial (xfc fl_Chance_13 (xfc ⟨ml_Chance_55, kd_Folk_day⟩ (xfc trivial (xfc trivial (xfc fl_Chance_7 (xfc trivial (xfc fl_Chance_13 (xfc trivial (xfc fl_Chance_17 (xfc trivial (xfc ⟨ml_Chance_59, kd_Sun_hoursUnder⟩ (xfc trivial (xfc trivial (xfc fl_Chance_13 (xfc trivial (xfc fl_Chance_17 (xfc trivial (xfc ⟨ml_Chance_65, kd_Folk_grow⟩ (xfc trivial (xfc fl_Chance_13 (xfc trivial (xfc trivial (xfc trivial (xfc ⟨ml_Chance_69, kd_Folk_setDay⟩ (xfc trivial (xfc trivial (xfc trivial (xfc trivial (xfc trivial (xfc trivial (xfc trivial (xfc ⟨ml_Chance_27, kd_Chance_cases⟩ (xfc trivial (xfc trivial (xfc fl_Chance_13 (xfc trivial (xfc fl_Chance_17 (xfc trivial (xfc ⟨ml_Chance_73, kd_Folk_setAge⟩ (xfc trivial (xfc fl_Chance_13 (xfc trivial (xfc ⟨ml_Chance_69, kd_Folk_setDay⟩ (xfc trivial (xfc trivial (xfn)))))))))))))))))))))))))))))))))))))))))))))))))))))
theorem s_Chance_casesUnder_0 (C : xCx) (r : List Value) (hp : xHp) (x : Nat) (a1 a2 a3 a4 a5 a6 a7 a8 : Value) : (xV k_Chance_casesUnder C 0 [.ref x, a1, a2, a3, a4, a5, a6, a7, a8] r hp) = (True ∧ xV k_Chance_casesUnder C 1 [.ref x, a1, a2, a3, a4, a5, a6, a7, a8] (.ref x :: r) hp) := xVe _ _ _ _ _ _
theorem s_Chance_casesUnder_1 (a : Nat) (C : xCx) (L r : List Value) (hp : xHp) : (xV k_Chance_casesUnder C 1 L (.ref a :: r) hp) = (xF hp a 1 1 (fun v => xV k_Chance_casesUnder C 4 L (v :: r) hp)) := xVe _ _ _ _ _ _
theorem s_Chance_casesUnder_4 (C : xCx) (r : List Value) (hp : xHp) (x : Nat) (a1 a2 a3 a4 a5 a6 a7 a8 : Value) : (xV k_Chance_casesUnder C 4 [.ref x, a1, a2, a3, a4, a5, a6, a7, a8] r hp) = (True ∧ xV k_Chance_casesUnder C 5 [.ref x, a1, a2, a3, a4, a5, a6, a7, a8] (.ref x :: r) hp) := xVe _ _ _ _ _ _
theorem s_Chance_casesUnder_5 (a : Nat) (C : xCx) (L r : List Value) (hp : xHp) : (xV k_Chance_casesUnder C 5 L (.ref a :: r) hp) = (xF hp a 1 2 (fun v => xV k_Chance_casesUnder C 8 L (v :: r) hp)) := xVe _ _ _ _ _ _
theorem s_Chance_casesUnder_8 (x0 : Int32) (a : Nat) (l : Launch) (d b lo gz n0 s0 : Nat) (Po : Option Value → xHp → Prop) (L r : List Value) (hp : xHp) : (xV k_Chance_casesUnder (l, d + 1, b, lo, gz, n0, s0, m_Chance_casesUnder, Po) 8 L (.int x0 :: .ref a :: r) hp) = (xO hp a 3 ∧ xcs r 8 ∧ xMi l d b lo gz m_Folk_age [.ref a, .int x0] hp (fun x hp' => xV k_Chance_casesUnder (l, d + 1, b, lo, gz, n0, s0, m_Chance_casesUnder, Po) 11 L (.int x :: r) hp')) := xVe _ _ _ _ _ _
theorem s_Chance_casesUnder_11 (C : xCx) (r : List Value) (hp : xHp) (x : Int32) (a0 a1 a2 a3 a4 a5 a6 a7 a8 : Value) : (xV k_Chance_casesUnder C 11 [a0, a1, a2, a3, a4, a5, a6, a7, a8] (.int x :: r) hp) = (4 < 9 ∧ xNl [a0, a1, a2, a3, a4, a5, a6, a7, a8] 4 ∧ xV k_Chance_casesUnder C 13 [a0, a1, a2, a3, .int x, a5, a6, a7, a8] r hp) := xVe _ _ _ _ _ _
theorem s_Chance_casesUnder_13 (C : xCx) (r : List Value) (hp : xHp) (x : Nat) (a1 a2 a3 a4 a5 a6 a7 a8 : Value) : (xV k_Chance_casesUnder C 13 [.ref x, a1, a2, a3, a4, a5, a6, a7, a8] r hp) = (True ∧ xV k_Chance_casesUnder C 14 [.ref x, a1, a2, a3, a4, a5, a6, a7, a8] (.ref x :: r) hp) := xVe _ _ _ _ _ _
theorem s_Chance_casesUnder_14 (a : Nat) (C : xCx) (L r : List Value) (hp : xHp) : (xV k_Chance_casesUnder C 14 L (.ref a :: r) hp) = (xF hp a 1 1 (fun v => xV k_Chance_casesUnder C 17 L (v :: r) hp)) := xVe _ _ _ _ _ _
theorem s_Chance_casesUnder_17 (a : Nat) (l : Launch) (d b lo gz n0 s0 : Nat) (Po : Option Value → xHp → Prop) (L r : List Value) (hp : xHp) : (xV k_Chance_casesUnder (l, d + 1, b, lo, gz, n0, s0, m_Chance_casesUnder, Po) 17 L (.ref a :: r) hp) = (xO hp a 3 ∧ xcs r 8 ∧ xMi l d b lo gz m_Folk_day [.ref a] hp (fun x hp' => xV k_Chance_casesUnder (l, d + 1, b, lo, gz, n0, s0, m_Chance_casesUnder, Po) 20 L (.int x :: r) hp')) := xVe _ _ _ _ _ _
theorem s_Chance_casesUnder_20 (C : xCx) (r : List Value) (hp : xHp) (x : Int32) (a0 a1 a2 a3 a4 a5 a6 a7 a8 : Value) : (xV k_Chance_casesUnder C 20 [a0, a1, a2, a3, a4, a5, a6, a7, a8] (.int x :: r) hp) = (5 < 9 ∧ xNl [a0, a1, a2, a3, a4, a5, a6, a7, a8] 5 ∧ xV k_Chance_casesUnder C 22 [a0, a1, a2, a3, a4, .int x, a6, a7, a8] r hp) := xVe _ _ _ _ _ _
theorem s_Chance_casesUnder_22 (C : xCx) (r : List Value) (hp : xHp) (x : Nat) (a1 a2 a3 a4 a5 a6 a7 a8 : Value) : (xV k_Chance_casesUnder C 22 [.ref x, a1, a2, a3, a4, a5, a6, a7, a8] r hp) = (True ∧ xV k_Chance_casesUnder C 23 [.ref x, a1, a2, a3, a4, a5, a6, a7, a8] (.ref x :: r) hp) := xVe _ _ _ _ _ _
theorem s_Chance_casesUnder_23 (a : Nat) (C : xCx) (L r : List Value) (hp : xHp) : (xV k_Chance_casesUnder C 23 L (.ref a :: r) hp) = (xF hp a 1 0 (fun v => xV k_Chance_casesUnder C 26 L (v :: r) hp)) := xVe _ _ _ _ _ _
theorem s_Chance_casesUnder_26 (C : xCx) (r : List Value) (hp : xHp) (x : Nat) (a1 a2 a3 a4 a5 a6 a7 a8 : Value) : (xV k_Chance_casesUnder C 26 [.ref x, a1, a2, a3, a4, a5, a6, a7, a8] r hp) = (True ∧ xV k_Chance_casesUnder C 27 [.ref x, a1, a2, a3, a4, a5, a6, a7, a8] (.ref x :: r) hp) := xVe _ _ _ _ _ _
theorem s_Chance_casesUnder_27 (a : Nat) (C : xCx) (L r : List Value) (hp : xHp) : (xV k_Chance_casesUnder C 27 L (.ref a :: r) hp) = (xF hp a 1 1 (fun v => xV k_Chance_casesUnder C 30 L (v :: r) hp)) := xVe _ _ _ _ _ _
theorem s_Chance_casesUnder_30 (C : xCx) (r : List Value) (hp : xHp) (x : Nat) (a1 a2 a3 a4 a5 a6 a7 a8 : Value) : (xV k_Chance_casesUnder C 30 [.ref x, a1, a2, a3, a4, a5, a6, a7, a8] r hp) = (True ∧ xV k_Chance_casesUnder C 31 [.ref x, a1, a2, a3, a4, a5, a6, a7, a8] (.ref x :: r) hp) := xVe _ _ _ _ _ _
theorem s_Chance_casesUnder_31 (a : Nat) (C : xCx) (L r : List Value) (hp : xHp) : (xV k_Chance_casesUnder C 31 L (.ref a :: r) hp) = (xF hp a 1 2 (fun v => xV k_Chance_casesUnder C 34 L (v :: r) hp)) := xVe _ _ _ _ _ _
theorem s_Chance_casesUnder_34 (C : xCx) (r : List Value) (hp : xHp) (x : Int32) (a0 a2 a3 a4 a5 a6 a7 a8 : Value) : (xV k_Chance_casesUnder C 34 [a0, .int x, a2, a3, a4, a5, a6, a7, a8] r hp) = (xV k_Chance_casesUnder C 35 [a0, .int x, a2, a3, a4, a5, a6, a7, a8] (.int x :: r) hp) := xVe _ _ _ _ _ _
theorem s_Chance_casesUnder_35 (x0 : Nat) (x1 : Int32) (x2 : Int32) (a : Nat) (l : Launch) (d b lo gz n0 s0 : Nat) (Po : Option Value → xHp → Prop) (L r : List Value) (hp : xHp) : (xV k_Chance_casesUnder (l, d + 1, b, lo, gz, n0, s0, m_Chance_casesUnder, Po) 35 L (.int x2 :: .int x1 :: .ref x0 :: .ref a :: r) hp) = (xO hp a 9 ∧ xcs r 8 ∧ xMi l d b lo gz m_Sun_hoursUnder [.ref a, .ref x0, .int x1, .int x2] hp (fun x hp' => xV k_Chance_casesUnder (l, d + 1, b, lo, gz, n0, s0, m_Chance_casesUnder, Po) 38 L (.int x :: r) hp')) := xVe _ _ _ _ _ _
theorem s_Chance_casesUnder_38 (C : xCx) (r : List Value) (hp : xHp) (x : Int32) (a0 a1 a2 a3 a4 a5 a6 a7 a8 : Value) : (xV k_Chance_casesUnder C 38 [a0, a1, a2, a3, a4, a5, a6, a7, a8] (.int x :: r) hp) = (6 < 9 ∧ xNl [a0, a1, a2, a3, a4, a5, a6, a7, a8] 6 ∧ xV k_Chance_casesUnder C 40 [a0, a1, a2, a3, a4, a5, .int x, a7, a8] r hp) := xVe _ _ _ _ _ _
theorem s_Chance_casesUnder_40 (C : xCx) (r : List Value) (hp : xHp) (x : Nat) (a1 a2 a3 a4 a5 a6 a7 a8 : Value) : (xV k_Chance_casesUnder C 40 [.ref x, a1, a2, a3, a4, a5, a6, a7, a8] r hp) = (True ∧ xV k_Chance_casesUnder C 41 [.ref x, a1, a2, a3, a4, a5, a6, a7, a8] (.ref x :: r) hp) := xVe _ _ _ _ _ _
theorem s_Chance_casesUnder_41 (a : Nat) (C : xCx) (L r : List Value) (hp : xHp) : (xV k_Chance_casesUnder C 41 L (.ref a :: r) hp) = (xF hp a 1 1 (fun v => xV k_Chance_casesUnder C 44 L (v :: r) hp)) := xVe _ _ _ _ _ _
theorem s_Chance_casesUnder_44 (C : xCx) (r : List Value) (hp : xHp) (x : Nat) (a1 a2 a3 a4 a5 a6 a7 a8 : Value) : (xV k_Chance_casesUnder C 44 [.ref x, a1, a2, a3, a4, a5, a6, a7, a8] r hp) = (True ∧ xV k_Chance_casesUnder C 45 [.ref x, a1, a2, a3, a4, a5, a6, a7, a8] (.ref x :: r) hp) := xVe _ _ _ _ _ _
theorem s_Chance_casesUnder_45 (a : Nat) (C : xCx) (L r : List Value) (hp : xHp) : (xV k_Chance_casesUnder C 45 L (.ref a :: r) hp) = (xF hp a 1 2 (fun v => xV k_Chance_casesUnder C 48 L (v :: r) hp)) := xVe _ _ _ _ _ _
theorem s_Chance_casesUnder_48 (C : xCx) (r : List Value) (hp : xHp) (x : Int32) (a0 a1 a2 a3 a4 a5 a7 a8 : Value) : (xV k_Chance_casesUnder C 48 [a0, a1, a2, a3, a4, a5, .int x, a7, a8] r hp) = (xV k_Chance_casesUnder C 50 [a0, a1, a2, a3, a4, a5, .int x, a7, a8] (.int x :: r) hp) := xVe _ _ _ _ _ _
theorem s_Chance_casesUnder_50 (x0 : Int32) (x1 : Int32) (a : Nat) (l : Launch) (d b lo gz n0 s0 : Nat) (Po : Option Value → xHp → Prop) (L r : List Value) (hp : xHp) : (xV k_Chance_casesUnder (l, d + 1, b, lo, gz, n0, s0, m_Chance_casesUnder, Po) 50 L (.int x1 :: .int x0 :: .ref a :: r) hp) = (xO hp a 3 ∧ xcs r 8 ∧ xMv l d b lo gz m_Folk_grow [.ref a, .int x0, .int x1] hp (fun hp' => xV k_Chance_casesUnder (l, d + 1, b, lo, gz, n0, s0, m_Chance_casesUnder, Po) 53 L r hp')) := xVe _ _ _ _ _ _
theorem s_Chance_casesUnder_53 (C : xCx) (r : List Value) (hp : xHp) (x : Nat) (a1 a2 a3 a4 a5 a6 a7 a8 : Value) : (xV k_Chance_casesUnder C 53 [.ref x, a1, a2, a3, a4, a5, a6, a7, a8] r hp) = (True ∧ xV k_Chance_casesUnder C 54 [.ref x, a1, a2, a3, a4, a5, a6, a7, a8] (.ref x :: r) hp) := xVe _ _ _ _ _ _
theorem s_Chance_casesUnder_54 (a : Nat) (C : xCx) (L r : List Value) (hp : xHp) : (xV k_Chance_casesUnder C 54 L (.ref a :: r) hp) = (xF hp a 1 1 (fun v => xV k_Chance_casesUnder C 57 L (v :: r) hp)) := xVe _ _ _ _ _ _
theorem s_Chance_casesUnder_57 (C : xCx) (r : List Value) (hp : xHp) (x : Int32) (a0 a1 a2 a3 a4 a6 a7 a8 : Value) : (xV k_Chance_casesUnder C 57 [a0, a1, a2, a3, a4, .int x, a6, a7, a8] r hp) = (xV k_Chance_casesUnder C 59 [a0, a1, a2, a3, a4, .int x, a6, a7, a8] (.int x :: r) hp) := xVe _ _ _ _ _ _
theorem s_Chance_casesUnder_59  (C : xCx) (L r : List Value) (hp : xHp) : (xV k_Chance_casesUnder C 59 L (r) hp) = (xV k_Chance_casesUnder C 60 L (.int (1) :: r) hp) := xVe _ _ _ _ _ _
theorem s_Chance_casesUnder_60 (x y : Int32) (C : xCx) (L r : List Value) (hp : xHp) : (xV k_Chance_casesUnder C 60 L (.int y :: .int x :: r) hp) = (xV k_Chance_casesUnder C 61 L (.int (x + y) :: r) hp) := xVe _ _ _ _ _ _
theorem s_Chance_casesUnder_61 (x0 : Int32) (a : Nat) (l : Launch) (d b lo gz n0 s0 : Nat) (Po : Option Value → xHp → Prop) (L r : List Value) (hp : xHp) : (xV k_Chance_casesUnder (l, d + 1, b, lo, gz, n0, s0, m_Chance_casesUnder, Po) 61 L (.int x0 :: .ref a :: r) hp) = (xO hp a 3 ∧ xcs r 8 ∧ xMv l d b lo gz m_Folk_setDay [.ref a, .int x0] hp (fun hp' => xV k_Chance_casesUnder (l, d + 1, b, lo, gz, n0, s0, m_Chance_casesUnder, Po) 64 L r hp')) := xVe _ _ _ _ _ _
theorem s_Chance_casesUnder_64 (C : xCx) (r : List Value) (hp : xHp) (x : Nat) (a1 a2 a3 a4 a5 a6 a7 a8 : Value) : (xV k_Chance_casesUnder C 64 [.ref x, a1, a2, a3, a4, a5, a6, a7, a8] r hp) = (True ∧ xV k_Chance_casesUnder C 65 [.ref x, a1, a2, a3, a4, a5, a6, a7, a8] (.ref x :: r) hp) := xVe _ _ _ _ _ _
theorem s_Chance_casesUnder_65 (C : xCx) (r : List Value) (hp : xHp) (x : Int32) (a0 a1 a3 a4 a5 a6 a7 a8 : Value) : (xV k_Chance_casesUnder C 65 [a0, a1, .int x, a3, a4, a5, a6, a7, a8] r hp) = (xV k_Chance_casesUnder C 66 [a0, a1, .int x, a3, a4, a5, a6, a7, a8] (.int x :: r) hp) := xVe _ _ _ _ _ _
theorem s_Chance_casesUnder_66  (C : xCx) (L r : List Value) (hp : xHp) : (xV k_Chance_casesUnder C 66 L (r) hp) = (xV k_Chance_casesUnder C 67 L (.int (1) :: r) hp) := xVe _ _ _ _ _ _
theorem s_Chance_casesUnder_67 (x y : Int32) (C : xCx) (L r : List Value) (hp : xHp) : (xV k_Chance_casesUnder C 67 L (.int y :: .int x :: r) hp) = (xV k_Chance_casesUnder C 68 L (.int (x - y) :: r) hp) := xVe _ _ _ _ _ _
theorem s_Chance_casesUnder_68 (C : xCx) (r : List Value) (hp : xHp) (x : Int32) (a0 a1 a2 a4 a5 a6 a7 a8 : Value) : (xV k_Chance_casesUnder C 68 [a0, a1, a2, .int x, a4, a5, a6, a7, a8] r hp) = (xV k_Chance_casesUnder C 69 [a0, a1, a2, .int x, a4, a5, a6, a7, a8] (.int x :: r) hp) := xVe _ _ _ _ _ _
theorem s_Chance_casesUnder_69 (C : xCx) (r : List Value) (hp : xHp) (x : Int32) (a0 a1 a2 a3 a4 a5 a7 a8 : Value) : (xV k_Chance_casesUnder C 69 [a0, a1, a2, a3, a4, a5, .int x, a7, a8] r hp) = (xV k_Chance_casesUnder C 71 [a0, a1, a2, a3, a4, a5, .int x, a7, a8] (.int x :: r) hp) := xVe _ _ _ _ _ _
theorem s_Chance_casesUnder_71 (x y : Int32) (C : xCx) (L r : List Value) (hp : xHp) : (xV k_Chance_casesUnder C 71 L (.int y :: .int x :: r) hp) = (xV k_Chance_casesUnder C 72 L (.int (x + y) :: r) hp) := xVe _ _ _ _ _ _
theorem s_Chance_casesUnder_72 (x0 : Int32) (x1 : Int32) (a : Nat) (l : Launch) (d b lo gz n0 s0 : Nat) (Po : Option Value → xHp → Prop) (L r : List Value) (hp : xHp) : (xV k_Chance_casesUnder (l, d + 1, b, lo, gz, n0, s0, m_Chance_casesUnder, Po) 72 L (.int x1 :: .int x0 :: .ref a :: r) hp) = (xO hp a 1 ∧ xcs r 8 ∧ xMl l d b lo gz m_Chance_cases [.ref a, .int x0, .int x1] hp (fun x hp' => xV k_Chance_casesUnder (l, d + 1, b, lo, gz, n0, s0, m_Chance_casesUnder, Po) 75 L (.long x :: r) hp')) := xVe _ _ _ _ _ _
theorem s_Chance_casesUnder_75 (C : xCx) (r : List Value) (hp : xHp) (x : Int64) (a0 a1 a2 a3 a4 a5 a6 a7 a8 : Value) : (xV k_Chance_casesUnder C 75 [a0, a1, a2, a3, a4, a5, a6, a7, a8] (.long x :: r) hp) = (7 + 1 < 9 ∧ xNl [a0, a1, a2, a3, a4, a5, a6, a7, a8] 7 ∧ xV k_Chance_casesUnder C 77 [a0, a1, a2, a3, a4, a5, a6, .long x, .retAddr 0] r hp) := xVe _ _ _ _ _ _
theorem s_Chance_casesUnder_77 (C : xCx) (r : List Value) (hp : xHp) (x : Nat) (a1 a2 a3 a4 a5 a6 a7 a8 : Value) : (xV k_Chance_casesUnder C 77 [.ref x, a1, a2, a3, a4, a5, a6, a7, a8] r hp) = (True ∧ xV k_Chance_casesUnder C 78 [.ref x, a1, a2, a3, a4, a5, a6, a7, a8] (.ref x :: r) hp) := xVe _ _ _ _ _ _
theorem s_Chance_casesUnder_78 (a : Nat) (C : xCx) (L r : List Value) (hp : xHp) : (xV k_Chance_casesUnder C 78 L (.ref a :: r) hp) = (xF hp a 1 1 (fun v => xV k_Chance_casesUnder C 81 L (v :: r) hp)) := xVe _ _ _ _ _ _
theorem s_Chance_casesUnder_81 (C : xCx) (r : List Value) (hp : xHp) (x : Nat) (a1 a2 a3 a4 a5 a6 a7 a8 : Value) : (xV k_Chance_casesUnder C 81 [.ref x, a1, a2, a3, a4, a5, a6, a7, a8] r hp) = (True ∧ xV k_Chance_casesUnder C 82 [.ref x, a1, a2, a3, a4, a5, a6, a7, a8] (.ref x :: r) hp) := xVe _ _ _ _ _ _
theorem s_Chance_casesUnder_82 (a : Nat) (C : xCx) (L r : List Value) (hp : xHp) : (xV k_Chance_casesUnder C 82 L (.ref a :: r) hp) = (xF hp a 1 2 (fun v => xV k_Chance_casesUnder C 85 L (v :: r) hp)) := xVe _ _ _ _ _ _
theorem s_Chance_casesUnder_85 (C : xCx) (r : List Value) (hp : xHp) (x : Int32) (a0 a1 a2 a3 a5 a6 a7 a8 : Value) : (xV k_Chance_casesUnder C 85 [a0, a1, a2, a3, .int x, a5, a6, a7, a8] r hp) = (xV k_Chance_casesUnder C 87 [a0, a1, a2, a3, .int x, a5, a6, a7, a8] (.int x :: r) hp) := xVe _ _ _ _ _ _
theorem s_Chance_casesUnder_87 (x0 : Int32) (x1 : Int32) (a : Nat) (l : Launch) (d b lo gz n0 s0 : Nat) (Po : Option Value → xHp → Prop) (L r : List Value) (hp : xHp) : (xV k_Chance_casesUnder (l, d + 1, b, lo, gz, n0, s0, m_Chance_casesUnder, Po) 87 L (.int x1 :: .int x0 :: .ref a :: r) hp) = (xO hp a 3 ∧ xcs r 8 ∧ xMv l d b lo gz m_Folk_setAge [.ref a, .int x0, .int x1] hp (fun hp' => xV k_Chance_casesUnder (l, d + 1, b, lo, gz, n0, s0, m_Chance_casesUnder, Po) 90 L r hp')) := xVe _ _ _ _ _ _
theorem s_Chance_casesUnder_90 (C : xCx) (r : List Value) (hp : xHp) (x : Nat) (a1 a2 a3 a4 a5 a6 a7 a8 : Value) : (xV k_Chance_casesUnder C 90 [.ref x, a1, a2, a3, a4, a5, a6, a7, a8] r hp) = (True ∧ xV k_Chance_casesUnder C 91 [.ref x, a1, a2, a3, a4, a5, a6, a7, a8] (.ref x :: r) hp) := xVe _ _ _ _ _ _
theorem s_Chance_casesUnder_91 (a : Nat) (C : xCx) (L r : List Value) (hp : xHp) : (xV k_Chance_casesUnder C 91 L (.ref a :: r) hp) = (xF hp a 1 1 (fun v => xV k_Chance_casesUnder C 94 L (v :: r) hp)) := xVe _ _ _ _ _ _
theorem s_Chance_casesUnder_94 (C : xCx) (r : List Value) (hp : xHp) (x : Int32) (a0 a1 a2 a3 a4 a6 a7 a8 : Value) : (xV k_Chance_casesUnder C 94 [a0, a1, a2, a3, a4, .int x, a6, a7, a8] r hp) = (xV k_Chance_casesUnder C 96 [a0, a1, a2, a3, a4, .int x, a6, a7, a8] (.int x :: r) hp) := xVe _ _ _ _ _ _
theorem s_Chance_casesUnder_96 (x0 : Int32) (a : Nat) (l : Launch) (d b lo gz n0 s0 : Nat) (Po : Option Value → xHp → Prop) (L r : List Value) (hp : xHp) : (xV k_Chance_casesUnder (l, d + 1, b, lo, gz, n0, s0, m_Chance_casesUnder, Po) 96 L (.int x0 :: .ref a :: r) hp) = (xO hp a 3 ∧ xcs r 8 ∧ xMv l d b lo gz m_Folk_setDay [.ref a, .int x0] hp (fun hp' => xV k_Chance_casesUnder (l, d + 1, b, lo, gz, n0, s0, m_Chance_casesUnder, Po) 99 L r hp')) := xVe _ _ _ _ _ _
theorem s_Chance_casesUnder_99 (C : xCx) (r : List Value) (hp : xHp) (x : Int64) (a0 a1 a2 a3 a4 a5 a6 a8 : Value) : (xV k_Chance_casesUnder C 99 [a0, a1, a2, a3, a4, a5, a6, .long x, a8] r hp) = (xV k_Chance_casesUnder C 101 [a0, a1, a2, a3, a4, a5, a6, .long x, a8] (.long x :: r) hp) := xVe _ _ _ _ _ _
theorem s_Chance_casesUnder_101 (v : Int64) (l : Launch) (d b lo gz n0 s0 : Nat) (Po : Option Value → xHp → Prop) (L : List Value) (hp : xHp) : (xV k_Chance_casesUnder (l, d, b, lo, gz, n0, s0, m_Chance_casesUnder, Po) 101 L [.long v] hp) = (Po (some (.long v)) hp) := xVe _ _ _ _ _ _
def k_Chance_commonDivisor : List xEC := [
  (0, .lload_n 2, 1, 0, 0, 0, m_x),
  (1, .lstore 4, 3, 0, 0, 0, m_x),
  (3, .lload_n 0, 4, 0, 0, 0, m_x),
  (4, .lstore 6, 6, 0, 0, 0, m_x),
  (6, .iconst 0, 7, 0, 0, 0, m_x),
  (7, .istore 8, 9, 0, 0, 0, m_x),
  (9, .iload 8, 11, 0, 0, 0, m_x),
  (11, .bipush 100, 13, 0, 0, 0, m_x),
  (13, .if_icmp .ge 31, 16, 0, 44, 0, m_x),
  (16, .lload 6, 18, 0, 0, 0, m_x),
  (18, .lconst 0, 19, 0, 0, 0, m_x),
  (19, .lcmp, 20, 0, 0, 0, m_x),
  (20, .ifCond .eq 24, 23, 0, 44, 0, m_x),
  (23, .lload 4, 25, 0, 0, 0, m_x),
  (25, .lload 6, 27, 0, 0, 0, m_x),
  (27, .lrem, 28, 0, 0, 0, m_x),
  (28, .lstore 9, 30, 0, 0, 0, m_x),
  (30, .lload 6, 32, 0, 0, 0, m_x),
  (32, .lstore 4, 34, 0, 0, 0, m_x),
  (34, .lload 9, 36, 0, 0, 0, m_x),
  (36, .lstore 6, 38, 0, 0, 0, m_x),
  (38, .iinc 8 1, 41, 0, 0, 0, m_x),
  (41, .goto (-32), 44, 0, 9, 0, m_x),
  (44, .lload 4, 46, 0, 0, 0, m_x),
  (46, .lreturn, 47, 0, 0, 0, m_x)]
theorem dc_Chance_commonDivisor : ∀ E ∈ k_Chance_commonDivisor, xDc m_Chance_commonDivisor E := by decide +kernel
set_option maxRecDepth 20000 in
theorem ok_Chance_commonDivisor : ∀ E ∈ k_Chance_commonDivisor, xOk m_Chance_commonDivisor E := xok_of dc_Chance_commonDivisor (xfc trivial (xfc trivial (xfc trivial (xfc trivial (xfc trivial (xfc trivial (xfc trivial (xfc trivial (xfc (show ((13 : Nat) : Int) + (31) = ((44 : Nat) : Int) from by decide) (xfc trivial (xfc trivial (xfc trivial (xfc (show ((20 : Nat) : Int) + (24) = ((44 : Nat) : Int) from by decide) (xfc trivial (xfc trivial (xfc trivial (xfc trivial (xfc trivial (xfc trivial (xfc trivial (xfc trivial (xfc trivial (xfc (show ((41 : Nat) : Int) + (-32) = ((9 : Nat) : Int) from by decide) (xfc trivial (xfc trivial (xfn))))))))))))))))))))))))))
theorem s_Chance_commonDivisor_0 (C : xCx) (r : List Value) (hp : xHp) (x : Int64) (a0 a1 a3 a4 a5 a6 a7 a8 a9 a10 : Value) : (xV k_Chance_commonDivisor C 0 [a0, a1, .long x, a3, a4, a5, a6, a7, a8, a9, a10] r hp) = (xV k_Chance_commonDivisor C 1 [a0, a1, .long x, a3, a4, a5, a6, a7, a8, a9, a10] (.long x :: r) hp) := xVe _ _ _ _ _ _
theorem s_Chance_commonDivisor_1 (C : xCx) (r : List Value) (hp : xHp) (x : Int64) (a0 a1 a2 a3 a4 a5 a6 a7 a8 a9 a10 : Value) : (xV k_Chance_commonDivisor C 1 [a0, a1, a2, a3, a4, a5, a6, a7, a8, a9, a10] (.long x :: r) hp) = (4 + 1 < 11 ∧ xNl [a0, a1, a2, a3, a4, a5, a6, a7, a8, a9, a10] 4 ∧ xV k_Chance_commonDivisor C 3 [a0, a1, a2, a3, .long x, .retAddr 0, a6, a7, a8, a9, a10] r hp) := xVe _ _ _ _ _ _
theorem s_Chance_commonDivisor_3 (C : xCx) (r : List Value) (hp : xHp) (x : Int64) (a1 a2 a3 a4 a5 a6 a7 a8 a9 a10 : Value) : (xV k_Chance_commonDivisor C 3 [.long x, a1, a2, a3, a4, a5, a6, a7, a8, a9, a10] r hp) = (xV k_Chance_commonDivisor C 4 [.long x, a1, a2, a3, a4, a5, a6, a7, a8, a9, a10] (.long x :: r) hp) := xVe _ _ _ _ _ _
theorem s_Chance_commonDivisor_4 (C : xCx) (r : List Value) (hp : xHp) (x : Int64) (a0 a1 a2 a3 a4 a5 a6 a7 a8 a9 a10 : Value) : (xV k_Chance_commonDivisor C 4 [a0, a1, a2, a3, a4, a5, a6, a7, a8, a9, a10] (.long x :: r) hp) = (6 + 1 < 11 ∧ xNl [a0, a1, a2, a3, a4, a5, a6, a7, a8, a9, a10] 6 ∧ xV k_Chance_commonDivisor C 6 [a0, a1, a2, a3, a4, a5, .long x, .retAddr 0, a8, a9, a10] r hp) := xVe _ _ _ _ _ _
theorem s_Chance_commonDivisor_6  (C : xCx) (L r : List Value) (hp : xHp) : (xV k_Chance_commonDivisor C 6 L (r) hp) = (xV k_Chance_commonDivisor C 7 L (.int (0) :: r) hp) := xVe _ _ _ _ _ _
theorem s_Chance_commonDivisor_7 (C : xCx) (r : List Value) (hp : xHp) (x : Int32) (a0 a1 a2 a3 a4 a5 a6 a7 a8 a9 a10 : Value) : (xV k_Chance_commonDivisor C 7 [a0, a1, a2, a3, a4, a5, a6, a7, a8, a9, a10] (.int x :: r) hp) = (8 < 11 ∧ xNl [a0, a1, a2, a3, a4, a5, a6, a7, a8, a9, a10] 8 ∧ xV k_Chance_commonDivisor C 9 [a0, a1, a2, a3, a4, a5, a6, a7, .int x, a9, a10] r hp) := xVe _ _ _ _ _ _
theorem s_Chance_commonDivisor_9 (C : xCx) (r : List Value) (hp : xHp) (x : Int32) (a0 a1 a2 a3 a4 a5 a6 a7 a9 a10 : Value) : (xV k_Chance_commonDivisor C 9 [a0, a1, a2, a3, a4, a5, a6, a7, .int x, a9, a10] r hp) = (xV k_Chance_commonDivisor C 11 [a0, a1, a2, a3, a4, a5, a6, a7, .int x, a9, a10] (.int x :: r) hp) := xVe _ _ _ _ _ _
theorem s_Chance_commonDivisor_11  (C : xCx) (L r : List Value) (hp : xHp) : (xV k_Chance_commonDivisor C 11 L (r) hp) = (xV k_Chance_commonDivisor C 13 L (.int (100) :: r) hp) := xVe _ _ _ _ _ _
theorem s_Chance_commonDivisor_13 (x y : Int32) (C : xCx) (L r : List Value) (hp : xHp) : (xV k_Chance_commonDivisor C 13 L (.int y :: .int x :: r) hp) = (((y ≤ x → xV k_Chance_commonDivisor C 44 L r hp) ∧ (¬ y ≤ x → xV k_Chance_commonDivisor C 16 L r hp))) := xVe _ _ _ _ _ _
theorem s_Chance_commonDivisor_16 (C : xCx) (r : List Value) (hp : xHp) (x : Int64) (a0 a1 a2 a3 a4 a5 a7 a8 a9 a10 : Value) : (xV k_Chance_commonDivisor C 16 [a0, a1, a2, a3, a4, a5, .long x, a7, a8, a9, a10] r hp) = (xV k_Chance_commonDivisor C 18 [a0, a1, a2, a3, a4, a5, .long x, a7, a8, a9, a10] (.long x :: r) hp) := xVe _ _ _ _ _ _
theorem s_Chance_commonDivisor_18  (C : xCx) (L r : List Value) (hp : xHp) : (xV k_Chance_commonDivisor C 18 L (r) hp) = (xV k_Chance_commonDivisor C 19 L (.long 0 :: r) hp) := xVe _ _ _ _ _ _
theorem s_Chance_commonDivisor_19 (x y : Int64) (C : xCx) (L r : List Value) (hp : xHp) : (xV k_Chance_commonDivisor C 19 L (.long y :: .long x :: r) hp) = (xV k_Chance_commonDivisor C 20 L (.int (lg_cmp x y) :: r) hp) := xVe _ _ _ _ _ _
theorem s_Chance_commonDivisor_20 (x : Int32) (C : xCx) (L r : List Value) (hp : xHp) : (xV k_Chance_commonDivisor C 20 L (.int x :: r) hp) = (((x = 0 → xV k_Chance_commonDivisor C 44 L r hp) ∧ (¬ x = 0 → xV k_Chance_commonDivisor C 23 L r hp))) := xVe _ _ _ _ _ _
theorem s_Chance_commonDivisor_23 (C : xCx) (r : List Value) (hp : xHp) (x : Int64) (a0 a1 a2 a3 a5 a6 a7 a8 a9 a10 : Value) : (xV k_Chance_commonDivisor C 23 [a0, a1, a2, a3, .long x, a5, a6, a7, a8, a9, a10] r hp) = (xV k_Chance_commonDivisor C 25 [a0, a1, a2, a3, .long x, a5, a6, a7, a8, a9, a10] (.long x :: r) hp) := xVe _ _ _ _ _ _
theorem s_Chance_commonDivisor_25 (C : xCx) (r : List Value) (hp : xHp) (x : Int64) (a0 a1 a2 a3 a4 a5 a7 a8 a9 a10 : Value) : (xV k_Chance_commonDivisor C 25 [a0, a1, a2, a3, a4, a5, .long x, a7, a8, a9, a10] r hp) = (xV k_Chance_commonDivisor C 27 [a0, a1, a2, a3, a4, a5, .long x, a7, a8, a9, a10] (.long x :: r) hp) := xVe _ _ _ _ _ _
theorem s_Chance_commonDivisor_27 (x y : Int64) (C : xCx) (L r : List Value) (hp : xHp) : (xV k_Chance_commonDivisor C 27 L (.long y :: .long x :: r) hp) = (¬ y = 0 ∧ xV k_Chance_commonDivisor C 28 L (.long (x - x / y * y) :: r) hp) := xVe _ _ _ _ _ _
theorem s_Chance_commonDivisor_28 (C : xCx) (r : List Value) (hp : xHp) (x : Int64) (a0 a1 a2 a3 a4 a5 a6 a7 a8 a9 a10 : Value) : (xV k_Chance_commonDivisor C 28 [a0, a1, a2, a3, a4, a5, a6, a7, a8, a9, a10] (.long x :: r) hp) = (9 + 1 < 11 ∧ xNl [a0, a1, a2, a3, a4, a5, a6, a7, a8, a9, a10] 9 ∧ xV k_Chance_commonDivisor C 30 [a0, a1, a2, a3, a4, a5, a6, a7, a8, .long x, .retAddr 0] r hp) := xVe _ _ _ _ _ _
theorem s_Chance_commonDivisor_30 (C : xCx) (r : List Value) (hp : xHp) (x : Int64) (a0 a1 a2 a3 a4 a5 a7 a8 a9 a10 : Value) : (xV k_Chance_commonDivisor C 30 [a0, a1, a2, a3, a4, a5, .long x, a7, a8, a9, a10] r hp) = (xV k_Chance_commonDivisor C 32 [a0, a1, a2, a3, a4, a5, .long x, a7, a8, a9, a10] (.long x :: r) hp) := xVe _ _ _ _ _ _
theorem s_Chance_commonDivisor_32 (C : xCx) (r : List Value) (hp : xHp) (x : Int64) (a0 a1 a2 a3 a4 a5 a6 a7 a8 a9 a10 : Value) : (xV k_Chance_commonDivisor C 32 [a0, a1, a2, a3, a4, a5, a6, a7, a8, a9, a10] (.long x :: r) hp) = (4 + 1 < 11 ∧ xNl [a0, a1, a2, a3, a4, a5, a6, a7, a8, a9, a10] 4 ∧ xV k_Chance_commonDivisor C 34 [a0, a1, a2, a3, .long x, .retAddr 0, a6, a7, a8, a9, a10] r hp) := xVe _ _ _ _ _ _
theorem s_Chance_commonDivisor_34 (C : xCx) (r : List Value) (hp : xHp) (x : Int64) (a0 a1 a2 a3 a4 a5 a6 a7 a8 a10 : Value) : (xV k_Chance_commonDivisor C 34 [a0, a1, a2, a3, a4, a5, a6, a7, a8, .long x, a10] r hp) = (xV k_Chance_commonDivisor C 36 [a0, a1, a2, a3, a4, a5, a6, a7, a8, .long x, a10] (.long x :: r) hp) := xVe _ _ _ _ _ _
theorem s_Chance_commonDivisor_36 (C : xCx) (r : List Value) (hp : xHp) (x : Int64) (a0 a1 a2 a3 a4 a5 a6 a7 a8 a9 a10 : Value) : (xV k_Chance_commonDivisor C 36 [a0, a1, a2, a3, a4, a5, a6, a7, a8, a9, a10] (.long x :: r) hp) = (6 + 1 < 11 ∧ xNl [a0, a1, a2, a3, a4, a5, a6, a7, a8, a9, a10] 6 ∧ xV k_Chance_commonDivisor C 38 [a0, a1, a2, a3, a4, a5, .long x, .retAddr 0, a8, a9, a10] r hp) := xVe _ _ _ _ _ _
theorem s_Chance_commonDivisor_38 (C : xCx) (r : List Value) (hp : xHp) (x : Int32) (a0 a1 a2 a3 a4 a5 a6 a7 a9 a10 : Value) : (xV k_Chance_commonDivisor C 38 [a0, a1, a2, a3, a4, a5, a6, a7, .int x, a9, a10] r hp) = (xNl [a0, a1, a2, a3, a4, a5, a6, a7, .int x, a9, a10] 8 ∧ xV k_Chance_commonDivisor C 41 [a0, a1, a2, a3, a4, a5, a6, a7, .int (x + (1)), a9, a10] r hp) := xVe _ _ _ _ _ _
theorem s_Chance_commonDivisor_41 (C : xCx) (L r : List Value) (hp : xHp) : (xV k_Chance_commonDivisor C 41 L r hp) = (xV k_Chance_commonDivisor C 9 L r hp) := xVe _ _ _ _ _ _
theorem s_Chance_commonDivisor_44 (C : xCx) (r : List Value) (hp : xHp) (x : Int64) (a0 a1 a2 a3 a5 a6 a7 a8 a9 a10 : Value) : (xV k_Chance_commonDivisor C 44 [a0, a1, a2, a3, .long x, a5, a6, a7, a8, a9, a10] r hp) = (xV k_Chance_commonDivisor C 46 [a0, a1, a2, a3, .long x, a5, a6, a7, a8, a9, a10] (.long x :: r) hp) := xVe _ _ _ _ _ _
theorem s_Chance_commonDivisor_46 (v : Int64) (l : Launch) (d b lo gz n0 s0 : Nat) (Po : Option Value → xHp → Prop) (L : List Value) (hp : xHp) : (xV k_Chance_commonDivisor (l, d, b, lo, gz, n0, s0, m_Chance_commonDivisor, Po) 46 L [.long v] hp) = (Po (some (.long v)) hp) := xVe _ _ _ _ _ _
def k_Sun_hoursOfAll : List xEC := [
  (0, .iconst 0, 1, 0, 0, 0, m_x),
  (1, .istore_n 2, 2, 0, 0, 0, m_x),
  (2, .iconst 0, 3, 0, 0, 0, m_x),
  (3, .istore_n 3, 4, 0, 0, 0, m_x),
  (4, .iload_n 3, 5, 0, 0, 0, m_x),
  (5, .aload_n 1, 6, 0, 0, 0, m_x),
  (6, .invokevirtual 66, 9, 3, 0, 0, m_Folk_size),
  (9, .if_icmp .ge 18, 12, 0, 27, 0, m_x),
  (12, .iload_n 2, 13, 0, 0, 0, m_x),
  (13, .aload_n 0, 14, 0, 0, 0, m_x),
  (14, .aload_n 1, 15, 0, 0, 0, m_x),
  (15, .iload_n 3, 16, 0, 0, 0, m_x),
  (16, .invokevirtual 69, 19, 9, 0, 0, m_Sun_hoursOf),
  (19, .iadd, 20, 0, 0, 0, m_x),
  (20, .istore_n 2, 21, 0, 0, 0, m_x),
  (21, .iinc 3 1, 24, 0, 0, 0, m_x),
  (24, .goto (-20), 27, 0, 4, 0, m_x),
  (27, .iload_n 2, 28, 0, 0, 0, m_x),
  (28, .ireturn, 29, 0, 0, 0, m_x)]
theorem dc_Sun_hoursOfAll : ∀ E ∈ k_Sun_hoursOfAll, xDc m_Sun_hoursOfAll E := by decide +kernel
set_option maxRecDepth 20000 in
theorem ok_Sun_hoursOfAll : ∀ E ∈ k_Sun_hoursOfAll, xOk m_Sun_hoursOfAll E := xok_of dc_Sun_hoursOfAll (xfc trivial (xfc trivial (xfc trivial (xfc trivial (xfc trivial (xfc trivial (xfc ⟨ml_Sun_66, kd_Folk_size⟩ (xfc (show ((9 : Nat) : Int) + (18) = ((27 : Nat) : Int) from by decide) (xfc trivial (xfc trivial (xfc trivial (xfc trivial (xfc ⟨ml_Sun_69, kd_Sun_hoursOf⟩ (xfc trivial (xfc trivial (xfc trivial (xfc (show ((24 : Nat) : Int) + (-20) = ((4 : Nat) : Int) from by decide) (xfc trivial (xfc trivial (xfn))))))))))))))))))))
theorem s_Sun_hoursOfAll_0  (C : xCx) (L r : List Value) (hp : xHp) : (xV k_Sun_hoursOfAll C 0 L (r) hp) = (xV k_Sun_hoursOfAll C 1 L (.int (0) :: r) hp) := xVe _ _ _ _ _ _
theorem s_Sun_hoursOfAll_1 (C : xCx) (r : List Value) (hp : xHp) (x : Int32) (a0 a1 a2 a3 : Value) : (xV k_Sun_hoursOfAll C 1 [a0, a1, a2, a3] (.int x :: r) hp) = (2 < 4 ∧ xNl [a0, a1, a2, a3] 2 ∧ xV k_Sun_hoursOfAll C 2 [a0, a1, .int x, a3] r hp) := xVe _ _ _ _ _ _
theorem s_Sun_hoursOfAll_2  (C : xCx) (L r : List Value) (hp : xHp) : (xV k_Sun_hoursOfAll C 2 L (r) hp) = (xV k_Sun_hoursOfAll C 3 L (.int (0) :: r) hp) := xVe _ _ _ _ _ _
theorem s_Sun_hoursOfAll_3 (C : xCx) (r : List Value) (hp : xHp) (x : Int32) (a0 a1 a2 a3 : Value) : (xV k_Sun_hoursOfAll C 3 [a0, a1, a2, a3] (.int x :: r) hp) = (3 < 4 ∧ xNl [a0, a1, a2, a3] 3 ∧ xV k_Sun_hoursOfAll C 4 [a0, a1, a2, .int x] r hp) := xVe _ _ _ _ _ _
theorem s_Sun_hoursOfAll_4 (C : xCx) (r : List Value) (hp : xHp) (x : Int32) (a0 a1 a2 : Value) : (xV k_Sun_hoursOfAll C 4 [a0, a1, a2, .int x] r hp) = (xV k_Sun_hoursOfAll C 5 [a0, a1, a2, .int x] (.int x :: r) hp) := xVe _ _ _ _ _ _
theorem s_Sun_hoursOfAll_5 (C : xCx) (r : List Value) (hp : xHp) (x : Nat) (a0 a2 a3 : Value) : (xV k_Sun_hoursOfAll C 5 [a0, .ref x, a2, a3] r hp) = (True ∧ xV k_Sun_hoursOfAll C 6 [a0, .ref x, a2, a3] (.ref x :: r) hp) := xVe _ _ _ _ _ _
theorem s_Sun_hoursOfAll_6 (a : Nat) (l : Launch) (d b lo gz n0 s0 : Nat) (Po : Option Value → xHp → Prop) (L r : List Value) (hp : xHp) : (xV k_Sun_hoursOfAll (l, d + 1, b, lo, gz, n0, s0, m_Sun_hoursOfAll, Po) 6 L (.ref a :: r) hp) = (xO hp a 3 ∧ xcs r 8 ∧ xMi l d b lo gz m_Folk_size [.ref a] hp (fun x hp' => xV k_Sun_hoursOfAll (l, d + 1, b, lo, gz, n0, s0, m_Sun_hoursOfAll, Po) 9 L (.int x :: r) hp')) := xVe _ _ _ _ _ _
theorem s_Sun_hoursOfAll_9 (x y : Int32) (C : xCx) (L r : List Value) (hp : xHp) : (xV k_Sun_hoursOfAll C 9 L (.int y :: .int x :: r) hp) = (((y ≤ x → xV k_Sun_hoursOfAll C 27 L r hp) ∧ (¬ y ≤ x → xV k_Sun_hoursOfAll C 12 L r hp))) := xVe _ _ _ _ _ _
theorem s_Sun_hoursOfAll_12 (C : xCx) (r : List Value) (hp : xHp) (x : Int32) (a0 a1 a3 : Value) : (xV k_Sun_hoursOfAll C 12 [a0, a1, .int x, a3] r hp) = (xV k_Sun_hoursOfAll C 13 [a0, a1, .int x, a3] (.int x :: r) hp) := xVe _ _ _ _ _ _
theorem s_Sun_hoursOfAll_13 (C : xCx) (r : List Value) (hp : xHp) (x : Nat) (a1 a2 a3 : Value) : (xV k_Sun_hoursOfAll C 13 [.ref x, a1, a2, a3] r hp) = (True ∧ xV k_Sun_hoursOfAll C 14 [.ref x, a1, a2, a3] (.ref x :: r) hp) := xVe _ _ _ _ _ _
theorem s_Sun_hoursOfAll_14 (C : xCx) (r : List Value) (hp : xHp) (x : Nat) (a0 a2 a3 : Value) : (xV k_Sun_hoursOfAll C 14 [a0, .ref x, a2, a3] r hp) = (True ∧ xV k_Sun_hoursOfAll C 15 [a0, .ref x, a2, a3] (.ref x :: r) hp) := xVe _ _ _ _ _ _
theorem s_Sun_hoursOfAll_15 (C : xCx) (r : List Value) (hp : xHp) (x : Int32) (a0 a1 a2 : Value) : (xV k_Sun_hoursOfAll C 15 [a0, a1, a2, .int x] r hp) = (xV k_Sun_hoursOfAll C 16 [a0, a1, a2, .int x] (.int x :: r) hp) := xVe _ _ _ _ _ _
theorem s_Sun_hoursOfAll_16 (x0 : Nat) (x1 : Int32) (a : Nat) (l : Launch) (d b lo gz n0 s0 : Nat) (Po : Option Value → xHp → Prop) (L r : List Value) (hp : xHp) : (xV k_Sun_hoursOfAll (l, d + 1, b, lo, gz, n0, s0, m_Sun_hoursOfAll, Po) 16 L (.int x1 :: .ref x0 :: .ref a :: r) hp) = (xO hp a 9 ∧ xcs r 8 ∧ xMi l d b lo gz m_Sun_hoursOf [.ref a, .ref x0, .int x1] hp (fun x hp' => xV k_Sun_hoursOfAll (l, d + 1, b, lo, gz, n0, s0, m_Sun_hoursOfAll, Po) 19 L (.int x :: r) hp')) := xVe _ _ _ _ _ _
theorem s_Sun_hoursOfAll_19 (x y : Int32) (C : xCx) (L r : List Value) (hp : xHp) : (xV k_Sun_hoursOfAll C 19 L (.int y :: .int x :: r) hp) = (xV k_Sun_hoursOfAll C 20 L (.int (x + y) :: r) hp) := xVe _ _ _ _ _ _
theorem s_Sun_hoursOfAll_20 (C : xCx) (r : List Value) (hp : xHp) (x : Int32) (a0 a1 a2 a3 : Value) : (xV k_Sun_hoursOfAll C 20 [a0, a1, a2, a3] (.int x :: r) hp) = (2 < 4 ∧ xNl [a0, a1, a2, a3] 2 ∧ xV k_Sun_hoursOfAll C 21 [a0, a1, .int x, a3] r hp) := xVe _ _ _ _ _ _
theorem s_Sun_hoursOfAll_21 (C : xCx) (r : List Value) (hp : xHp) (x : Int32) (a0 a1 a2 : Value) : (xV k_Sun_hoursOfAll C 21 [a0, a1, a2, .int x] r hp) = (xNl [a0, a1, a2, .int x] 3 ∧ xV k_Sun_hoursOfAll C 24 [a0, a1, a2, .int (x + (1))] r hp) := xVe _ _ _ _ _ _
theorem s_Sun_hoursOfAll_24 (C : xCx) (L r : List Value) (hp : xHp) : (xV k_Sun_hoursOfAll C 24 L r hp) = (xV k_Sun_hoursOfAll C 4 L r hp) := xVe _ _ _ _ _ _
theorem s_Sun_hoursOfAll_27 (C : xCx) (r : List Value) (hp : xHp) (x : Int32) (a0 a1 a3 : Value) : (xV k_Sun_hoursOfAll C 27 [a0, a1, .int x, a3] r hp) = (xV k_Sun_hoursOfAll C 28 [a0, a1, .int x, a3] (.int x :: r) hp) := xVe _ _ _ _ _ _
theorem s_Sun_hoursOfAll_28 (v : Int32) (l : Launch) (d b lo gz n0 s0 : Nat) (Po : Option Value → xHp → Prop) (L : List Value) (hp : xHp) : (xV k_Sun_hoursOfAll (l, d, b, lo, gz, n0, s0, m_Sun_hoursOfAll, Po) 28 L [.int v] hp) = (Po (some (.int v)) hp) := xVe _ _ _ _ _ _
