theorem xr_ldcw {C : xCx} {pc : Nat} {L r : List Value} {hp : xHp} {idx : Nat} {v : Int32} (hd : decode (xmB (xcxM C)) pc = .ok (.ldc_w idx, 3)) (hw : Jvm.Cond.constant (xmY (xcxM C)).cls idx v ∈ wG) (K : xJ C (pc + 3) L (.int v :: r) hp) : xJ C pc L r hp := by
  intro p e s m args below meth c dC dI dA E H locs cells slots ls S hl hL
  obtain ⟨hx, hb, hml, hr, hlk, hnm, hown, hts, hKn, hsz, hlo⟩ := id E
  exact lv_ldcw hx hb hown (hts _ hw) hd (K p e s m args below meth c dC dI dA E H locs cells slots ls S hl hL)
theorem xr_ldc2 {C : xCx} {pc : Nat} {L r : List Value} {hp : xHp} {idx : Nat} {v : Int64} (hd : decode (xmB (xcxM C)) pc = .ok (.ldc2_w idx, 3)) (hw : Jvm.Cond.constantLong (xmY (xcxM C)).cls idx v ∈ wG) (K : xJ C (pc + 3) L (.long v :: r) hp) : xJ C pc L r hp := by
  intro p e s m args below meth c dC dI dA E H locs cells slots ls S hl hL
  obtain ⟨hx, hb, hml, hr, hlk, hnm, hown, hts, hKn, hsz, hlo⟩ := id E
  exact lv_ldc2 hx hb hown (hts _ hw) hd (K p e s m args below meth c dC dI dA E H locs cells slots ls S hl hL)
theorem xr_obj {C : xCx} {pc : Nat} {L r : List Value} {hp : xHp} {idx d o : Nat} (hdC : xcxD C = d + 1) (hd : decode (xmB (xcxM C)) pc = .ok (.invokespecial idx, 3)) (hw : Jvm.Cond.methodLink (xmY (xcxM C)).cls idx Lib.objectInit ∈ wG ∧ Jvm.Cond.instanceMethod Lib.objectInit ∈ wG ∧ Jvm.Cond.code Lib.objectInit ⟨#[0xb1]⟩ 1 none ∈ wG) (hcs : xcs r 8) (K : xJ C (pc + 3) L r hp) : xJ C pc L (.ref o :: r) hp := by
  intro p e s m args below meth c dC dI dA E H locs cells slots ls S hl hL
  obtain ⟨hx, hb, hml, hr, hlk, hnm, hown, hts, hKn, hsz, hlo⟩ := id E
  have h8 : ((r.map (xcV (xcxB C))).map fun v => v.category).sum ≤ 8 := by rw [xcs_map]; exact xcs_sum r 8 hcs
  have h9 : 2 * (F0 m pc ls ((Value.ref o :: r).map (xcV (xcxB C)))).monitorRoom + ((r.map (xcV (xcxB C))).map fun v => v.category).sum ≤ 8 := lv_room h8
  exact W.objInit hx hb hown (hts _ hw.1) (hts _ hw.2.1) (hts _ hw.2.2) rfl (hl.1.trans hml.symm) rfl hd (by show 1 ≤ xcxD C; omega) (by show _ ≤ 40 * xcxD C; omega) (K p e s m args below meth c dC dI dA E H locs cells slots ls S hl hL)
def xStp1 (C : xCx) (P : xK) (pc : Nat) (ins : Instr) (nx a k : Nat) (z : Int) (m : xMI) (L st : List Value) (hp : xHp) : Prop := match ins with
  | .iconst n => P nx L (.int (Int32.ofInt n) :: st) hp
  | .bipush n => P nx L (.int (Int8.ofInt n).toInt32 :: st) hp
  | .sipush n => P nx L (.int (Int16.ofInt n).toInt32 :: st) hp
  | .lconst n => P nx L (.long (Int64.ofNat (n : Nat)) :: st) hp
  | .aconst_null => P nx L (.null :: st) hp
  | .iload_n n => xld L (n : Nat) (fun v => xvI v (fun x => P nx L (.int x :: st) hp))
  | .iload i => xld L i (fun v => xvI v (fun x => P nx L (.int x :: st) hp))
  | .lload_n n => xld L (n : Nat) (fun v => xvL v (fun x => P nx L (.long x :: st) hp))
  | .lload i => xld L i (fun v => xvL v (fun x => P nx L (.long x :: st) hp))
  | .aload_n n => xld L (n : Nat) (fun v => xvQ v ∧ P nx L (v :: st) hp)
  | .aload i => xld L i (fun v => xvQ v ∧ P nx L (v :: st) hp)
  | .istore_n n => xs_i st (fun x r => (n : Nat) < L.length ∧ xNl L (n : Nat) ∧ P nx (L.set (n : Nat) (.int x)) r hp)
  | .istore i => xs_i st (fun x r => i < L.length ∧ xNl L i ∧ P nx (L.set i (.int x)) r hp)
  | .lstore_n n => xs_l st (fun x r => (n : Nat) + 1 < L.length ∧ xNl L (n : Nat) ∧ P nx ((L.set (n : Nat) (.long x)).set ((n : Nat) + 1) (.retAddr 0)) r hp)
  | .lstore i => xs_l st (fun x r => i + 1 < L.length ∧ xNl L i ∧ P nx ((L.set i (.long x)).set (i + 1) (.retAddr 0)) r hp)
  | .astore_n n => xs_q st (fun r => (n : Nat) < L.length ∧ xNl L (n : Nat) ∧ P nx (L.set (n : Nat) .null) r hp) (fun a r => (n : Nat) < L.length ∧ xNl L (n : Nat) ∧ P nx (L.set (n : Nat) (.ref a)) r hp)
  | .astore i => xs_q st (fun r => i < L.length ∧ xNl L i ∧ P nx (L.set i .null) r hp) (fun a r => i < L.length ∧ xNl L i ∧ P nx (L.set i (.ref a)) r hp)
  | .iinc i n => xld L i (fun v => xvI v (fun x => xNl L i ∧ P nx (L.set i (.int (x + Int32.ofInt n))) st hp))
  | .iadd => xs_ii st (fun x y r => P nx L (.int (x + y) :: r) hp)
  | .isub => xs_ii st (fun x y r => P nx L (.int (x - y) :: r) hp)
  | .imul => xs_ii st (fun x y r => P nx L (.int (x * y) :: r) hp)
  | .iand => xs_ii st (fun x y r => P nx L (.int (x &&& y) :: r) hp)
  | .ior => xs_ii st (fun x y r => P nx L (.int (x ||| y) :: r) hp)
  | .ixor => xs_ii st (fun x y r => P nx L (.int (x ^^^ y) :: r) hp)
  | .ishl => xs_ii st (fun x y r => P nx L (.int (x <<< (y &&& 31)) :: r) hp)
  | .ishr => xs_ii st (fun x y r => P nx L (.int (x >>> (y &&& 31)) :: r) hp)
  | .iushr => xs_ii st (fun x y r => P nx L (.int ((x.toUInt32 >>> (y.toUInt32 &&& Int32.toUInt32 31)).toInt32) :: r) hp)
  | .idiv => xs_ii st (fun x y r => ¬ y = 0 ∧ P nx L (.int (x / y) :: r) hp)
  | .irem => xs_ii st (fun x y r => ¬ y = 0 ∧ P nx L (.int (x - x / y * y) :: r) hp)
  | .ineg => xs_i st (fun x r => P nx L (.int (-x) :: r) hp)
  | .ladd => xs_ll st (fun x y r => P nx L (.long (x + y) :: r) hp)
  | .lsub => xs_ll st (fun x y r => P nx L (.long (x - y) :: r) hp)
  | .lmul => xs_ll st (fun x y r => P nx L (.long (x * y) :: r) hp)
  | .ldiv => xs_ll st (fun x y r => ¬ y = 0 ∧ P nx L (.long (x / y) :: r) hp)
  | .lrem => xs_ll st (fun x y r => ¬ y = 0 ∧ P nx L (.long (x - x / y * y) :: r) hp)
  | .lcmp => xs_ll st (fun x y r => P nx L (.int (lg_cmp x y) :: r) hp)
  | .i2l => xs_i st (fun x r => P nx L (.long x.toInt64 :: r) hp)
  | .l2i => xs_l st (fun x r => P nx L (.int x.toInt32 :: r) hp)
  | .i2b => xs_i st (fun x r => P nx L (.int x.toInt8.toInt32 :: r) hp)
  | .i2s => xs_i st (fun x r => P nx L (.int x.toInt16.toInt32 :: r) hp)
  | .dup => xs_v st (fun v r => v.category = 1 ∧ P nx L (v :: v :: r) hp)
  | .pop => xs_v st (fun v r => v.category = 1 ∧ P nx L (r) hp)
  | .dup_x1 => xs_vv st (fun v w r => v.category = 1 ∧ w.category = 1 ∧ P nx L (v :: w :: v :: r) hp)
  | .dup2 => xs_vv st (fun v w r => v.category = 1 ∧ w.category = 1 ∧ P nx L (v :: w :: v :: w :: r) hp)
  | .if_icmp .eq off => xs_ii st (fun x y r => (x = y → P k L r hp) ∧ (¬ x = y → P nx L r hp))
  | .ifCond .eq off => xs_i st (fun x r => (x = 0 → P k L r hp) ∧ (¬ x = 0 → P nx L r hp))
  | .if_icmp .ne off => xs_ii st (fun x y r => (¬ x = y → P k L r hp) ∧ (x = y → P nx L r hp))
  | .ifCond .ne off => xs_i st (fun x r => (¬ x = 0 → P k L r hp) ∧ (x = 0 → P nx L r hp))
  | .if_icmp .lt off => xs_ii st (fun x y r => (x < y → P k L r hp) ∧ (¬ x < y → P nx L r hp))
  | .ifCond .lt off => xs_i st (fun x r => (x < 0 → P k L r hp) ∧ (¬ x < 0 → P nx L r hp))
  | .if_icmp .ge off => xs_ii st (fun x y r => (y ≤ x → P k L r hp) ∧ (¬ y ≤ x → P nx L r hp))
  | .ifCond .ge off => xs_i st (fun x r => (0 ≤ x → P k L r hp) ∧ (¬ 0 ≤ x → P nx L r hp))
  | .if_icmp .gt off => xs_ii st (fun x y r => (y < x → P k L r hp) ∧ (¬ y < x → P nx L r hp))
  | .ifCond .gt off => xs_i st (fun x r => (0 < x → P k L r hp) ∧ (¬ 0 < x → P nx L r hp))
  | .if_icmp .le off => xs_ii st (fun x y r => (x ≤ y → P k L r hp) ∧ (¬ x ≤ y → P nx L r hp))
  | .ifCond .le off => xs_i st (fun x r => (x ≤ 0 → P k L r hp) ∧ (¬ x ≤ 0 → P nx L r hp))
  | .goto off => P k L st hp
  | .ifnull off => xs_q st (fun r => P k L r hp) (fun a r => P nx L r hp)
  | .ifnonnull off => xs_q st (fun r => P nx L r hp) (fun a r => P k L r hp)
  | .tableswitch dv lo hi offs => xs_i st (fun x r => xsw x lo offs.toList pc dv (fun t => P t L r hp))
  | .lookupswitch dv ps => xs_i st (fun x r => xlw x ps.toList pc dv (fun t => P t L r hp))
  | .getfield idx => xs_a st (fun o r => xF hp o a k (fun v => P nx L (v :: r) hp))
  | .putfield idx => xs_va st (fun v o r => xVok (xTy a k) v ∧ xPf hp o a k v (fun hp' => P nx L r hp'))
  | .iaload => xs_ia st (fun i o r => xAi hp o (fun ty n g => ty = .int ∧ vp_in i n ∧ P nx L (.int (g i.toNatClampNeg) :: r) hp))
  | .baload => xs_ia st (fun i o r => xAi hp o (fun ty n g => (ty = .byte ∨ ty = .boolean) ∧ vp_in i n ∧ P nx L (.int (g i.toNatClampNeg) :: r) hp))
  | .laload => xs_ia st (fun i o r => xAl hp o (fun n g => vp_in i n ∧ P nx L (.long (g i.toNatClampNeg) :: r) hp))
  | .aaload => xs_ia st (fun i o r => xAq hp o (fun ty n g => ty = .object "SunnyOnes$Folk" ∧ vp_in i n ∧ P nx L (va_rf (g i.toNatClampNeg) :: r) hp))
  | .iastore => xs_iia st (fun x i o r => xAi hp o (fun ty n g => ty = .int ∧ vp_in i n ∧ P nx L r (xup hp o (.inl (.int, n, .inl (upd g i.toNatClampNeg x))))))
  | .bastore => xs_iia st (fun x i o r => xAi hp o (fun ty n g => (ty = .byte ∨ ty = .boolean) ∧ vp_in i n ∧ P nx L r (xup hp o (.inl (ty, n, .inl (upd g i.toNatClampNeg (vp_nar ty x)))))))
  | .lastore => xs_lia st (fun x i o r => xAl hp o (fun n g => vp_in i n ∧ P nx L r (xup hp o (.inl (.long, n, .inr (.inl (vp_updL g i.toNatClampNeg x)))))))
  | .aastore => xs_aia st (fun v i o r => xO hp v 3 ∧ xAq hp o (fun ty n g => ty = .object "SunnyOnes$Folk" ∧ vp_in i n ∧ P nx L r (xup hp o (.inl (.object "SunnyOnes$Folk", n, .inr (.inr (.inr (.inr (va_up g i.toNatClampNeg (some v))))))))))
  | .arraylength => xs_a st (fun o r => xLn hp o (fun n => P nx L (.int (Int32.ofNat n) :: r) hp))
  | .newarray t => xs_i st (fun n r => ¬ n < 0 ∧ n.toNatClampNeg ≤ 10000 ∧ (xcxG C = 0 ∧ hp.2.1 + 1 ≤ xcxN C + xmC (xcxM C) ∧ hp.2.2 + n.toNatClampNeg ≤ xcxS C + xmS (xcxM C)) ∧ P nx L (.ref hp.2.1 :: r) (va_up hp.1 hp.2.1 (.inl (newarray.typeOf t, xZero (newarray.typeOf t) n.toNatClampNeg)), hp.2.1 + 1, hp.2.2 + n.toNatClampNeg))
  | .anewarray idx => xs_i st (fun n r => ¬ n < 0 ∧ n.toNatClampNeg ≤ 10000 ∧ (xcxG C = 0 ∧ hp.2.1 + 1 ≤ xcxN C + xmC (xcxM C) ∧ hp.2.2 + n.toNatClampNeg ≤ xcxS C + xmS (xcxM C)) ∧ P nx L (.ref hp.2.1 :: r) (va_up hp.1 hp.2.1 (.inl (.object "SunnyOnes$Folk", n.toNatClampNeg, .inr (.inr (.inr (.inr (fun _ => none)))))), hp.2.1 + 1, hp.2.2 + n.toNatClampNeg))
  | .new idx => (xcxG C = 0 ∧ hp.2.1 + 1 ≤ xcxN C + xmC (xcxM C) ∧ hp.2.2 + (xDf a).length ≤ xcxS C + xmS (xcxM C)) ∧ P nx L (.ref hp.2.1 :: st) (va_up hp.1 hp.2.1 (.inr (a, xDf a)), hp.2.1 + 1, hp.2.2 + (xDf a).length)
  | .invokespecial idx => if z = 1 then xs_a st (fun o r => xcs r 8 ∧ (match xcxD C with
      | 0 => False
      | _ + 1 => P nx L r hp)) else xiv C m st hp none (fun st' hp' => P nx L st' hp')
  | .invokevirtual idx => xiv C m st hp (some a) (fun st' hp' => P nx L st' hp')
  | .invokestatic idx => xis C m st hp (fun st' hp' => P nx L st' hp')
  | .ldc_w idx => P nx L (.int (Int32.ofInt z) :: st) hp
  | .ldc2_w idx => P nx L (.long (Int64.ofInt z) :: st) hp
  | .ireturn => (match xmR (xcxM C), st with
    | some .int, [.int v] => xRet C hp (xcxP C (some (.int v)) hp)
    | some .boolean, [.int v] => (v = 0 ∨ v = 1) ∧ xRet C hp (xcxP C (some (.int v)) hp)
    | _, _ => False)
  | .lreturn => (match xmR (xcxM C), st with
    | some .long, [.long v] => xRet C hp (xcxP C (some (.long v)) hp)
    | _, _ => False)
  | .areturn => (match xmR (xcxM C), st with
    | some (.object _), [v] => xvQ v ∧ xRet C hp (xcxP C (some v) hp)
    | _, _ => False)
  | .return_ => (match xmR (xcxM C), st with
    | none, [] => xRet C hp (xcxP C none hp)
    | _, _ => False)
  | _ => False
def xLenI (ins : Instr) : Option Nat := match ins with
  | .iconst _ => some 1
  | .bipush _ => some 2
  | .sipush _ => some 3
  | .lconst _ => some 1
  | .aconst_null => some 1
  | .iload_n _ => some 1
  | .iload _ => some 2
  | .lload_n _ => some 1
  | .lload _ => some 2
  | .aload_n _ => some 1
  | .aload _ => some 2
  | .istore_n _ => some 1
  | .istore _ => some 2
  | .lstore_n _ => some 1
  | .lstore _ => some 2
  | .astore_n _ => some 1
  | .astore _ => some 2
  | .iinc _ _ => some 3
  | .iadd => some 1
  | .isub => some 1
  | .imul => some 1
  | .iand => some 1
  | .ior => some 1
  | .ixor => some 1
  | .ishl => some 1
  | .ishr => some 1
  | .iushr => some 1
  | .idiv => some 1
  | .irem => some 1
  | .ineg => some 1
  | .ladd => some 1
  | .lsub => some 1
  | .lmul => some 1
  | .ldiv => some 1
  | .lrem => some 1
  | .lcmp => some 1
  | .i2l => some 1
  | .l2i => some 1
  | .i2b => some 1
  | .i2s => some 1
  | .dup => some 1
  | .pop => some 1
  | .dup_x1 => some 1
  | .dup2 => some 1
  | .if_icmp .eq _ => some 3
  | .ifCond .eq _ => some 3
  | .if_icmp .ne _ => some 3
  | .ifCond .ne _ => some 3
  | .if_icmp .lt _ => some 3
  | .ifCond .lt _ => some 3
  | .if_icmp .ge _ => some 3
  | .ifCond .ge _ => some 3
  | .if_icmp .gt _ => some 3
  | .ifCond .gt _ => some 3
  | .if_icmp .le _ => some 3
  | .ifCond .le _ => some 3
  | .goto _ => some 3
  | .ifnull _ => some 3
  | .ifnonnull _ => some 3
  | .getfield _ => some 3
  | .putfield _ => some 3
  | .iaload => some 1
  | .baload => some 1
  | .laload => some 1
  | .aaload => some 1
  | .iastore => some 1
  | .bastore => some 1
  | .lastore => some 1
  | .aastore => some 1
  | .arraylength => some 1
  | .newarray _ => some 2
  | .anewarray _ => some 3
  | .new _ => some 3
  | .invokespecial _ => some 3
  | .invokevirtual _ => some 3
  | .invokestatic _ => some 3
  | .ldc_w _ => some 3
  | .ldc2_w _ => some 3
  | .ireturn => some 1
  | .lreturn => some 1
  | .areturn => some 1
  | .return_ => some 1
  | _ => none
def xLnk (y : MethodName) (pc : Nat) (ins : Instr) (a k : Nat) (z : Int) (m : xMI) : Prop := match ins with
  | .getfield idx => xFl y.cls idx a k
  | .putfield idx => xFl y.cls idx a k ∧ xFn y a k
  | .invokevirtual idx => xLk y.cls idx m ∧ xKV m a
  | .invokestatic idx => xLk y.cls idx m ∧ xKS m
  | .invokespecial idx => if z = 1 then Jvm.Cond.methodLink y.cls idx Lib.objectInit ∈ wG ∧ Jvm.Cond.instanceMethod Lib.objectInit ∈ wG ∧ Jvm.Cond.code Lib.objectInit ⟨#[0xb1]⟩ 1 none ∈ wG else xLk y.cls idx m ∧ xKI m
  | .new idx => xKN y.cls idx a
  | .anewarray idx => Jvm.Cond.classLink y.cls idx "SunnyOnes$Folk" ∈ wG
  | .newarray t => Jvm.Cond.arrayClass (newarray.typeOf t) ∈ wG ∧ xAty (newarray.typeOf t)
  | .ldc_w idx => Jvm.Cond.constant y.cls idx (Int32.ofInt z) ∈ wG
  | .ldc2_w idx => Jvm.Cond.constantLong y.cls idx (Int64.ofInt z) ∈ wG
  | .if_icmp _ off => (pc : Int) + off = (k : Int)
  | .ifCond _ off => (pc : Int) + off = (k : Int)
  | .goto off => (pc : Int) + off = (k : Int)
  | .ifnull off => (pc : Int) + off = (k : Int)
  | .ifnonnull off => (pc : Int) + off = (k : Int)
  | .tableswitch dv lo hi offs => -2147483648 ≤ lo ∧ lo + offs.size ≤ 2147483648 ∧ hi = lo + offs.size - 1 ∧ (0 : Int) ≤ pc + dv ∧ ∀ o ∈ offs.toList, (0 : Int) ≤ pc + o
  | .lookupswitch dv ps => (ps.toList.zip (ps.toList.drop 1)).all (fun (a, next) => a.1 < next.1) = true ∧ (∀ q ∈ ps.toList, -2147483648 ≤ q.1 ∧ q.1 < 2147483648) ∧ (0 : Int) ≤ pc + dv ∧ ∀ q ∈ ps.toList, (0 : Int) ≤ pc + q.2
  | _ => True
abbrev xDc (m : xMI) (E : xEC) : Prop := E.1 < E.2.2.1 ∧ decode (xmB m) E.1 = .ok (E.2.1, E.2.2.1 - E.1) ∧ ∀ n ∈ xLenI E.2.1, E.2.2.1 = E.1 + n
def xOk (m : xMI) (E : xEC) : Prop := xDc m E ∧ xLnk (xmY m) E.1 E.2.1 E.2.2.2.1 E.2.2.2.2.1 E.2.2.2.2.2.1 E.2.2.2.2.2.2
def xlook (k : List xEC) (pc : Nat) : Option xEC := k.find? (fun E => E.1 == pc)
def xStp (k : List xEC) (C : xCx) (P : xK) (pc : Nat) (L st : List Value) (hp : xHp) : Prop := match xlook k pc with
  | some E => xStp1 C P E.1 E.2.1 E.2.2.1 E.2.2.2.1 E.2.2.2.2.1 E.2.2.2.2.2.1 E.2.2.2.2.2.2 L st hp
  | none => False
set_option maxHeartbeats 4000000 in
theorem xStp1_mono {C : xCx} {P P' : xK} (hP : ∀ pc L st hp, P pc L st hp → P' pc L st hp) {pc : Nat} {ins : Instr} {nx a k : Nat} {z : Int} {m : xMI} {L st : List Value} {hp : xHp} (h : xStp1 C P pc ins nx a k z m L st hp) : xStp1 C P' pc ins nx a k z m L st hp := by
  cases ins
  case iconst n =>
      exact hP _ _ _ _ h
  case bipush n =>
      exact hP _ _ _ _ h
  case sipush n =>
      exact hP _ _ _ _ h
  case lconst n =>
      exact hP _ _ _ _ h
  case aconst_null  =>
      exact hP _ _ _ _ h
  case iload_n n =>
      obtain ⟨v, hv, h⟩ := xld_e h
      obtain ⟨x, rfl, h⟩ := xvI_e h
      exact xld_i hv (hP _ _ _ _ h)
  case iload i =>
      obtain ⟨v, hv, h⟩ := xld_e h
      obtain ⟨x, rfl, h⟩ := xvI_e h
      exact xld_i hv (hP _ _ _ _ h)
  case lload_n n =>
      obtain ⟨v, hv, h⟩ := xld_e h
      obtain ⟨x, rfl, h⟩ := xvL_e h
      exact xld_i hv (hP _ _ _ _ h)
  case lload i =>
      obtain ⟨v, hv, h⟩ := xld_e h
      obtain ⟨x, rfl, h⟩ := xvL_e h
      exact xld_i hv (hP _ _ _ _ h)
  case aload_n n =>
      obtain ⟨v, hv, h1, h⟩ := xld_e h
      exact xld_i hv ⟨h1, hP _ _ _ _ h⟩
  case aload i =>
      obtain ⟨v, hv, h1, h⟩ := xld_e h
      exact xld_i hv ⟨h1, hP _ _ _ _ h⟩
  case istore_n n =>
      obtain ⟨x, r, rfl, h1, h2, h⟩ := xs_i_e h
      exact ⟨h1, h2, hP _ _ _ _ h⟩
  case istore i =>
      obtain ⟨x, r, rfl, h1, h2, h⟩ := xs_i_e h
      exact ⟨h1, h2, hP _ _ _ _ h⟩
  case lstore_n n =>
      obtain ⟨x, r, rfl, h1, h2, h⟩ := xs_l_e h
      exact ⟨h1, h2, hP _ _ _ _ h⟩
  case lstore i =>
      obtain ⟨x, r, rfl, h1, h2, h⟩ := xs_l_e h
      exact ⟨h1, h2, hP _ _ _ _ h⟩
  case astore_n n =>
      rcases xs_q_e h with ⟨r, rfl, h1, h2, h⟩ | ⟨a, r, rfl, h1, h2, h⟩
      · exact ⟨h1, h2, hP _ _ _ _ h⟩
      · exact ⟨h1, h2, hP _ _ _ _ h⟩
  case astore i =>
      rcases xs_q_e h with ⟨r, rfl, h1, h2, h⟩ | ⟨a, r, rfl, h1, h2, h⟩
      · exact ⟨h1, h2, hP _ _ _ _ h⟩
      · exact ⟨h1, h2, hP _ _ _ _ h⟩
  case iinc i n =>
      obtain ⟨v, hv, h⟩ := xld_e h
      obtain ⟨x, rfl, h1, h⟩ := xvI_e h
      exact xld_i hv ⟨h1, hP _ _ _ _ h⟩
  case iadd  =>
      obtain ⟨x, y, r, rfl, h⟩ := xs_ii_e h
      exact hP _ _ _ _ h
  case isub  =>
      obtain ⟨x, y, r, rfl, h⟩ := xs_ii_e h
      exact hP _ _ _ _ h
  case imul  =>
      obtain ⟨x, y, r, rfl, h⟩ := xs_ii_e h
      exact hP _ _ _ _ h
  case iand  =>
      obtain ⟨x, y, r, rfl, h⟩ := xs_ii_e h
      exact hP _ _ _ _ h
  case ior  =>
      obtain ⟨x, y, r, rfl, h⟩ := xs_ii_e h
      exact hP _ _ _ _ h
  case ixor  =>
      obtain ⟨x, y, r, rfl, h⟩ := xs_ii_e h
      exact hP _ _ _ _ h
  case ishl  =>
      obtain ⟨x, y, r, rfl, h⟩ := xs_ii_e h
      exact hP _ _ _ _ h
  case ishr  =>
      obtain ⟨x, y, r, rfl, h⟩ := xs_ii_e h
      exact hP _ _ _ _ h
  case iushr  =>
      obtain ⟨x, y, r, rfl, h⟩ := xs_ii_e h
      exact hP _ _ _ _ h
  case idiv  =>
      obtain ⟨x, y, r, rfl, c0, h⟩ := xs_ii_e h
      exact ⟨c0, hP _ _ _ _ h⟩
  case irem  =>
      obtain ⟨x, y, r, rfl, c0, h⟩ := xs_ii_e h
      exact ⟨c0, hP _ _ _ _ h⟩
  case ineg  =>
      obtain ⟨x, r, rfl, h⟩ := xs_i_e h
      exact hP _ _ _ _ h
  case ladd  =>
      obtain ⟨x, y, r, rfl, h⟩ := xs_ll_e h
      exact hP _ _ _ _ h
  case lsub  =>
      obtain ⟨x, y, r, rfl, h⟩ := xs_ll_e h
      exact hP _ _ _ _ h
  case lmul  =>
      obtain ⟨x, y, r, rfl, h⟩ := xs_ll_e h
      exact hP _ _ _ _ h
  case ldiv  =>
      obtain ⟨x, y, r, rfl, c0, h⟩ := xs_ll_e h
      exact ⟨c0, hP _ _ _ _ h⟩
  case lrem  =>
      obtain ⟨x, y, r, rfl, c0, h⟩ := xs_ll_e h
      exact ⟨c0, hP _ _ _ _ h⟩
  case lcmp  =>
      obtain ⟨x, y, r, rfl, h⟩ := xs_ll_e h
      exact hP _ _ _ _ h
  case i2l  =>
      obtain ⟨x, r, rfl, h⟩ := xs_i_e h
      exact hP _ _ _ _ h
  case l2i  =>
      obtain ⟨x, r, rfl, h⟩ := xs_l_e h
      exact hP _ _ _ _ h
  case i2b  =>
      obtain ⟨x, r, rfl, h⟩ := xs_i_e h
      exact hP _ _ _ _ h
  case i2s  =>
      obtain ⟨x, r, rfl, h⟩ := xs_i_e h
      exact hP _ _ _ _ h
  case dup  =>
      obtain ⟨v, r, rfl, c0, h⟩ := xs_v_e h
      exact ⟨c0, hP _ _ _ _ h⟩
  case pop  =>
      obtain ⟨v, r, rfl, c0, h⟩ := xs_v_e h
      exact ⟨c0, hP _ _ _ _ h⟩
  case dup_x1  =>
      obtain ⟨v, w, r, rfl, c0, c1, h⟩ := xs_vv_e h
      exact ⟨c0, c1, hP _ _ _ _ h⟩
  case dup2  =>
      obtain ⟨v, w, r, rfl, c0, c1, h⟩ := xs_vv_e h
      exact ⟨c0, c1, hP _ _ _ _ h⟩
  case if_icmp cd off =>
    cases cd
    case eq =>
      obtain ⟨x, y, r, rfl, h1, h2⟩ := xs_ii_e h
      exact ⟨fun q => hP _ _ _ _ (h1 q), fun q => hP _ _ _ _ (h2 q)⟩
    case ne =>
      obtain ⟨x, y, r, rfl, h1, h2⟩ := xs_ii_e h
      exact ⟨fun q => hP _ _ _ _ (h1 q), fun q => hP _ _ _ _ (h2 q)⟩
    case lt =>
      obtain ⟨x, y, r, rfl, h1, h2⟩ := xs_ii_e h
      exact ⟨fun q => hP _ _ _ _ (h1 q), fun q => hP _ _ _ _ (h2 q)⟩
    case ge =>
      obtain ⟨x, y, r, rfl, h1, h2⟩ := xs_ii_e h
      exact ⟨fun q => hP _ _ _ _ (h1 q), fun q => hP _ _ _ _ (h2 q)⟩
    case gt =>
      obtain ⟨x, y, r, rfl, h1, h2⟩ := xs_ii_e h
      exact ⟨fun q => hP _ _ _ _ (h1 q), fun q => hP _ _ _ _ (h2 q)⟩
    case le =>
      obtain ⟨x, y, r, rfl, h1, h2⟩ := xs_ii_e h
      exact ⟨fun q => hP _ _ _ _ (h1 q), fun q => hP _ _ _ _ (h2 q)⟩
  case ifCond cd off =>
    cases cd
    case eq =>
      obtain ⟨x, r, rfl, h1, h2⟩ := xs_i_e h
      exact ⟨fun q => hP _ _ _ _ (h1 q), fun q => hP _ _ _ _ (h2 q)⟩
    case ne =>
      obtain ⟨x, r, rfl, h1, h2⟩ := xs_i_e h
      exact ⟨fun q => hP _ _ _ _ (h1 q), fun q => hP _ _ _ _ (h2 q)⟩
    case lt =>
      obtain ⟨x, r, rfl, h1, h2⟩ := xs_i_e h
      exact ⟨fun q => hP _ _ _ _ (h1 q), fun q => hP _ _ _ _ (h2 q)⟩
    case ge =>
      obtain ⟨x, r, rfl, h1, h2⟩ := xs_i_e h
      exact ⟨fun q => hP _ _ _ _ (h1 q), fun q => hP _ _ _ _ (h2 q)⟩
    case gt =>
      obtain ⟨x, r, rfl, h1, h2⟩ := xs_i_e h
      exact ⟨fun q => hP _ _ _ _ (h1 q), fun q => hP _ _ _ _ (h2 q)⟩
    case le =>
      obtain ⟨x, r, rfl, h1, h2⟩ := xs_i_e h
      exact ⟨fun q => hP _ _ _ _ (h1 q), fun q => hP _ _ _ _ (h2 q)⟩
  case goto off =>
      exact hP _ _ _ _ h
  case ifnull off =>
      rcases xs_q_e h with ⟨r, rfl, h⟩ | ⟨a, r, rfl, h⟩
      · exact hP _ _ _ _ h
      · exact hP _ _ _ _ h
  case ifnonnull off =>
      rcases xs_q_e h with ⟨r, rfl, h⟩ | ⟨a, r, rfl, h⟩
      · exact hP _ _ _ _ h
      · exact hP _ _ _ _ h
  case tableswitch dv lo hi offs =>
      obtain ⟨x, r, rfl, h⟩ := xs_i_e h
      exact xsw_mono (fun t q => hP _ _ _ _ q) _ _ _ _ h
  case lookupswitch dv ps =>
      obtain ⟨x, r, rfl, h⟩ := xs_i_e h
      exact xlw_mono (fun t q => hP _ _ _ _ q) _ _ _ h
  case getfield idx =>
      obtain ⟨o, r, rfl, h⟩ := xs_a_e h
      obtain ⟨fs, v, g1, g2, h⟩ := xF_e h
      exact xF_i g1 g2 (hP _ _ _ _ h)
  case putfield idx =>
      obtain ⟨v, o, r, rfl, c1, h⟩ := xs_va_e h
      obtain ⟨fs, g1, g2, h⟩ := xPf_e h
      exact ⟨c1, xPf_i g1 g2 (hP _ _ _ _ h)⟩
  case iaload  =>
      obtain ⟨i, o, r, rfl, h⟩ := xs_ia_e h
      obtain ⟨ty, n, g, g1, c1, c2, h⟩ := xAi_e h
      exact xAi_i g1 ⟨c1, c2, hP _ _ _ _ h⟩
  case baload  =>
      obtain ⟨i, o, r, rfl, h⟩ := xs_ia_e h
      obtain ⟨ty, n, g, g1, c1, c2, h⟩ := xAi_e h
      exact xAi_i g1 ⟨c1, c2, hP _ _ _ _ h⟩
  case laload  =>
      obtain ⟨i, o, r, rfl, h⟩ := xs_ia_e h
      obtain ⟨n, g, g1, c2, h⟩ := xAl_e h
      exact xAl_i g1 ⟨c2, hP _ _ _ _ h⟩
  case aaload  =>
      obtain ⟨i, o, r, rfl, h⟩ := xs_ia_e h
      obtain ⟨ty, n, g, g1, c1, c2, h⟩ := xAq_e h
      exact xAq_i g1 ⟨c1, c2, hP _ _ _ _ h⟩
  case iastore  =>
      obtain ⟨x, i, o, r, rfl, h⟩ := xs_iia_e h
      obtain ⟨ty, n, g, g1, c1, c2, h⟩ := xAi_e h
      exact xAi_i g1 ⟨c1, c2, hP _ _ _ _ h⟩
  case bastore  =>
      obtain ⟨x, i, o, r, rfl, h⟩ := xs_iia_e h
      obtain ⟨ty, n, g, g1, c1, c2, h⟩ := xAi_e h
      exact xAi_i g1 ⟨c1, c2, hP _ _ _ _ h⟩
  case lastore  =>
      obtain ⟨x, i, o, r, rfl, h⟩ := xs_lia_e h
      obtain ⟨n, g, g1, c2, h⟩ := xAl_e h
      exact xAl_i g1 ⟨c2, hP _ _ _ _ h⟩
  case aastore  =>
      obtain ⟨v, i, o, r, rfl, c0, h⟩ := xs_aia_e h
      obtain ⟨ty, n, g, g1, c1, c2, h⟩ := xAq_e h
      exact ⟨c0, xAq_i g1 ⟨c1, c2, hP _ _ _ _ h⟩⟩
  case arraylength  =>
      obtain ⟨o, r, rfl, h⟩ := xs_a_e h
      have h : xLn hp o (fun n => P nx L (.int (Int32.ofNat n) :: r) hp) := h
      show xLn hp o (fun n => P' nx L (.int (Int32.ofNat n) :: r) hp)
      obtain ⟨x, g1, g2, h⟩ := xLn_e h
      exact xLn_i g1 ⟨g2, hP _ _ _ _ h⟩
  case newarray t =>
      obtain ⟨n, r, rfl, c1, c2, c3, h⟩ := xs_i_e h
      exact ⟨c1, c2, c3, hP _ _ _ _ h⟩
  case anewarray idx =>
      obtain ⟨n, r, rfl, c1, c2, c3, h⟩ := xs_i_e h
      exact ⟨c1, c2, c3, hP _ _ _ _ h⟩
  case new idx =>
      exact ⟨h.1, hP _ _ _ _ h.2⟩
  case invokespecial idx =>
      simp only [xStp1] at h ⊢
      split at h
      · next hz =>
        rw [if_pos hz]
        obtain ⟨o, r, rfl, h1, h2⟩ := xs_a_e h
        refine ⟨h1, ?_⟩
        split at h2
        · exact h2.elim
        · exact hP _ _ _ _ h2
      · next hz =>
        rw [if_neg hz]
        unfold xiv at h ⊢
        split at h
        · exact ⟨h.1, h.2.1, xcl_mono (xRes_mono (fun _ _ q => hP _ _ _ _ q)) h.2.2⟩
        · exact h.elim
  case invokevirtual idx =>
      have h : xiv C m st hp (some a) (fun st' hp' => P nx L st' hp') := h
      show xiv C m st hp (some a) (fun st' hp' => P' nx L st' hp')
      unfold xiv at h ⊢
      split at h
      · exact ⟨h.1, h.2.1, xcl_mono (xRes_mono (fun _ _ q => hP _ _ _ _ q)) h.2.2⟩
      · exact h.elim
  case invokestatic idx =>
      exact ⟨h.1, h.2.1, xcl_mono (xRes_mono (fun _ _ q => hP _ _ _ _ q)) h.2.2⟩
  case ldc_w idx =>
      exact hP _ _ _ _ h
  case ldc2_w idx =>
      exact hP _ _ _ _ h
  case ireturn  =>
      exact h
  case lreturn  =>
      exact h
  case areturn  =>
      exact h
  case return_  =>
      exact h
  all_goals exact h.elim
set_option maxHeartbeats 4000000 in
theorem xStp1_sound {C : xCx} {Q : xK} (hQ : ∀ pc L st hp, Q pc L st hp → xJ C pc L st hp) {pc : Nat} {ins : Instr} {nx a k : Nat} {z : Int} {m : xMI} {L st : List Value} {hp : xHp} (hlt : pc < nx) (hd0 : decode (xmB (xcxM C)) pc = .ok (ins, nx - pc)) (hn : ∀ n ∈ xLenI ins, nx = pc + n) (hl : xLnk (xmY (xcxM C)) pc ins a k z m) (h : xStp1 C Q pc ins nx a k z m L st hp) : xJ C pc L st hp := by
  cases ins
  case iconst n =>
      have e0 := hn 1 rfl
      subst e0
      have hd := hd0
      rw [Nat.add_sub_cancel_left] at hd
      exact xr_iconst hd (hQ _ _ _ _ h)
  case bipush n =>
      have e0 := hn 2 rfl
      subst e0
      have hd := hd0
      rw [Nat.add_sub_cancel_left] at hd
      exact xr_bipush hd (hQ _ _ _ _ h)
  case sipush n =>
      have e0 := hn 3 rfl
      subst e0
      have hd := hd0
      rw [Nat.add_sub_cancel_left] at hd
      exact xr_sipush hd (hQ _ _ _ _ h)
  case lconst n =>
      have e0 := hn 1 rfl
      subst e0
      have hd := hd0
      rw [Nat.add_sub_cancel_left] at hd
      exact xr_lconst hd (hQ _ _ _ _ h)
  case aconst_null  =>
      have e0 := hn 1 rfl
      subst e0
      have hd := hd0
      rw [Nat.add_sub_cancel_left] at hd
      exact xr_null hd (hQ _ _ _ _ h)
  case iload_n n =>
      have e0 := hn 1 rfl
      subst e0
      have hd := hd0
      rw [Nat.add_sub_cancel_left] at hd
      obtain ⟨v, hv, h⟩ := xld_e h
      obtain ⟨x, rfl, h⟩ := xvI_e h
      exact xr_iload_n rfl hv hd (hQ _ _ _ _ h)
  case iload i =>
      have e0 := hn 2 rfl
      subst e0
      have hd := hd0
      rw [Nat.add_sub_cancel_left] at hd
      obtain ⟨v, hv, h⟩ := xld_e h
      obtain ⟨x, rfl, h⟩ := xvI_e h
      exact xr_iload hv hd (hQ _ _ _ _ h)
  case lload_n n =>
      have e0 := hn 1 rfl
      subst e0
      have hd := hd0
      rw [Nat.add_sub_cancel_left] at hd
      obtain ⟨v, hv, h⟩ := xld_e h
      obtain ⟨x, rfl, h⟩ := xvL_e h
      exact xr_lload_n rfl hv hd (hQ _ _ _ _ h)
  case lload i =>
      have e0 := hn 2 rfl
      subst e0
      have hd := hd0
      rw [Nat.add_sub_cancel_left] at hd
      obtain ⟨v, hv, h⟩ := xld_e h
      obtain ⟨x, rfl, h⟩ := xvL_e h
      exact xr_lload hv hd (hQ _ _ _ _ h)
  case aload_n n =>
      have e0 := hn 1 rfl
      subst e0
      have hd := hd0
      rw [Nat.add_sub_cancel_left] at hd
      obtain ⟨v, hv, h1, h⟩ := xld_e h
      rcases xvQ_e h1 with rfl | ⟨a, rfl⟩
      · exact xr_aload_nN rfl hv hd (hQ _ _ _ _ h)
      · exact xr_aload_n rfl hv hd (hQ _ _ _ _ h)
  case aload i =>
      have e0 := hn 2 rfl
      subst e0
      have hd := hd0
      rw [Nat.add_sub_cancel_left] at hd
      obtain ⟨v, hv, h1, h⟩ := xld_e h
      rcases xvQ_e h1 with rfl | ⟨a, rfl⟩
      · exact xr_aloadN hv hd (hQ _ _ _ _ h)
      · exact xr_aload hv hd (hQ _ _ _ _ h)
  case istore_n n =>
      have e0 := hn 1 rfl
      subst e0
      have hd := hd0
      rw [Nat.add_sub_cancel_left] at hd
      obtain ⟨x, r, rfl, h1, h2, h⟩ := xs_i_e h
      exact xr_istore_n rfl h1 h2 hd (hQ _ _ _ _ h)
  case istore i =>
      have e0 := hn 2 rfl
      subst e0
      have hd := hd0
      rw [Nat.add_sub_cancel_left] at hd
      obtain ⟨x, r, rfl, h1, h2, h⟩ := xs_i_e h
      exact xr_istore h1 h2 hd (hQ _ _ _ _ h)
  case lstore_n n =>
      have e0 := hn 1 rfl
      subst e0
      have hd := hd0
      rw [Nat.add_sub_cancel_left] at hd
      obtain ⟨x, r, rfl, h1, h2, h⟩ := xs_l_e h
      exact xr_lstore_n rfl h1 h2 hd (hQ _ _ _ _ h)
  case lstore i =>
      have e0 := hn 2 rfl
      subst e0
      have hd := hd0
      rw [Nat.add_sub_cancel_left] at hd
      obtain ⟨x, r, rfl, h1, h2, h⟩ := xs_l_e h
      exact xr_lstore h1 h2 hd (hQ _ _ _ _ h)
  case astore_n n =>
      have e0 := hn 1 rfl
      subst e0
      have hd := hd0
      rw [Nat.add_sub_cancel_left] at hd
      rcases xs_q_e h with ⟨r, rfl, h1, h2, h⟩ | ⟨a, r, rfl, h1, h2, h⟩
      · exact xr_astore_nN rfl h1 h2 hd (hQ _ _ _ _ h)
      · exact xr_astore_n rfl h1 h2 hd (hQ _ _ _ _ h)
  case astore i =>
      have e0 := hn 2 rfl
      subst e0
      have hd := hd0
      rw [Nat.add_sub_cancel_left] at hd
      rcases xs_q_e h with ⟨r, rfl, h1, h2, h⟩ | ⟨a, r, rfl, h1, h2, h⟩
      · exact xr_astoreN h1 h2 hd (hQ _ _ _ _ h)
      · exact xr_astore h1 h2 hd (hQ _ _ _ _ h)
  case iinc i n =>
      have e0 := hn 3 rfl
      subst e0
      have hd := hd0
      rw [Nat.add_sub_cancel_left] at hd
      obtain ⟨v, hv, h⟩ := xld_e h
      obtain ⟨x, rfl, h1, h⟩ := xvI_e h
      exact xr_iinc hv h1 hd (hQ _ _ _ _ h)
  case iadd  =>
      have e0 := hn 1 rfl
      subst e0
      have hd := hd0
      rw [Nat.add_sub_cancel_left] at hd
      obtain ⟨x, y, r, rfl, h⟩ := xs_ii_e h
      exact xr_iadd hd (hQ _ _ _ _ h)
  case isub  =>
      have e0 := hn 1 rfl
      subst e0
      have hd := hd0
      rw [Nat.add_sub_cancel_left] at hd
      obtain ⟨x, y, r, rfl, h⟩ := xs_ii_e h
      exact xr_isub hd (hQ _ _ _ _ h)
  case imul  =>
      have e0 := hn 1 rfl
      subst e0
      have hd := hd0
      rw [Nat.add_sub_cancel_left] at hd
      obtain ⟨x, y, r, rfl, h⟩ := xs_ii_e h
      exact xr_imul hd (hQ _ _ _ _ h)
  case iand  =>
      have e0 := hn 1 rfl
      subst e0
      have hd := hd0
      rw [Nat.add_sub_cancel_left] at hd
      obtain ⟨x, y, r, rfl, h⟩ := xs_ii_e h
      exact xr_iand hd (hQ _ _ _ _ h)
  case ior  =>
      have e0 := hn 1 rfl
      subst e0
      have hd := hd0
      rw [Nat.add_sub_cancel_left] at hd
      obtain ⟨x, y, r, rfl, h⟩ := xs_ii_e h
      exact xr_ior hd (hQ _ _ _ _ h)
  case ixor  =>
      have e0 := hn 1 rfl
      subst e0
      have hd := hd0
      rw [Nat.add_sub_cancel_left] at hd
      obtain ⟨x, y, r, rfl, h⟩ := xs_ii_e h
      exact xr_ixor hd (hQ _ _ _ _ h)
  case ishl  =>
      have e0 := hn 1 rfl
      subst e0
      have hd := hd0
      rw [Nat.add_sub_cancel_left] at hd
      obtain ⟨x, y, r, rfl, h⟩ := xs_ii_e h
      exact xr_ishl hd (hQ _ _ _ _ h)
  case ishr  =>
      have e0 := hn 1 rfl
      subst e0
      have hd := hd0
      rw [Nat.add_sub_cancel_left] at hd
      obtain ⟨x, y, r, rfl, h⟩ := xs_ii_e h
      exact xr_ishr hd (hQ _ _ _ _ h)
  case iushr  =>
      have e0 := hn 1 rfl
      subst e0
      have hd := hd0
      rw [Nat.add_sub_cancel_left] at hd
      obtain ⟨x, y, r, rfl, h⟩ := xs_ii_e h
      exact xr_iushr hd (hQ _ _ _ _ h)
  case idiv  =>
      have e0 := hn 1 rfl
      subst e0
      have hd := hd0
      rw [Nat.add_sub_cancel_left] at hd
      obtain ⟨x, y, r, rfl, c0, h⟩ := xs_ii_e h
      exact xr_idiv c0 hd (hQ _ _ _ _ h)
  case irem  =>
      have e0 := hn 1 rfl
      subst e0
      have hd := hd0
      rw [Nat.add_sub_cancel_left] at hd
      obtain ⟨x, y, r, rfl, c0, h⟩ := xs_ii_e h
      exact xr_irem c0 hd (hQ _ _ _ _ h)
  case ineg  =>
      have e0 := hn 1 rfl
      subst e0
      have hd := hd0
      rw [Nat.add_sub_cancel_left] at hd
      obtain ⟨x, r, rfl, h⟩ := xs_i_e h
      exact xr_ineg hd (hQ _ _ _ _ h)
  case ladd  =>
      have e0 := hn 1 rfl
      subst e0
      have hd := hd0
      rw [Nat.add_sub_cancel_left] at hd
      obtain ⟨x, y, r, rfl, h⟩ := xs_ll_e h
      exact xr_ladd hd (hQ _ _ _ _ h)
  case lsub  =>
      have e0 := hn 1 rfl
      subst e0
      have hd := hd0
      rw [Nat.add_sub_cancel_left] at hd
      obtain ⟨x, y, r, rfl, h⟩ := xs_ll_e h
      exact xr_lsub hd (hQ _ _ _ _ h)
  case lmul  =>
      have e0 := hn 1 rfl
      subst e0
      have hd := hd0
      rw [Nat.add_sub_cancel_left] at hd
      obtain ⟨x, y, r, rfl, h⟩ := xs_ll_e h
      exact xr_lmul hd (hQ _ _ _ _ h)
  case ldiv  =>
      have e0 := hn 1 rfl
      subst e0
      have hd := hd0
      rw [Nat.add_sub_cancel_left] at hd
      obtain ⟨x, y, r, rfl, c0, h⟩ := xs_ll_e h
      exact xr_ldiv c0 hd (hQ _ _ _ _ h)
  case lrem  =>
      have e0 := hn 1 rfl
      subst e0
      have hd := hd0
      rw [Nat.add_sub_cancel_left] at hd
      obtain ⟨x, y, r, rfl, c0, h⟩ := xs_ll_e h
      exact xr_lrem c0 hd (hQ _ _ _ _ h)
  case lcmp  =>
      have e0 := hn 1 rfl
      subst e0
      have hd := hd0
      rw [Nat.add_sub_cancel_left] at hd
      obtain ⟨x, y, r, rfl, h⟩ := xs_ll_e h
      exact xr_lcmp hd (hQ _ _ _ _ h)
  case i2l  =>
      have e0 := hn 1 rfl
      subst e0
      have hd := hd0
      rw [Nat.add_sub_cancel_left] at hd
      obtain ⟨x, r, rfl, h⟩ := xs_i_e h
      exact xr_i2l hd (hQ _ _ _ _ h)
  case l2i  =>
      have e0 := hn 1 rfl
      subst e0
      have hd := hd0
      rw [Nat.add_sub_cancel_left] at hd
      obtain ⟨x, r, rfl, h⟩ := xs_l_e h
      exact xr_l2i hd (hQ _ _ _ _ h)
  case i2b  =>
      have e0 := hn 1 rfl
      subst e0
      have hd := hd0
      rw [Nat.add_sub_cancel_left] at hd
      obtain ⟨x, r, rfl, h⟩ := xs_i_e h
      exact xr_i2b hd (hQ _ _ _ _ h)
  case i2s  =>
      have e0 := hn 1 rfl
      subst e0
      have hd := hd0
      rw [Nat.add_sub_cancel_left] at hd
      obtain ⟨x, r, rfl, h⟩ := xs_i_e h
      exact xr_i2s hd (hQ _ _ _ _ h)
  case dup  =>
      have e0 := hn 1 rfl
      subst e0
      have hd := hd0
      rw [Nat.add_sub_cancel_left] at hd
      obtain ⟨v, r, rfl, c0, h⟩ := xs_v_e h
      exact xr_dup c0 hd (hQ _ _ _ _ h)
  case pop  =>
      have e0 := hn 1 rfl
      subst e0
      have hd := hd0
      rw [Nat.add_sub_cancel_left] at hd
      obtain ⟨v, r, rfl, c0, h⟩ := xs_v_e h
      exact xr_pop c0 hd (hQ _ _ _ _ h)
  case dup_x1  =>
      have e0 := hn 1 rfl
      subst e0
      have hd := hd0
      rw [Nat.add_sub_cancel_left] at hd
      obtain ⟨v, w, r, rfl, c0, c1, h⟩ := xs_vv_e h
      exact xr_dup_x1 c0 c1 hd (hQ _ _ _ _ h)
  case dup2  =>
      have e0 := hn 1 rfl
      subst e0
      have hd := hd0
      rw [Nat.add_sub_cancel_left] at hd
      obtain ⟨v, w, r, rfl, c0, c1, h⟩ := xs_vv_e h
      exact xr_dup2 c0 c1 hd (hQ _ _ _ _ h)
  case if_icmp cd off =>
    cases cd
    case eq =>
      have e0 := hn 3 rfl
      subst e0
      have hd := hd0
      rw [Nat.add_sub_cancel_left] at hd
      obtain ⟨x, y, r, rfl, h1, h2⟩ := xs_ii_e h
      exact xr_icmp_eq hd hl (fun q => hQ _ _ _ _ (h1 q)) (fun q => hQ _ _ _ _ (h2 q))
    case ne =>
      have e0 := hn 3 rfl
      subst e0
      have hd := hd0
      rw [Nat.add_sub_cancel_left] at hd
      obtain ⟨x, y, r, rfl, h1, h2⟩ := xs_ii_e h
      exact xr_icmp_ne hd hl (fun q => hQ _ _ _ _ (h1 q)) (fun q => hQ _ _ _ _ (h2 q))
    case lt =>
      have e0 := hn 3 rfl
      subst e0
      have hd := hd0
      rw [Nat.add_sub_cancel_left] at hd
      obtain ⟨x, y, r, rfl, h1, h2⟩ := xs_ii_e h
      exact xr_icmp_lt hd hl (fun q => hQ _ _ _ _ (h1 q)) (fun q => hQ _ _ _ _ (h2 q))
    case ge =>
      have e0 := hn 3 rfl
      subst e0
      have hd := hd0
      rw [Nat.add_sub_cancel_left] at hd
      obtain ⟨x, y, r, rfl, h1, h2⟩ := xs_ii_e h
      exact xr_icmp_ge hd hl (fun q => hQ _ _ _ _ (h1 q)) (fun q => hQ _ _ _ _ (h2 q))
    case gt =>
      have e0 := hn 3 rfl
      subst e0
      have hd := hd0
      rw [Nat.add_sub_cancel_left] at hd
      obtain ⟨x, y, r, rfl, h1, h2⟩ := xs_ii_e h
      exact xr_icmp_gt hd hl (fun q => hQ _ _ _ _ (h1 q)) (fun q => hQ _ _ _ _ (h2 q))
    case le =>
      have e0 := hn 3 rfl
      subst e0
      have hd := hd0
      rw [Nat.add_sub_cancel_left] at hd
      obtain ⟨x, y, r, rfl, h1, h2⟩ := xs_ii_e h
      exact xr_icmp_le hd hl (fun q => hQ _ _ _ _ (h1 q)) (fun q => hQ _ _ _ _ (h2 q))
  case ifCond cd off =>
    cases cd
    case eq =>
      have e0 := hn 3 rfl
      subst e0
      have hd := hd0
      rw [Nat.add_sub_cancel_left] at hd
      obtain ⟨x, r, rfl, h1, h2⟩ := xs_i_e h
      exact xr_if_eq hd hl (fun q => hQ _ _ _ _ (h1 q)) (fun q => hQ _ _ _ _ (h2 q))
    case ne =>
      have e0 := hn 3 rfl
      subst e0
      have hd := hd0
      rw [Nat.add_sub_cancel_left] at hd
      obtain ⟨x, r, rfl, h1, h2⟩ := xs_i_e h
      exact xr_if_ne hd hl (fun q => hQ _ _ _ _ (h1 q)) (fun q => hQ _ _ _ _ (h2 q))
    case lt =>
      have e0 := hn 3 rfl
      subst e0
      have hd := hd0
      rw [Nat.add_sub_cancel_left] at hd
      obtain ⟨x, r, rfl, h1, h2⟩ := xs_i_e h
      exact xr_if_lt hd hl (fun q => hQ _ _ _ _ (h1 q)) (fun q => hQ _ _ _ _ (h2 q))
    case ge =>
      have e0 := hn 3 rfl
      subst e0
      have hd := hd0
      rw [Nat.add_sub_cancel_left] at hd
      obtain ⟨x, r, rfl, h1, h2⟩ := xs_i_e h
      exact xr_if_ge hd hl (fun q => hQ _ _ _ _ (h1 q)) (fun q => hQ _ _ _ _ (h2 q))
    case gt =>
      have e0 := hn 3 rfl
      subst e0
      have hd := hd0
      rw [Nat.add_sub_cancel_left] at hd
      obtain ⟨x, r, rfl, h1, h2⟩ := xs_i_e h
      exact xr_if_gt hd hl (fun q => hQ _ _ _ _ (h1 q)) (fun q => hQ _ _ _ _ (h2 q))
    case le =>
      have e0 := hn 3 rfl
      subst e0
      have hd := hd0
      rw [Nat.add_sub_cancel_left] at hd
      obtain ⟨x, r, rfl, h1, h2⟩ := xs_i_e h
      exact xr_if_le hd hl (fun q => hQ _ _ _ _ (h1 q)) (fun q => hQ _ _ _ _ (h2 q))
  case goto off =>
      have e0 := hn 3 rfl
      subst e0
      have hd := hd0
      rw [Nat.add_sub_cancel_left] at hd
      exact xr_goto hd hl (hQ _ _ _ _ h)
  case ifnull off =>
      have e0 := hn 3 rfl
      subst e0
      have hd := hd0
      rw [Nat.add_sub_cancel_left] at hd
      rcases xs_q_e h with ⟨r, rfl, h⟩ | ⟨a, r, rfl, h⟩
      · exact xr_ifnullN hd hl (hQ _ _ _ _ h)
      · exact xr_ifnull hd hl (hQ _ _ _ _ h)
  case ifnonnull off =>
      have e0 := hn 3 rfl
      subst e0
      have hd := hd0
      rw [Nat.add_sub_cancel_left] at hd
      rcases xs_q_e h with ⟨r, rfl, h⟩ | ⟨a, r, rfl, h⟩
      · exact xr_ifnonnullN hd hl (hQ _ _ _ _ h)
      · exact xr_ifnonnull hd hl (hQ _ _ _ _ h)
  case tableswitch dv lo hi offs =>
      have hd := hd0
      obtain ⟨x, r, rfl, h⟩ := xs_i_e h
      obtain ⟨q1, q2, q3, q4, q5⟩ := hl
      have hlen : offs.toList.length = offs.size := Array.length_toList
      obtain ⟨g1, g2⟩ := xsw_e offs.toList lo q1 (by rw [hlen]; omega) h
      rw [hlen] at g2
      by_cases hin : x.toInt < lo ∨ hi < x.toInt
      · exact xr_tableOut hd hin (Int.toNat_of_nonneg q4).symm (hQ _ _ _ _ (g2 (by omega)))
      · have hj : (x.toInt - lo).toNat < offs.size := by omega
        have ho : offs[(x.toInt - lo).toNat]? = some offs[(x.toInt - lo).toNat] := Array.getElem?_eq_getElem hj
        have ho' : offs.toList[(x.toInt - lo).toNat]? = some offs[(x.toInt - lo).toNat] := by rw [Array.getElem?_toList]; exact ho
        exact xr_tableIn hd (by omega) (by omega) ho (Int.toNat_of_nonneg (q5 _ (List.mem_of_getElem? ho'))).symm (hQ _ _ _ _ (g1 _ _ ho' (by omega)))
  case lookupswitch dv ps =>
      have hd := hd0
      obtain ⟨x, r, rfl, h⟩ := xs_i_e h
      obtain ⟨q1, q2, q3, q4⟩ := hl
      have g1 := xlw_e ps.toList q2 h
      refine xr_lookup hd q1 rfl (Int.toNat_of_nonneg ?_).symm (hQ _ _ _ _ g1)
      have key : ∀ l : List (Int × Int), (∀ q ∈ l, (0 : Int) ≤ pc + q.2) → (0 : Int) ≤ pc + Op.lookupswitch.offset l dv x.toInt := by
        intro l hl9
        induction l with
        | nil => exact q3
        | cons q l ih =>
          obtain ⟨a9, o9⟩ := q
          rw [Op.lookupswitch.offset_cons]
          split
          · exact hl9 (a9, o9) List.mem_cons_self
          · exact ih (fun q hq => hl9 q (List.mem_cons_of_mem _ hq))
      exact key _ q4
  case getfield idx =>
      have e0 := hn 3 rfl
      subst e0
      have hd := hd0
      rw [Nat.add_sub_cancel_left] at hd
      obtain ⟨o, r, rfl, h⟩ := xs_a_e h
      obtain ⟨fs, v, g1, g2, h⟩ := xF_e h
      exact xr_get hd hl g1 g2 (hQ _ _ _ _ h)
  case putfield idx =>
      have e0 := hn 3 rfl
      subst e0
      have hd := hd0
      rw [Nat.add_sub_cancel_left] at hd
      obtain ⟨v, o, r, rfl, c1, h⟩ := xs_va_e h
      obtain ⟨fs, g1, g2, h⟩ := xPf_e h
      exact xr_put hd hl.1 hl.2 c1 g1 g2 (hQ _ _ _ _ h)
  case iaload  =>
      have e0 := hn 1 rfl
      subst e0
      have hd := hd0
      rw [Nat.add_sub_cancel_left] at hd
      obtain ⟨i, o, r, rfl, h⟩ := xs_ia_e h
      obtain ⟨ty, n, g, g1, rfl, c2, h⟩ := xAi_e h
      exact xr_iald hd g1 c2 (hQ _ _ _ _ h)
  case baload  =>
      have e0 := hn 1 rfl
      subst e0
      have hd := hd0
      rw [Nat.add_sub_cancel_left] at hd
      obtain ⟨i, o, r, rfl, h⟩ := xs_ia_e h
      obtain ⟨ty, n, g, g1, c1, c2, h⟩ := xAi_e h
      exact xr_bald hd g1 c1 c2 (hQ _ _ _ _ h)
  case laload  =>
      have e0 := hn 1 rfl
      subst e0
      have hd := hd0
      rw [Nat.add_sub_cancel_left] at hd
      obtain ⟨i, o, r, rfl, h⟩ := xs_ia_e h
      obtain ⟨n, g, g1, c2, h⟩ := xAl_e h
      exact xr_lald hd g1 c2 (hQ _ _ _ _ h)
  case aaload  =>
      have e0 := hn 1 rfl
      subst e0
      have hd := hd0
      rw [Nat.add_sub_cancel_left] at hd
      obtain ⟨i, o, r, rfl, h⟩ := xs_ia_e h
      obtain ⟨ty, n, g, g1, rfl, c2, h⟩ := xAq_e h
      exact xr_aald hd g1 c2 (hQ _ _ _ _ h)
  case iastore  =>
      have e0 := hn 1 rfl
      subst e0
      have hd := hd0
      rw [Nat.add_sub_cancel_left] at hd
      obtain ⟨x, i, o, r, rfl, h⟩ := xs_iia_e h
      obtain ⟨ty, n, g, g1, rfl, c2, h⟩ := xAi_e h
      exact xr_iast hd g1 c2 (hQ _ _ _ _ h)
  case bastore  =>
      have e0 := hn 1 rfl
      subst e0
      have hd := hd0
      rw [Nat.add_sub_cancel_left] at hd
      obtain ⟨x, i, o, r, rfl, h⟩ := xs_iia_e h
      obtain ⟨ty, n, g, g1, c1, c2, h⟩ := xAi_e h
      exact xr_bast hd g1 c1 c2 (hQ _ _ _ _ h)
  case lastore  =>
      have e0 := hn 1 rfl
      subst e0
      have hd := hd0
      rw [Nat.add_sub_cancel_left] at hd
      obtain ⟨x, i, o, r, rfl, h⟩ := xs_lia_e h
      obtain ⟨n, g, g1, c2, h⟩ := xAl_e h
      exact xr_last hd g1 c2 (hQ _ _ _ _ h)
  case aastore  =>
      have e0 := hn 1 rfl
      subst e0
      have hd := hd0
      rw [Nat.add_sub_cancel_left] at hd
      obtain ⟨v, i, o, r, rfl, c0, h⟩ := xs_aia_e h
      obtain ⟨vs, c0⟩ := xO_e c0
      obtain ⟨ty, n, g, g1, rfl, c2, h⟩ := xAq_e h
      exact xr_aast hd g1 c0 c2 (hQ _ _ _ _ h)
  case arraylength  =>
      have e0 := hn 1 rfl
      subst e0
      have hd := hd0
      rw [Nat.add_sub_cancel_left] at hd
      obtain ⟨o, r, rfl, h⟩ := xs_a_e h
      have h : xLn hp o (fun n => Q (pc + 1) L (.int (Int32.ofNat n) :: r) hp) := h
      obtain ⟨x, g1, g2, h⟩ := xLn_e h
      exact xr_alen hd g1 g2 (hQ _ _ _ _ h)
  case newarray t =>
      have e0 := hn 2 rfl
      subst e0
      have hd := hd0
      rw [Nat.add_sub_cancel_left] at hd
      obtain ⟨n, r, rfl, c1, c2, ⟨c3, c4, c5⟩, h⟩ := xs_i_e h
      exact xr_newa hd rfl hl.2 hl.1 c3 c1 c2 c4 c5 (hQ _ _ _ _ h)
  case anewarray idx =>
      have e0 := hn 3 rfl
      subst e0
      have hd := hd0
      rw [Nat.add_sub_cancel_left] at hd
      obtain ⟨n, r, rfl, c1, c2, ⟨c3, c4, c5⟩, h⟩ := xs_i_e h
      exact xr_newq hd hl c3 c1 c2 c4 c5 (hQ _ _ _ _ h)
  case new idx =>
      have e0 := hn 3 rfl
      subst e0
      have hd := hd0
      rw [Nat.add_sub_cancel_left] at hd
      obtain ⟨⟨c3, c4, c5⟩, h⟩ := h
      exact xr_new hd hl c3 c4 c5 (hQ _ _ _ _ h)
  case invokespecial idx =>
      have e0 := hn 3 rfl
      subst e0
      have hd := hd0
      rw [Nat.add_sub_cancel_left] at hd
      simp only [xStp1] at h
      simp only [xLnk] at hl
      split at h
      · next hz =>
        rw [if_pos hz] at hl
        obtain ⟨o, r, rfl, h1, h2⟩ := xs_a_e h
        split at h2
        · exact h2.elim
        · next d hdC => exact xr_obj hdC hd hl h1 (hQ _ _ _ _ h2)
      · next hz =>
        rw [if_neg hz] at hl
        unfold xiv at h
        split at h
        · next o r hst =>
          obtain ⟨d, hdC, hbud, hM⟩ := xcl_e h.2.2
          have hlen : xmN m ≤ st.length := by
            have := congrArg List.length hst
            rw [List.length_drop, List.length_cons] at this
            omega
          have K := xr_callI hdC hd hl.1 hl.2 h.2.1 (by rw [List.length_reverse]; exact List.length_take_of_le hlen) hbud hM (fun v hp' q => hQ _ _ _ _ (xRes_e q))
          rw [List.reverse_reverse, ← hst, List.take_append_drop] at K
          exact K
        · exact h.elim
  case invokevirtual idx =>
      have e0 := hn 3 rfl
      subst e0
      have hd := hd0
      rw [Nat.add_sub_cancel_left] at hd
      have h : xiv C m st hp (some a) (fun st' hp' => Q (pc + 3) L st' hp') := h
      unfold xiv at h
      split at h
      · next o r hst =>
        obtain ⟨d, hdC, hbud, hM⟩ := xcl_e h.2.2
        have hlen : xmN m ≤ st.length := by
          have := congrArg List.length hst
          rw [List.length_drop, List.length_cons] at this
          omega
        obtain ⟨fs, c1⟩ := xO_e h.1
        have K := xr_callV hdC hd hl.1 hl.2 c1 h.2.1 (by rw [List.length_reverse]; exact List.length_take_of_le hlen) hbud hM (fun v hp' q => hQ _ _ _ _ (xRes_e q))
        rw [List.reverse_reverse, ← hst, List.take_append_drop] at K
        exact K
      · exact h.elim
  case invokestatic idx =>
      have e0 := hn 3 rfl
      subst e0
      have hd := hd0
      rw [Nat.add_sub_cancel_left] at hd
      obtain ⟨h1, h2, h3⟩ := h
      obtain ⟨d, hdC, hbud, hM⟩ := xcl_e h3
      have K := xr_callS hdC hd hl.1 hl.2 h2 (by rw [List.length_reverse]; exact List.length_take_of_le h1) hbud hM (fun v hp' q => hQ _ _ _ _ (xRes_e q))
      rw [List.reverse_reverse, List.take_append_drop] at K
      exact K
  case ldc_w idx =>
      have e0 := hn 3 rfl
      subst e0
      have hd := hd0
      rw [Nat.add_sub_cancel_left] at hd
      exact xr_ldcw hd hl (hQ _ _ _ _ h)
  case ldc2_w idx =>
      have e0 := hn 3 rfl
      subst e0
      have hd := hd0
      rw [Nat.add_sub_cancel_left] at hd
      exact xr_ldc2 hd hl (hQ _ _ _ _ h)
  case ireturn  =>
      have e0 := hn 1 rfl
      subst e0
      have hd := hd0
      rw [Nat.add_sub_cancel_left] at hd
      simp only [xStp1] at h
      split at h
      · next hr => exact xr_iret hr hd h
      · next hr => exact xr_zret hr h.1 hd h.2
      · exact h.elim
  case lreturn  =>
      have e0 := hn 1 rfl
      subst e0
      have hd := hd0
      rw [Nat.add_sub_cancel_left] at hd
      simp only [xStp1] at h
      split at h
      · next hr => exact xr_lret hr hd h
      · exact h.elim
  case areturn  =>
      have e0 := hn 1 rfl
      subst e0
      have hd := hd0
      rw [Nat.add_sub_cancel_left] at hd
      simp only [xStp1] at h
      split at h
      · next hr => exact xr_aret hr h.1 hd h.2
      · exact h.elim
  case return_  =>
      have e0 := hn 1 rfl
      subst e0
      have hd := hd0
      rw [Nat.add_sub_cancel_left] at hd
      simp only [xStp1] at h
      split at h
      · next hr => exact xr_vret hr hd h
      · exact h.elim
  all_goals exact h.elim
theorem xStp_mono {k : List xEC} {C : xCx} {P P' : xK} (hP : ∀ pc L st hp, P pc L st hp → P' pc L st hp) {pc : Nat} {L st : List Value} {hp : xHp} (h : xStp k C P pc L st hp) : xStp k C P' pc L st hp := by
  unfold xStp at h ⊢
  split at h
  · exact xStp1_mono hP h
  · exact h.elim
/-- the machine comes from here to the end, whatever is to hold there -/
def xV (k : List xEC) (C : xCx) : xK := fun pc L st hp => ∀ P : xK, (∀ pc L st hp, xStp k C P pc L st hp → P pc L st hp) → P pc L st hp
theorem xV_in {k : List xEC} {C : xCx} {pc : Nat} {L st : List Value} {hp : xHp} (h : xStp k C (xV k C) pc L st hp) : xV k C pc L st hp :=
  fun P hP => hP _ _ _ _ (xStp_mono (fun _ _ _ _ q => q P hP) h)
theorem xVe (k : List xEC) (C : xCx) (pc : Nat) (L st : List Value) (hp : xHp) : xV k C pc L st hp = xStp k C (xV k C) pc L st hp :=
  propext ⟨fun h => h (fun pc L st hp => xStp k C (xV k C) pc L st hp) (fun _ _ _ _ q => xStp_mono (fun _ _ _ _ q2 => xV_in q2) q), xV_in⟩
theorem xV_J {k : List xEC} {C : xCx} (hk : ∀ E ∈ k, xOk (xcxM C) E) {pc : Nat} {L st : List Value} {hp : xHp} (h : xV k C pc L st hp) : xJ C pc L st hp := by
  refine h (xJ C) fun pc L st hp h => ?_
  unfold xStp at h
  split at h
  · next E hE =>
    have hm := List.mem_of_find?_eq_some hE
    have hp9 := List.find?_some hE
    have e1 : E.1 = pc := by simpa using hp9
    obtain ⟨⟨h1, h2, h3⟩, h4⟩ := hk E hm
    rw [← e1]
    exact xStp1_sound (fun _ _ _ _ q => q) h1 h2 h3 h4 h
  · exact h.elim
def xfl (args : List Value) : List Value := args.flatMap (fun v => if v.category = 2 then [v, .retAddr 0] else [v])
def xL0 (n : Nat) (args : List Value) : List Value := xfl args ++ List.replicate (n - (xfl args).length) (.retAddr 0)
theorem xfl_len (b : Nat) : ∀ args : List Value, (lg_sl (args.map (xcV b))).length = (xfl args).length
  | [] => rfl
  | v :: vs => by
    have ih := xfl_len b vs
    simp only [lg_sl, xfl, List.map_cons, List.flatMap_cons, List.length_append] at ih ⊢
    rw [xcV_cat, ih]
    split <;> rfl
theorem xfl_at (b : Nat) : ∀ (args : List Value) (i j : Nat) (v : Value), (xfl args)[j]? = some v → xIsD v = false → (i + j, xcV b v) ∈ lv_args i (args.map (xcV b))
  | [], i, j, v, h, _ => by simp [xfl] at h
  | u :: us, i, j, v, h, hd => by
    have ih := xfl_at b us
    simp only [xfl, List.flatMap_cons] at h
    simp only [List.map_cons, lv_args, xcV_cat]
    by_cases hc : u.category = 2
    · rw [if_pos hc] at h ⊢
      match j, h with
      | 0, h => simp at h; subst h; exact List.mem_cons_self
      | 1, h => simp at h; subst h; cases hd
      | j + 2, h =>
        have := ih (i + 2) j v (by simpa [xfl] using h) hd
        rw [show i + (j + 2) = i + 2 + j by omega]
        exact List.mem_cons_of_mem _ this
    · rw [if_neg hc] at h ⊢
      match j, h with
      | 0, h => simp at h; subst h; exact List.mem_cons_self
      | j + 1, h =>
        have := ih (i + 1) j v (by simpa [xfl] using h) hd
        rw [show i + (j + 1) = i + 1 + j by omega]
        exact List.mem_cons_of_mem _ this
theorem xL0_has {b n : Nat} {args : List Value} {ls : Array Slot} (h : lv_has ls n (lv_args 0 (args.map (xcV b)))) : lv_has ls n (xLv b (xL0 n args)) := by
  refine ⟨h.1, h.2.1, fun q hq => h.2.2 q ?_⟩
  obtain ⟨v, h1, h2, h3⟩ := xLv_mem.mp hq
  obtain ⟨j, w⟩ := q
  have h3' : w = xcV b v := h3
  subst h3'
  have h1' : (xL0 n args)[j]? = some v := h1
  unfold xL0 at h1'
  by_cases hj : j < (xfl args).length
  · rw [List.getElem?_append_left hj] at h1'
    have := xfl_at b args 0 j v h1' h2
    rwa [Nat.zero_add] at this
  · rw [List.getElem?_append_right (by omega)] at h1'
    have := List.eq_of_mem_replicate (List.mem_of_getElem? h1')
    subst this
    cases h2
theorem xMC_V {k : List xEC} {m : xMI} (hk : ∀ E ∈ k, xOk m E) (hpl : plainName (xmY m).cls = true) {l : Launch} {d b lo gz : Nat} {args L0 : List Value} {hp : xHp} {Po : Option Value → xHp → Prop} (hL0 : xL0 (xmL m) args = L0) (hlen : L0.length = xmL m) (hV : xV k (l, d, b, lo, gz, hp.2.1, hp.2.2, m, Po) 0 L0 [] hp) : xMC l d b lo gz m args hp Po := by
  subst hL0
  intro hlo dC dI dA
  refine Met.ofW (cc := xmB m) (maxL := xmL m) (ret := xmR m) hpl rfl ?_
  intro p e s m' args' below meth c s₁ B hml hv
  obtain ⟨rfl, hho, hkn⟩ := hv
  have hts := atoms_spec (ws := xwY m) B.pre
  have hJ := xV_J hk hV
  have hle : (lg_sl (args.map (xcV b))).length ≤ xmL m := by
    rw [xfl_len]
    unfold xL0 at hlen
    rw [List.length_append, List.length_replicate] at hlen
    omega
  have hl := lv_entry (args.map (xcV b)) hle
  rw [lg_entry_eq]
  exact hJ p e s m' _ below meth c dC dI dA ⟨B.exec, B.bytes, hml, B.returns, B.notSynchronized, (name_of_methodNamed B.named B.method).1, findClass_of_methodNamed B.named, fun w hw => hts w (List.mem_cons_of_mem _ hw), hkn, hho.1, hlo⟩ s.heap [] 0 0 _ ⟨hho, va_S.rf, rfl, rfl, Nat.zero_le _, Nat.zero_le _, Or.inr rfl⟩ (xL0_has hl) hlen
