/-! ===== throwing ===== -/
abbrev nse : String := "java/util/NoSuchElementException"
abbrev nseN : List String := ["java/lang/RuntimeException", "java/lang/Exception"]
def atX : List Cond := vx_at0 "SunnyOnes" 184 nse nseN
def atB : List Cond := atX.filter (fun w => !goodWord w)
set_option maxRecDepth 100000 in
theorem atX_in : ∀ w ∈ atX, w ∈ lw_tbl := by decide +kernel
set_option maxRecDepth 100000 in
theorem atX_ot : ∀ w ∈ Cond.classLink "SunnyOnes" 182 nse :: Cond.initialized nse :: atX, vx_ot w = true := by decide +kernel
set_option maxRecDepth 100000 in
theorem atB_on : ∀ w ∈ atB, w.onTables = true := by decide +kernel
abbrev zU (b : Nat) (U : State) : Prop := vx_Zq Bundle.tN "UNASSIGNED_STACK" Bundle.steD (fun q => b ≤ q) U U.heap ∧ vx_Zq Bundle.tN "SUPPRESSED_SENTINEL" Bundle.listD (fun q => b ≤ q) U U.heap ∧ ∀ w ∈ atB, va_Nw w U
def xTP (b gz : Nat) (dC : Nat → ClassId) (dI : Nat → Nat → Nat) (dA : FieldType → ClassId) (hp : xHp) (args : List Value) : Array Value → State → Prop := va_Pc (args.map (xcV b)) (fun U => (xHo b 0 gz dC dI dA hp U.heap ∧ xKn dC dI dA U) ∧ zU b U)
def xTX (b : Nat) (dC : Nat → ClassId) (dI : Nat → Nat → Nat) (dA : FieldType → ClassId) (hp : xHp) : String → State → State → Prop := vx_X (S := Nat) (fun _ => True) (fun E gz t => E = nse ∧ xHo b 0 gz dC dI dA hp t.heap) (fun q => b ≤ q)
def xTQ : Array Value → State → Outcome → State → Prop := va_Qi (S := Unit) (fun _ _ => False) (fun _ _ => True) (fun _ => False)
def xTRm (d : Nat) : Room := { frames := d, cells := 1, slots := 6, locals := 40 * d }
/-- a call of m with these arguments on this heap throws -/
def xTC (l : Launch) (d b gz : Nat) (m : xMI) (args : List Value) (hp : xHp) : Prop :=
  ∀ (dC : Nat → ClassId) (dI : Nat → Nat → Nat) (dA : FieldType → ClassId), vx_Met l (xmY m) (xwY m) (xTRm d) (xTP b gz dC dI dA hp args) xTQ (xTX b dC dI dA hp) 1 6 (fun q => b ≤ q)
section THR
variable {p : Program} {l : Launch} {e : Env} {s : State} {m : MethodId} {args : Array Value} {below : List Frame} {meth : Method} {c : Code} {b d gz pc nL : Nat} {cc : ByteArray} {dC : Nat → ClassId} {dI : Nat → Nat → Nat} {dA : FieldType → ClassId} {H : Heap} {locs : List Loc} {ls : Array Slot} {hp : xHp}
theorem wt_throw (hx : p.tables.exec = Jvm.exec) (hb : c.code = cc) (hl : l.stackTraces = false) (hml : c.maxLocals = nL) (hown : s.vm.findClass "SunnyOnes" = some m.cls) (hts : ∀ w ∈ wG, w.before args s = true) (hz : zU b s) (hho : xHo b 0 gz dC dI dA hp H) (hS : va_S (fun q => b ≤ q) s.heap H locs) (hsz : ls.size = nL) (hd6 : 6 ≤ d)
    (d0 : decode cc pc = .ok (.new 182, 3)) (d3 : decode cc (pc + 3) = .ok (.dup, 1)) (d4 : decode cc (pc + 4) = .ok (.invokespecial 184, 3)) (d7 : decode cc (pc + 7) = .ok (.athrow, 1)) (ht : ∀ x ∈ c.exceptionTable.toList, False) (hlocks : meth.locks = false) :
    W p l e (xTRm d) s m args below meth c H locs 0 0 (vx_MQ below xTQ (xTX b dC dI dA hp) args s 1 6 (fun q => b ≤ q)) (F0 m pc ls []) := by
  refine vx_throw0 (cls := nse) (names := nseN) (own := "SunnyOnes") (ik := 182) (ic := 184) (A := fun q => b ≤ q) hx hb hl hown (by decide) (by decide) (hts _ (wg5 112 (by decide +kernel) rfl)) (hts _ (wg1 18 (by decide +kernel) rfl)) (vx_hat (B := atB) (fun w hw => ?_) (fun w hw => hw) (fun w hw => va_Nw.use (atB_on w hw) (hz.2.2 w hw))) atX_ot hz.1 hz.2.1 hS (hsz.trans hml.symm) d0 d3 d4 d7 (fun x hx => (ht x hx).elim) (by show 2 + 3 < d; omega) (by show 0 + (13 * (2 + 1) + 42) ≤ 40 * d; omega) (by show 0 + 1 ≤ 1; decide) (by show 0 + 6 ≤ 6; decide) hlocks (fun t ha h1 h2 => ?_) hS.2.2 (by decide) (by decide)
  · obtain ⟨h1, h2⟩ := List.mem_filter.mp hw
    exact hts w (List.mem_filter.mpr ⟨atX_in w h1, h2⟩)
  · obtain ⟨S1, S2, S3⟩ := hho
    refine ⟨t.heap.size - (b + hp.2.1), trivial, ⟨rfl, by omega, S2, S3.kept fun k q hq => h2 q.1 ((S3 k q hq).lt)⟩, Nat.le_trans hS.1 h1, fun q hq hA => (h2 q (Nat.lt_of_lt_of_le hq hS.1)).trans (hS.2.1 q hq hA)⟩
end THR
