/-! ===== what the tables say at the law's entry ===== -/
theorem kn_prim {s : State} {args : Array Value} {ty : FieldType} (h : (Cond.arrayClass ty).before args s = true) (hr : ∀ cA, va_RA s cA ty = (s.vm.findClass ("[" ++ ty.toString) = some cA)) : ∃ cA, ArrOfT s cA ty ∧ va_RA s cA ty := by
  obtain ⟨cA, kA, comp, h1, h2, h3⟩ := Cond.arrayClass_spec h
  exact ⟨cA, fun n z => ⟨(fun k h => by cases h), kA, h2, comp, h3⟩, by rw [hr]; exact h1⟩
theorem kn_obj {s : State} {args : Array Value} {C : String} (h : (Cond.arrayOver (.object C)).before args s = true) : ∃ cA, ArrOfT s cA (.object C) ∧ va_RA s cA (.object C) := by
  obtain ⟨comp, cA, kA, h1, h2, h3, h4, h5⟩ := Cond.arrayOver_spec h
  exact ⟨cA, fun n z => ⟨(fun k h => by cases h), kA, h3, comp, h4⟩, kA, comp, h3, h4, h1, h5⟩
set_option maxHeartbeats 4000000 in
theorem kn_start {s : State} {args : Array Value} (hts : ∀ w ∈ wG, w.before args s = true) (hnest : ∀ w ∈ nestW, va_Nw w s) (hao : va_AO "SunnyOnes$Folk" s) : ∃ (dC : Nat → ClassId) (dI : Nat → Nat → Nat) (dA : FieldType → ClassId), xKn dC dI dA s := by
  obtain ⟨c0, iS0, hk0⟩ := u_known (C := "SunnyOnes") (T := F_So) (N := 17) (n := 17) hts i_So (hts _ (wg1 21 (by decide +kernel) rfl))
  obtain ⟨c1, iS1, hk1⟩ := u_known (C := "SunnyOnes$Chance") (T := F_Chance) (N := 5) (n := 5) hts i_Chance (hts _ (wg2 23 (by decide +kernel) rfl))
  obtain ⟨c2, iS2, hk2⟩ := u_known (C := "SunnyOnes$Clues") (T := F_Clues) (N := 4) (n := 4) hts i_Clues (hts _ (wg1 173 (by decide +kernel) rfl))
  obtain ⟨c3, iS3, hk3⟩ := u_known (C := "SunnyOnes$Folk") (T := F_Folk) (N := 5) (n := 5) hts i_Folk (hts _ (wg1 125 (by decide +kernel) rfl))
  obtain ⟨c4, iS4, hk4⟩ := u_known (C := "SunnyOnes$Land") (T := F_Land) (N := 4) (n := 4) hts i_Land (hts _ (wg1 57 (by decide +kernel) rfl))
  obtain ⟨c5, iS5, hk5⟩ := u_known (C := "SunnyOnes$Past") (T := F_Past) (N := 5) (n := 5) hts i_Past (hts _ (wg1 147 (by decide +kernel) rfl))
  obtain ⟨c6, iS6, hk6⟩ := u_known (C := "SunnyOnes$Rooms") (T := F_Rooms) (N := 9) (n := 9) hts i_Rooms (hts _ (wg1 229 (by decide +kernel) rfl))
  obtain ⟨c7, iS7, hk7⟩ := u_known (C := "SunnyOnes$Row") (T := F_Row) (N := 2) (n := 2) hts i_Row (hts _ (wg1 43 (by decide +kernel) rfl))
  obtain ⟨c8, iS8, hk8⟩ := u_known (C := "SunnyOnes$Rule") (T := F_Rule) (N := 5) (n := 5) hts i_Rule (hts _ (wg1 79 (by decide +kernel) rfl))
  obtain ⟨c9, iS9, hk9⟩ := u_known (C := "SunnyOnes$Sun") (T := F_Sun) (N := 3) (n := 3) hts i_Sun (hts _ (wg1 109 (by decide +kernel) rfl))
  obtain ⟨c10, iS10, hk10⟩ := u_known (C := "SunnyOnes$Text") (T := F_Text) (N := 2) (n := 2) hts i_Text (hts _ (wg1 29 (by decide +kernel) rfl))
  obtain ⟨c11, iS11, hk11⟩ := u_known (C := "SunnyOnes$Walk") (T := F_Walk) (N := 9) (n := 9) hts i_Walk (hts _ (wg1 195 (by decide +kernel) rfl))
  obtain ⟨c12, iS12, hk12⟩ := u_known (C := "SunnyOnesModel") (T := F_Mo) (N := 47) (n := 47) hts i_Mo (hts _ (wg5 201 (by decide +kernel) rfl))
  obtain ⟨a0, b0⟩ := kn_prim (ty := .int) (hts _ (wg1 41 (by decide +kernel) rfl)) (fun _ => rfl)
  obtain ⟨a1, b1⟩ := kn_prim (ty := .byte) (hts _ (wg6 108 (by decide +kernel) rfl)) (fun _ => rfl)
  obtain ⟨a2, b2⟩ := kn_prim (ty := .boolean) (hts _ (wg1 171 (by decide +kernel) rfl)) (fun _ => rfl)
  obtain ⟨a3, b3⟩ := kn_prim (ty := .long) (hts _ (wg1 55 (by decide +kernel) rfl)) (fun _ => rfl)
  obtain ⟨a4, b4⟩ := kn_obj (va_AO.use (A := args) hao)
  refine ⟨fun k => if k = 0 then c0 else if k = 1 then c1 else if k = 2 then c2 else if k = 3 then c3 else if k = 4 then c4 else if k = 5 then c5 else if k = 6 then c6 else if k = 7 then c7 else if k = 8 then c8 else if k = 9 then c9 else if k = 10 then c10 else if k = 11 then c11 else c12, fun k => if k = 0 then iS0 else if k = 1 then iS1 else if k = 2 then iS2 else if k = 3 then iS3 else if k = 4 then iS4 else if k = 5 then iS5 else if k = 6 then iS6 else if k = 7 then iS7 else if k = 8 then iS8 else if k = 9 then iS9 else if k = 10 then iS10 else if k = 11 then iS11 else iS12, fun t => match t with | .int => a0 | .byte => a1 | .boolean => a2 | .long => a3 | _ => a4, ⟨fun k q hq => ?_, fun k q hq => ?_⟩, hnest, hao⟩
  · match k, hq with
    | 0, hq => cases hq; exact hk0
    | 1, hq => cases hq; exact hk1
    | 2, hq => cases hq; exact hk2
    | 3, hq => cases hq; exact hk3
    | 4, hq => cases hq; exact hk4
    | 5, hq => cases hq; exact hk5
    | 6, hq => cases hq; exact hk6
    | 7, hq => cases hq; exact hk7
    | 8, hq => cases hq; exact hk8
    | 9, hq => cases hq; exact hk9
    | 10, hq => cases hq; exact hk10
    | 11, hq => cases hq; exact hk11
    | 12, hq => cases hq; exact hk12
    | k + 13, hq => simp [xCl] at hq
  · match k, hq with
    | 0, hq => cases hq; exact b0
    | 1, hq => cases hq; exact b1
    | 2, hq => cases hq; exact b2
    | 3, hq => cases hq; exact b3
    | 4, hq => cases hq; exact b4
    | k + 5, hq => simp [xcT, xTys] at hq
theorem tb1 (i : Nat) {w : Cond} (h : tables_1_1[i]? = some w) : w ∈ lw_tbl := List.mem_append_right _ (List.mem_append_left _ (List.mem_of_getElem? h))
theorem tb2 (i : Nat) {w : Cond} (h : tables_1_2[i]? = some w) : w ∈ lw_tbl := List.mem_append_right _ (List.mem_append_right _ (List.mem_append_left _ (List.mem_of_getElem? h)))
theorem tb3 (i : Nat) {w : Cond} (h : tables_1_3[i]? = some w) : w ∈ lw_tbl := List.mem_append_right _ (List.mem_append_right _ (List.mem_append_right _ (List.mem_append_left _ (List.mem_of_getElem? h))))
theorem tb4 (i : Nat) {w : Cond} (h : tables_1_4[i]? = some w) : w ∈ lw_tbl := List.mem_append_right _ (List.mem_append_right _ (List.mem_append_right _ (List.mem_append_right _ (List.mem_append_left _ (List.mem_of_getElem? h)))))
theorem tb5 (i : Nat) {w : Cond} (h : tables_1_5[i]? = some w) : w ∈ lw_tbl := List.mem_append_right _ (List.mem_append_right _ (List.mem_append_right _ (List.mem_append_right _ (List.mem_append_right _ (List.mem_append_left _ (List.mem_of_getElem? h))))))
theorem tb6 (i : Nat) {w : Cond} (h : tables_1_6[i]? = some w) : w ∈ lw_tbl := List.mem_append_right _ (List.mem_append_right _ (List.mem_append_right _ (List.mem_append_right _ (List.mem_append_right _ (List.mem_append_right _ (List.mem_append_left _ (List.mem_of_getElem? h)))))))
theorem tb7 (i : Nat) {w : Cond} (h : tables_1_7[i]? = some w) : w ∈ lw_tbl := List.mem_append_right _ (List.mem_append_right _ (List.mem_append_right _ (List.mem_append_right _ (List.mem_append_right _ (List.mem_append_right _ (List.mem_append_right _ (List.mem_append_left _ (List.mem_of_getElem? h))))))))
theorem tb8 (i : Nat) {w : Cond} (h : tables_1_8[i]? = some w) : w ∈ lw_tbl := List.mem_append_right _ (List.mem_append_right _ (List.mem_append_right _ (List.mem_append_right _ (List.mem_append_right _ (List.mem_append_right _ (List.mem_append_right _ (List.mem_append_right _ (List.mem_of_getElem? h))))))))
theorem nest_in : ∀ w ∈ nestW, w ∈ lw_tbl := List.forall_mem_cons.mpr ⟨tb1 30 (by decide +kernel), List.forall_mem_cons.mpr ⟨tb1 44 (by decide +kernel), List.forall_mem_cons.mpr ⟨tb1 62 (by decide +kernel), List.forall_mem_cons.mpr ⟨tb1 126 (by decide +kernel), List.forall_mem_cons.mpr ⟨tb1 154 (by decide +kernel), List.forall_mem_cons.mpr ⟨tb2 104 (by decide +kernel), List.forall_mem_cons.mpr ⟨tb2 181 (by decide +kernel), List.forall_mem_cons.mpr ⟨tb3 6 (by decide +kernel), List.forall_mem_cons.mpr ⟨tb3 9 (by decide +kernel), List.forall_mem_cons.mpr ⟨tb3 18 (by decide +kernel), List.forall_mem_cons.mpr ⟨tb3 29 (by decide +kernel), List.forall_mem_cons.mpr ⟨tb3 38 (by decide +kernel), List.forall_mem_cons.mpr ⟨tb3 65 (by decide +kernel), List.forall_mem_cons.mpr ⟨tb3 77 (by decide +kernel), List.forall_mem_cons.mpr ⟨tb4 75 (by decide +kernel), List.forall_mem_cons.mpr ⟨tb4 93 (by decide +kernel), List.forall_mem_cons.mpr ⟨tb4 137 (by decide +kernel), List.forall_mem_cons.mpr ⟨tb4 146 (by decide +kernel), List.forall_mem_cons.mpr ⟨tb4 166 (by decide +kernel), List.forall_mem_cons.mpr ⟨tb4 191 (by decide +kernel), fun _ h => absurd h List.not_mem_nil⟩⟩⟩⟩⟩⟩⟩⟩⟩⟩⟩⟩⟩⟩⟩⟩⟩⟩⟩⟩
theorem kn_law {p : Program} {s : State} {m : MethodId} {meth : Method} {c : Code} {b L : Nat} {xs : Nat → Int32} (C0 : lw_At p s m meth c b L xs) : ∃ (dC : Nat → ClassId) (dI : Nat → Nat → Nat) (dA : FieldType → ClassId), xKn dC dI dA s := by
  obtain ⟨hx, hb, hr, hml, hown, hts, hX, hbl, hlocks, hgv⟩ := id C0
  refine kn_start (args := #[Value.ref b]) (fun w hw => hts w (wG_in w hw)) (fun w hw => ?_) (va_AO.of (hts _ (tb1 153 (by decide +kernel))))
  have h1 := hts w (nest_in w hw)
  obtain ⟨a, i, x, z, rfl⟩ := nest_shape w hw
  exact va_Nw.of rfl h1
theorem law_start {p : Program} {e : Env} {s : State} {m : MethodId} {below : List Frame} {meth : Method} {c : Code} (l : Launch) {b L : Nat} {xs : Nat → Int32} (hL : L ≤ 2560) (C0 : lw_At p s m meth c b L xs) (hx : ∀ (dC : Nat → ClassId) (dI : Nat → Nat → Nat) (dA : FieldType → ClassId), xKn dC dI dA s → lwX p l e s m below meth c b dC dI dA L 350 ∧ lwX p l e s m below meth c b dC dI dA L 418 ∧ lwX p l e s m below meth c b dC dI dA L 1594) : W p l e room_1 s m #[Value.ref b] below meth c s.heap [] 0 0 (lw_Z below #[Value.ref b] s) (entryFrame m ([Value.ref b] : List Value).toArray 8) := by
  obtain ⟨dC, dI, dA, hKn⟩ := kn_law C0
  obtain ⟨h6, h7, h48⟩ := hx dC dI dA hKn
  have hl := lv_entry ([.ref b]) (n := 8) (Nat.le_of_ble_eq_true rfl)
  rw [lg_entry_eq]
  generalize (lg_sl ([.ref b]) ++ List.replicate (8 - (lg_sl ([.ref b])).length) Slot.unset).toArray = ls at hl ⊢
  have hl : lv_has ls 8 [(0, .ref b)] := hl
  refine lw_enter C0 hKn (fun hp hR => lw_loop C0 hKn hL h6 h7 h48 (L + 1) 0 0 rfl (Nat.zero_le L) (by omega) 0 hp hR) s.heap [] ls ⟨rfl, fun k _ => rfl, fun k q h => by simp [xcW] at h⟩ va_S.rf hl
