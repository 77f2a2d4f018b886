theorem xr_iconst {C : xCx} {pc : Nat} {L r : List Value} {hp : xHp} {n : Int} (hd : decode (xmB (xcxM C)) pc = .ok (.iconst n, 1)) (K : xJ C (pc + 1) L (.int (Int32.ofInt n) :: r) hp) : xJ C pc L (r) hp := by
  intro p e s m args below meth c dC dI dA E H locs cells slots ls S hl hL
  obtain ⟨hx, hb, hml, hr, hlk, hnm, hown, hts, hKn, hsz, hlo⟩ := id E
  exact lv_iconst hx hb hd rfl (K p e s m args below meth c dC dI dA E H locs cells slots ls S hl hL)
theorem xr_bipush {C : xCx} {pc : Nat} {L r : List Value} {hp : xHp} {n : Int} (hd : decode (xmB (xcxM C)) pc = .ok (.bipush n, 2)) (K : xJ C (pc + 2) L (.int (Int8.ofInt n).toInt32 :: r) hp) : xJ C pc L (r) hp := by
  intro p e s m args below meth c dC dI dA E H locs cells slots ls S hl hL
  obtain ⟨hx, hb, hml, hr, hlk, hnm, hown, hts, hKn, hsz, hlo⟩ := id E
  exact lv_bipush hx hb hd rfl (K p e s m args below meth c dC dI dA E H locs cells slots ls S hl hL)
theorem xr_sipush {C : xCx} {pc : Nat} {L r : List Value} {hp : xHp} {n : Int} (hd : decode (xmB (xcxM C)) pc = .ok (.sipush n, 3)) (K : xJ C (pc + 3) L (.int (Int16.ofInt n).toInt32 :: r) hp) : xJ C pc L (r) hp := by
  intro p e s m args below meth c dC dI dA E H locs cells slots ls S hl hL
  obtain ⟨hx, hb, hml, hr, hlk, hnm, hown, hts, hKn, hsz, hlo⟩ := id E
  exact lv_sipush hx hb hd rfl (K p e s m args below meth c dC dI dA E H locs cells slots ls S hl hL)
theorem xr_lconst {C : xCx} {pc : Nat} {L r : List Value} {hp : xHp} {n : Fin 2} (hd : decode (xmB (xcxM C)) pc = .ok (.lconst n, 1)) (K : xJ C (pc + 1) L (.long (Int64.ofNat (n : Nat)) :: r) hp) : xJ C pc L (r) hp := by
  intro p e s m args below meth c dC dI dA E H locs cells slots ls S hl hL
  obtain ⟨hx, hb, hml, hr, hlk, hnm, hown, hts, hKn, hsz, hlo⟩ := id E
  exact lv_lconst hx hb hd rfl (K p e s m args below meth c dC dI dA E H locs cells slots ls S hl hL)
theorem xr_null {C : xCx} {pc : Nat} {L r : List Value} {hp : xHp}  (hd : decode (xmB (xcxM C)) pc = .ok (.aconst_null, 1)) (K : xJ C (pc + 1) L (.null :: r) hp) : xJ C pc L (r) hp := by
  intro p e s m args below meth c dC dI dA E H locs cells slots ls S hl hL
  obtain ⟨hx, hb, hml, hr, hlk, hnm, hown, hts, hKn, hsz, hlo⟩ := id E
  exact lv_null hx hb hd (K p e s m args below meth c dC dI dA E H locs cells slots ls S hl hL)
theorem xr_iload_n {C : xCx} {pc : Nat} {L r : List Value} {hp : xHp} {n : Fin 4} {i : Nat} {x : Int32} (hn : (n : Nat) = i) (hi : L[i]? = some (.int x)) (hd : decode (xmB (xcxM C)) pc = .ok (.iload_n n, 1)) (K : xJ C (pc + 1) L (.int x :: r) hp) : xJ C pc L (r) hp := by
  intro p e s m args below meth c dC dI dA E H locs cells slots ls S hl hL
  obtain ⟨hx, hb, hml, hr, hlk, hnm, hown, hts, hKn, hsz, hlo⟩ := id E
  exact lv_iload_n hx hb hd hn (hl.2.2 (_, _) (xLv_mem.mpr ⟨_, hi, rfl, rfl⟩)) (K p e s m args below meth c dC dI dA E H locs cells slots ls S hl hL)
theorem xr_iload {C : xCx} {pc : Nat} {L r : List Value} {hp : xHp} {i : Nat} {x : Int32} (hi : L[i]? = some (.int x)) (hd : decode (xmB (xcxM C)) pc = .ok (.iload i, 2)) (K : xJ C (pc + 2) L (.int x :: r) hp) : xJ C pc L (r) hp := by
  intro p e s m args below meth c dC dI dA E H locs cells slots ls S hl hL
  obtain ⟨hx, hb, hml, hr, hlk, hnm, hown, hts, hKn, hsz, hlo⟩ := id E
  exact lv_iload hx hb hd (hl.2.2 (_, _) (xLv_mem.mpr ⟨_, hi, rfl, rfl⟩)) (K p e s m args below meth c dC dI dA E H locs cells slots ls S hl hL)
theorem xr_lload_n {C : xCx} {pc : Nat} {L r : List Value} {hp : xHp} {n : Fin 4} {i : Nat} {x : Int64} (hn : (n : Nat) = i) (hi : L[i]? = some (.long x)) (hd : decode (xmB (xcxM C)) pc = .ok (.lload_n n, 1)) (K : xJ C (pc + 1) L (.long x :: r) hp) : xJ C pc L (r) hp := by
  intro p e s m args below meth c dC dI dA E H locs cells slots ls S hl hL
  obtain ⟨hx, hb, hml, hr, hlk, hnm, hown, hts, hKn, hsz, hlo⟩ := id E
  exact lv_lload_n hx hb hd hn (hl.2.2 (_, _) (xLv_mem.mpr ⟨_, hi, rfl, rfl⟩)) (K p e s m args below meth c dC dI dA E H locs cells slots ls S hl hL)
theorem xr_lload {C : xCx} {pc : Nat} {L r : List Value} {hp : xHp} {i : Nat} {x : Int64} (hi : L[i]? = some (.long x)) (hd : decode (xmB (xcxM C)) pc = .ok (.lload i, 2)) (K : xJ C (pc + 2) L (.long x :: r) hp) : xJ C pc L (r) hp := by
  intro p e s m args below meth c dC dI dA E H locs cells slots ls S hl hL
  obtain ⟨hx, hb, hml, hr, hlk, hnm, hown, hts, hKn, hsz, hlo⟩ := id E
  exact lv_lload hx hb hd (hl.2.2 (_, _) (xLv_mem.mpr ⟨_, hi, rfl, rfl⟩)) (K p e s m args below meth c dC dI dA E H locs cells slots ls S hl hL)
theorem xr_aload_n {C : xCx} {pc : Nat} {L r : List Value} {hp : xHp} {n : Fin 4} {i : Nat} {x : Nat} (hn : (n : Nat) = i) (hi : L[i]? = some (.ref x)) (hd : decode (xmB (xcxM C)) pc = .ok (.aload_n n, 1)) (K : xJ C (pc + 1) L (.ref x :: r) hp) : xJ C pc L (r) hp := by
  intro p e s m args below meth c dC dI dA E H locs cells slots ls S hl hL
  obtain ⟨hx, hb, hml, hr, hlk, hnm, hown, hts, hKn, hsz, hlo⟩ := id E
  exact lv_aload_n hx hb hd hn (hl.2.2 (_, _) (xLv_mem.mpr ⟨_, hi, rfl, rfl⟩)) (K p e s m args below meth c dC dI dA E H locs cells slots ls S hl hL)
theorem xr_aload {C : xCx} {pc : Nat} {L r : List Value} {hp : xHp} {i : Nat} {x : Nat} (hi : L[i]? = some (.ref x)) (hd : decode (xmB (xcxM C)) pc = .ok (.aload i, 2)) (K : xJ C (pc + 2) L (.ref x :: r) hp) : xJ C pc L (r) hp := by
  intro p e s m args below meth c dC dI dA E H locs cells slots ls S hl hL
  obtain ⟨hx, hb, hml, hr, hlk, hnm, hown, hts, hKn, hsz, hlo⟩ := id E
  exact lv_aload hx hb hd (hl.2.2 (_, _) (xLv_mem.mpr ⟨_, hi, rfl, rfl⟩)) (K p e s m args below meth c dC dI dA E H locs cells slots ls S hl hL)
theorem xr_aload_nN {C : xCx} {pc : Nat} {L r : List Value} {hp : xHp} {n : Fin 4} {i : Nat} (hn : (n : Nat) = i) (hi : L[i]? = some .null) (hd : decode (xmB (xcxM C)) pc = .ok (.aload_n n, 1)) (K : xJ C (pc + 1) L (.null :: r) hp) : xJ C pc L (r) hp := by
  intro p e s m args below meth c dC dI dA E H locs cells slots ls S hl hL
  obtain ⟨hx, hb, hml, hr, hlk, hnm, hown, hts, hKn, hsz, hlo⟩ := id E
  exact lv_aload_nN hx hb hd hn (hl.2.2 (_, _) (xLv_mem.mpr ⟨_, hi, rfl, rfl⟩)) (K p e s m args below meth c dC dI dA E H locs cells slots ls S hl hL)
theorem xr_aloadN {C : xCx} {pc : Nat} {L r : List Value} {hp : xHp} {i : Nat} (hi : L[i]? = some .null) (hd : decode (xmB (xcxM C)) pc = .ok (.aload i, 2)) (K : xJ C (pc + 2) L (.null :: r) hp) : xJ C pc L (r) hp := by
  intro p e s m args below meth c dC dI dA E H locs cells slots ls S hl hL
  obtain ⟨hx, hb, hml, hr, hlk, hnm, hown, hts, hKn, hsz, hlo⟩ := id E
  exact lv_aloadN hx hb hd (hl.2.2 (_, _) (xLv_mem.mpr ⟨_, hi, rfl, rfl⟩)) (K p e s m args below meth c dC dI dA E H locs cells slots ls S hl hL)
theorem xLv_set1 {b i nL : Nat} {L : List Value} {ls : Array Slot} {v : Value} (hi : i < L.length) (hn : xNl L i) (hv : xIsD v = false) (h : lv_has ls nL ((i, xcV b v) :: (xLv b L).filter (fun q => !(q.1 == i) && !(q.1 + 1 == i && q.2.category == 2)))) : lv_has ls nL (xLv b (L.set i v)) := by
  refine ⟨h.1, h.2.1, fun q hq => h.2.2 q ?_⟩
  obtain ⟨w, h1, h2, h3⟩ := xLv_mem.mp hq
  obtain ⟨j, u⟩ := q
  have h1' : (L.set i v)[j]? = some w := h1
  have h3' : u = xcV b w := h3
  subst h3'
  by_cases hj : j = i
  · subst hj
    rw [List.getElem?_set_self hi] at h1'
    cases h1'
    exact List.mem_cons_self
  · rw [List.getElem?_set_ne (Ne.symm hj)] at h1'
    refine List.mem_cons_of_mem _ (List.mem_filter.mpr ⟨xLv_mem.mpr ⟨w, h1', h2, rfl⟩, ?_⟩)
    have e1 : (j == i) = false := by simp [hj]
    by_cases hj1 : j + 1 = i
    · subst hj1
      have hn' : ¬ (xcV b w).category = 2 := by
        simp only [xNl, h1'] at hn
        rw [xcV_cat]
        cases w <;> simp_all [Value.category]
      simp [e1, hn']
    · simp [e1, hj1]
theorem xLv_set2 {b i nL : Nat} {L : List Value} {ls : Array Slot} {v : Value} (hi : i + 1 < L.length) (hn : xNl L i) (hv : xIsD v = false) (h : lv_has ls nL ((i, xcV b v) :: (xLv b L).filter (fun q => !(q.1 == i) && (!(q.1 == i + 1) && !(q.1 + 1 == i && q.2.category == 2))))) : lv_has ls nL (xLv b ((L.set i v).set (i + 1) (.retAddr 0))) := by
  refine ⟨h.1, h.2.1, fun q hq => h.2.2 q ?_⟩
  obtain ⟨w, h1, h2, h3⟩ := xLv_mem.mp hq
  obtain ⟨j, u⟩ := q
  have h1' : ((L.set i v).set (i + 1) (.retAddr 0))[j]? = some w := h1
  have h3' : u = xcV b w := h3
  subst h3'
  by_cases hk : j = i + 1
  · subst hk
    rw [List.getElem?_set_self (by simpa using hi)] at h1'
    cases h1'
    cases h2
  rw [List.getElem?_set_ne (Ne.symm hk)] at h1'
  by_cases hj : j = i
  · subst hj
    rw [List.getElem?_set_self (by omega)] at h1'
    cases h1'
    exact List.mem_cons_self
  · rw [List.getElem?_set_ne (Ne.symm hj)] at h1'
    refine List.mem_cons_of_mem _ (List.mem_filter.mpr ⟨xLv_mem.mpr ⟨w, h1', h2, rfl⟩, ?_⟩)
    have e1 : (j == i) = false := by simp [hj]
    have e2 : (j == i + 1) = false := by simp [hk]
    by_cases hj1 : j + 1 = i
    · subst hj1
      have hn' : ¬ (xcV b w).category = 2 := by
        simp only [xNl, h1'] at hn
        rw [xcV_cat]
        cases w <;> simp_all [Value.category]
      simp [e1, hn']
      omega
    · simp [e1, e2, hj1]
theorem xr_istore_n {C : xCx} {pc : Nat} {L r : List Value} {hp : xHp} {n : Fin 4} {i : Nat} (hn : (n : Nat) = i) {x : Int32} (hi : i < L.length) (hN : xNl L i) (hd : decode (xmB (xcxM C)) pc = .ok (.istore_n n, 1)) (K : xJ C (pc + 1) (L.set i (.int x)) (r) hp) : xJ C pc L (.int x :: r) hp := by
  intro p e s m args below meth c dC dI dA E H locs cells slots ls S hl hL
  obtain ⟨hx, hb, hml, hr, hlk, hnm, hown, hts, hKn, hsz, hlo⟩ := id E
  exact lv_istore_n hx hb hd hn hl (by rw [← hL]; exact hi) rfl (fun ls' hl' => K p e s m args below meth c dC dI dA E H locs cells slots ls' S (xLv_set1 (v := .int x) hi hN rfl hl') (by rw [List.length_set]; exact hL))
theorem xr_istore {C : xCx} {pc : Nat} {L r : List Value} {hp : xHp} {i : Nat} {x : Int32} (hi : i < L.length) (hN : xNl L i) (hd : decode (xmB (xcxM C)) pc = .ok (.istore i, 2)) (K : xJ C (pc + 2) (L.set i (.int x)) (r) hp) : xJ C pc L (.int x :: r) hp := by
  intro p e s m args below meth c dC dI dA E H locs cells slots ls S hl hL
  obtain ⟨hx, hb, hml, hr, hlk, hnm, hown, hts, hKn, hsz, hlo⟩ := id E
  exact lv_istore hx hb hd hl (by rw [← hL]; exact hi) rfl (fun ls' hl' => K p e s m args below meth c dC dI dA E H locs cells slots ls' S (xLv_set1 (v := .int x) hi hN rfl hl') (by rw [List.length_set]; exact hL))
theorem xr_astore_n {C : xCx} {pc : Nat} {L r : List Value} {hp : xHp} {n : Fin 4} {i : Nat} (hn : (n : Nat) = i) {x : Nat} (hi : i < L.length) (hN : xNl L i) (hd : decode (xmB (xcxM C)) pc = .ok (.astore_n n, 1)) (K : xJ C (pc + 1) (L.set i (.ref x)) (r) hp) : xJ C pc L (.ref x :: r) hp := by
  intro p e s m args below meth c dC dI dA E H locs cells slots ls S hl hL
  obtain ⟨hx, hb, hml, hr, hlk, hnm, hown, hts, hKn, hsz, hlo⟩ := id E
  exact lv_astore_n hx hb hd hn hl (by rw [← hL]; exact hi) rfl (fun ls' hl' => K p e s m args below meth c dC dI dA E H locs cells slots ls' S (xLv_set1 (v := .ref x) hi hN rfl hl') (by rw [List.length_set]; exact hL))
theorem xr_astore {C : xCx} {pc : Nat} {L r : List Value} {hp : xHp} {i : Nat} {x : Nat} (hi : i < L.length) (hN : xNl L i) (hd : decode (xmB (xcxM C)) pc = .ok (.astore i, 2)) (K : xJ C (pc + 2) (L.set i (.ref x)) (r) hp) : xJ C pc L (.ref x :: r) hp := by
  intro p e s m args below meth c dC dI dA E H locs cells slots ls S hl hL
  obtain ⟨hx, hb, hml, hr, hlk, hnm, hown, hts, hKn, hsz, hlo⟩ := id E
  exact lv_astore hx hb hd hl (by rw [← hL]; exact hi) rfl (fun ls' hl' => K p e s m args below meth c dC dI dA E H locs cells slots ls' S (xLv_set1 (v := .ref x) hi hN rfl hl') (by rw [List.length_set]; exact hL))
theorem xr_astore_nN {C : xCx} {pc : Nat} {L r : List Value} {hp : xHp} {n : Fin 4} {i : Nat} (hn : (n : Nat) = i) (hi : i < L.length) (hN : xNl L i) (hd : decode (xmB (xcxM C)) pc = .ok (.astore_n n, 1)) (K : xJ C (pc + 1) (L.set i .null) (r) hp) : xJ C pc L (.null :: r) hp := by
  intro p e s m args below meth c dC dI dA E H locs cells slots ls S hl hL
  obtain ⟨hx, hb, hml, hr, hlk, hnm, hown, hts, hKn, hsz, hlo⟩ := id E
  exact lv_astore_nN hx hb hd hn hl (by rw [← hL]; exact hi) rfl (fun ls' hl' => K p e s m args below meth c dC dI dA E H locs cells slots ls' S (xLv_set1 (v := .null) hi hN rfl hl') (by rw [List.length_set]; exact hL))
theorem xr_lstore_n {C : xCx} {pc : Nat} {L r : List Value} {hp : xHp} {n : Fin 4} {i : Nat} (hn : (n : Nat) = i) {x : Int64} (hi : i + 1 < L.length) (hN : xNl L i) (hd : decode (xmB (xcxM C)) pc = .ok (.lstore_n n, 1)) (K : xJ C (pc + 1) ((L.set i (.long x)).set (i + 1) (.retAddr 0)) (r) hp) : xJ C pc L (.long x :: r) hp := by
  intro p e s m args below meth c dC dI dA E H locs cells slots ls S hl hL
  obtain ⟨hx, hb, hml, hr, hlk, hnm, hown, hts, hKn, hsz, hlo⟩ := id E
  exact lv_lstore_n hx hb hd hn hl (by rw [← hL]; exact hi) rfl (fun ls' hl' => K p e s m args below meth c dC dI dA E H locs cells slots ls' S (xLv_set2 (v := .long x) hi hN rfl hl') (by rw [List.length_set, List.length_set]; exact hL))
theorem xr_astoreN {C : xCx} {pc : Nat} {L r : List Value} {hp : xHp} {i : Nat} (hi : i < L.length) (hN : xNl L i) (hd : decode (xmB (xcxM C)) pc = .ok (.astore i, 2)) (K : xJ C (pc + 2) (L.set i .null) (r) hp) : xJ C pc L (.null :: r) hp := by
  intro p e s m args below meth c dC dI dA E H locs cells slots ls S hl hL
  obtain ⟨hx, hb, hml, hr, hlk, hnm, hown, hts, hKn, hsz, hlo⟩ := id E
  exact lv_astoreN hx hb hd hl (by rw [← hL]; exact hi) rfl (fun ls' hl' => K p e s m args below meth c dC dI dA E H locs cells slots ls' S (xLv_set1 (v := .null) hi hN rfl hl') (by rw [List.length_set]; exact hL))
theorem xr_lstore {C : xCx} {pc : Nat} {L r : List Value} {hp : xHp} {i : Nat} {x : Int64} (hi : i + 1 < L.length) (hN : xNl L i) (hd : decode (xmB (xcxM C)) pc = .ok (.lstore i, 2)) (K : xJ C (pc + 2) ((L.set i (.long x)).set (i + 1) (.retAddr 0)) (r) hp) : xJ C pc L (.long x :: r) hp := by
  intro p e s m args below meth c dC dI dA E H locs cells slots ls S hl hL
  obtain ⟨hx, hb, hml, hr, hlk, hnm, hown, hts, hKn, hsz, hlo⟩ := id E
  exact lv_lstore hx hb hd hl (by rw [← hL]; exact hi) rfl (fun ls' hl' => K p e s m args below meth c dC dI dA E H locs cells slots ls' S (xLv_set2 (v := .long x) hi hN rfl hl') (by rw [List.length_set, List.length_set]; exact hL))
theorem xr_iinc {C : xCx} {pc : Nat} {L r : List Value} {hp : xHp} {i : Nat} {n : Int} {x : Int32} (hi : L[i]? = some (.int x)) (hN : xNl L i) (hd : decode (xmB (xcxM C)) pc = .ok (.iinc i n, 3)) (K : xJ C (pc + 3) (L.set i (.int (x + Int32.ofInt n))) (r) hp) : xJ C pc L (r) hp := by
  intro p e s m args below meth c dC dI dA E H locs cells slots ls S hl hL
  obtain ⟨hx, hb, hml, hr, hlk, hnm, hown, hts, hKn, hsz, hlo⟩ := id E
  obtain ⟨k, hk⟩ := List.getElem?_of_mem (xLv_mem (b := xcxB C) (q := (i, xcV (xcxB C) (.int x))) |>.mpr ⟨_, hi, rfl, rfl⟩)
  have hi' : i < L.length := (List.getElem?_eq_some_iff.mp hi).1
  exact lv_iinc hx hb hd hl hk rfl (by rw [← hL]; exact hi') rfl (fun ls' hl' => K p e s m args below meth c dC dI dA E H locs cells slots ls' S (xLv_set1 (v := .int (x + Int32.ofInt n)) hi' hN rfl hl') (by rw [List.length_set]; exact hL))
theorem xr_iadd {C : xCx} {pc : Nat} {L r : List Value} {hp : xHp} {x y : Int32} (hd : decode (xmB (xcxM C)) pc = .ok (.iadd, 1)) (K : xJ C (pc + 1) L (.int (x + y) :: r) hp) : xJ C pc L (.int y :: .int x :: r) hp := by
  intro p e s m args below meth c dC dI dA E H locs cells slots ls S hl hL
  obtain ⟨hx, hb, hml, hr, hlk, hnm, hown, hts, hKn, hsz, hlo⟩ := id E
  exact lv_iadd hx hb hd (K p e s m args below meth c dC dI dA E H locs cells slots ls S hl hL)
theorem xr_isub {C : xCx} {pc : Nat} {L r : List Value} {hp : xHp} {x y : Int32} (hd : decode (xmB (xcxM C)) pc = .ok (.isub, 1)) (K : xJ C (pc + 1) L (.int (x - y) :: r) hp) : xJ C pc L (.int y :: .int x :: r) hp := by
  intro p e s m args below meth c dC dI dA E H locs cells slots ls S hl hL
  obtain ⟨hx, hb, hml, hr, hlk, hnm, hown, hts, hKn, hsz, hlo⟩ := id E
  exact lv_isub hx hb hd (K p e s m args below meth c dC dI dA E H locs cells slots ls S hl hL)
theorem xr_imul {C : xCx} {pc : Nat} {L r : List Value} {hp : xHp} {x y : Int32} (hd : decode (xmB (xcxM C)) pc = .ok (.imul, 1)) (K : xJ C (pc + 1) L (.int (x * y) :: r) hp) : xJ C pc L (.int y :: .int x :: r) hp := by
  intro p e s m args below meth c dC dI dA E H locs cells slots ls S hl hL
  obtain ⟨hx, hb, hml, hr, hlk, hnm, hown, hts, hKn, hsz, hlo⟩ := id E
  exact lv_imul hx hb hd (K p e s m args below meth c dC dI dA E H locs cells slots ls S hl hL)
theorem xr_iand {C : xCx} {pc : Nat} {L r : List Value} {hp : xHp} {x y : Int32} (hd : decode (xmB (xcxM C)) pc = .ok (.iand, 1)) (K : xJ C (pc + 1) L (.int (x &&& y) :: r) hp) : xJ C pc L (.int y :: .int x :: r) hp := by
  intro p e s m args below meth c dC dI dA E H locs cells slots ls S hl hL
  obtain ⟨hx, hb, hml, hr, hlk, hnm, hown, hts, hKn, hsz, hlo⟩ := id E
  exact lv_iand hx hb hd (K p e s m args below meth c dC dI dA E H locs cells slots ls S hl hL)
theorem xr_ior {C : xCx} {pc : Nat} {L r : List Value} {hp : xHp} {x y : Int32} (hd : decode (xmB (xcxM C)) pc = .ok (.ior, 1)) (K : xJ C (pc + 1) L (.int (x ||| y) :: r) hp) : xJ C pc L (.int y :: .int x :: r) hp := by
  intro p e s m args below meth c dC dI dA E H locs cells slots ls S hl hL
  obtain ⟨hx, hb, hml, hr, hlk, hnm, hown, hts, hKn, hsz, hlo⟩ := id E
  exact lv_ior hx hb hd (K p e s m args below meth c dC dI dA E H locs cells slots ls S hl hL)
theorem xr_ixor {C : xCx} {pc : Nat} {L r : List Value} {hp : xHp} {x y : Int32} (hd : decode (xmB (xcxM C)) pc = .ok (.ixor, 1)) (K : xJ C (pc + 1) L (.int (x ^^^ y) :: r) hp) : xJ C pc L (.int y :: .int x :: r) hp := by
  intro p e s m args below meth c dC dI dA E H locs cells slots ls S hl hL
  obtain ⟨hx, hb, hml, hr, hlk, hnm, hown, hts, hKn, hsz, hlo⟩ := id E
  exact lv_ixor hx hb hd (K p e s m args below meth c dC dI dA E H locs cells slots ls S hl hL)
theorem xr_ishl {C : xCx} {pc : Nat} {L r : List Value} {hp : xHp} {x y : Int32} (hd : decode (xmB (xcxM C)) pc = .ok (.ishl, 1)) (K : xJ C (pc + 1) L (.int (x <<< (y &&& 31)) :: r) hp) : xJ C pc L (.int y :: .int x :: r) hp := by
  intro p e s m args below meth c dC dI dA E H locs cells slots ls S hl hL
  obtain ⟨hx, hb, hml, hr, hlk, hnm, hown, hts, hKn, hsz, hlo⟩ := id E
  exact lv_ishl hx hb hd (K p e s m args below meth c dC dI dA E H locs cells slots ls S hl hL)
theorem xr_ishr {C : xCx} {pc : Nat} {L r : List Value} {hp : xHp} {x y : Int32} (hd : decode (xmB (xcxM C)) pc = .ok (.ishr, 1)) (K : xJ C (pc + 1) L (.int (x >>> (y &&& 31)) :: r) hp) : xJ C pc L (.int y :: .int x :: r) hp := by
  intro p e s m args below meth c dC dI dA E H locs cells slots ls S hl hL
  obtain ⟨hx, hb, hml, hr, hlk, hnm, hown, hts, hKn, hsz, hlo⟩ := id E
  exact lv_ishr hx hb hd (K p e s m args below meth c dC dI dA E H locs cells slots ls S hl hL)
theorem xr_iushr {C : xCx} {pc : Nat} {L r : List Value} {hp : xHp} {x y : Int32} (hd : decode (xmB (xcxM C)) pc = .ok (.iushr, 1)) (K : xJ C (pc + 1) L (.int (x.toUInt32 >>> (y.toUInt32 &&& Int32.toUInt32 31)).toInt32 :: r) hp) : xJ C pc L (.int y :: .int x :: r) hp := by
  intro p e s m args below meth c dC dI dA E H locs cells slots ls S hl hL
  obtain ⟨hx, hb, hml, hr, hlk, hnm, hown, hts, hKn, hsz, hlo⟩ := id E
  exact lv_iushr hx hb hd rfl (K p e s m args below meth c dC dI dA E H locs cells slots ls S hl hL)
theorem xr_idiv {C : xCx} {pc : Nat} {L r : List Value} {hp : xHp} {x y : Int32} (hne : ¬ y = 0) (hd : decode (xmB (xcxM C)) pc = .ok (.idiv, 1)) (K : xJ C (pc + 1) L (.int (x / y) :: r) hp) : xJ C pc L (.int y :: .int x :: r) hp := by
  intro p e s m args below meth c dC dI dA E H locs cells slots ls S hl hL
  obtain ⟨hx, hb, hml, hr, hlk, hnm, hown, hts, hKn, hsz, hlo⟩ := id E
  exact lv_idiv hx hb hd hne (K p e s m args below meth c dC dI dA E H locs cells slots ls S hl hL)
theorem xr_irem {C : xCx} {pc : Nat} {L r : List Value} {hp : xHp} {x y : Int32} (hne : ¬ y = 0) (hd : decode (xmB (xcxM C)) pc = .ok (.irem, 1)) (K : xJ C (pc + 1) L (.int (x - x / y * y) :: r) hp) : xJ C pc L (.int y :: .int x :: r) hp := by
  intro p e s m args below meth c dC dI dA E H locs cells slots ls S hl hL
  obtain ⟨hx, hb, hml, hr, hlk, hnm, hown, hts, hKn, hsz, hlo⟩ := id E
  exact lv_irem hx hb hd hne (K p e s m args below meth c dC dI dA E H locs cells slots ls S hl hL)
theorem xr_ineg {C : xCx} {pc : Nat} {L r : List Value} {hp : xHp} {x : Int32} (hd : decode (xmB (xcxM C)) pc = .ok (.ineg, 1)) (K : xJ C (pc + 1) L (.int (-x) :: r) hp) : xJ C pc L (.int x :: r) hp := by
  intro p e s m args below meth c dC dI dA E H locs cells slots ls S hl hL
  obtain ⟨hx, hb, hml, hr, hlk, hnm, hown, hts, hKn, hsz, hlo⟩ := id E
  exact lv_ineg hx hb hd (K p e s m args below meth c dC dI dA E H locs cells slots ls S hl hL)
theorem xr_ladd {C : xCx} {pc : Nat} {L r : List Value} {hp : xHp} {x y : Int64} (hd : decode (xmB (xcxM C)) pc = .ok (.ladd, 1)) (K : xJ C (pc + 1) L (.long (x + y) :: r) hp) : xJ C pc L (.long y :: .long x :: r) hp := by
  intro p e s m args below meth c dC dI dA E H locs cells slots ls S hl hL
  obtain ⟨hx, hb, hml, hr, hlk, hnm, hown, hts, hKn, hsz, hlo⟩ := id E
  exact lv_ladd hx hb hd (K p e s m args below meth c dC dI dA E H locs cells slots ls S hl hL)
theorem xr_lsub {C : xCx} {pc : Nat} {L r : List Value} {hp : xHp} {x y : Int64} (hd : decode (xmB (xcxM C)) pc = .ok (.lsub, 1)) (K : xJ C (pc + 1) L (.long (x - y) :: r) hp) : xJ C pc L (.long y :: .long x :: r) hp := by
  intro p e s m args below meth c dC dI dA E H locs cells slots ls S hl hL
  obtain ⟨hx, hb, hml, hr, hlk, hnm, hown, hts, hKn, hsz, hlo⟩ := id E
  exact lv_lsub hx hb hd (K p e s m args below meth c dC dI dA E H locs cells slots ls S hl hL)
theorem xr_lmul {C : xCx} {pc : Nat} {L r : List Value} {hp : xHp} {x y : Int64} (hd : decode (xmB (xcxM C)) pc = .ok (.lmul, 1)) (K : xJ C (pc + 1) L (.long (x * y) :: r) hp) : xJ C pc L (.long y :: .long x :: r) hp := by
  intro p e s m args below meth c dC dI dA E H locs cells slots ls S hl hL
  obtain ⟨hx, hb, hml, hr, hlk, hnm, hown, hts, hKn, hsz, hlo⟩ := id E
  exact lv_lmul hx hb hd (K p e s m args below meth c dC dI dA E H locs cells slots ls S hl hL)
theorem xr_ldiv {C : xCx} {pc : Nat} {L r : List Value} {hp : xHp} {x y : Int64} (hne : ¬ y = 0) (hd : decode (xmB (xcxM C)) pc = .ok (.ldiv, 1)) (K : xJ C (pc + 1) L (.long (x / y) :: r) hp) : xJ C pc L (.long y :: .long x :: r) hp := by
  intro p e s m args below meth c dC dI dA E H locs cells slots ls S hl hL
  obtain ⟨hx, hb, hml, hr, hlk, hnm, hown, hts, hKn, hsz, hlo⟩ := id E
  exact lv_ldiv hx hb hd hne (K p e s m args below meth c dC dI dA E H locs cells slots ls S hl hL)
theorem xr_lrem {C : xCx} {pc : Nat} {L r : List Value} {hp : xHp} {x y : Int64} (hne : ¬ y = 0) (hd : decode (xmB (xcxM C)) pc = .ok (.lrem, 1)) (K : xJ C (pc + 1) L (.long (x - x / y * y) :: r) hp) : xJ C pc L (.long y :: .long x :: r) hp := by
  intro p e s m args below meth c dC dI dA E H locs cells slots ls S hl hL
  obtain ⟨hx, hb, hml, hr, hlk, hnm, hown, hts, hKn, hsz, hlo⟩ := id E
  exact lv_lrem hx hb hd hne (K p e s m args below meth c dC dI dA E H locs cells slots ls S hl hL)
theorem xr_lcmp {C : xCx} {pc : Nat} {L r : List Value} {hp : xHp} {x y : Int64} (hd : decode (xmB (xcxM C)) pc = .ok (.lcmp, 1)) (K : xJ C (pc + 1) L (.int (lg_cmp x y) :: r) hp) : xJ C pc L (.long y :: .long x :: r) hp := by
  intro p e s m args below meth c dC dI dA E H locs cells slots ls S hl hL
  obtain ⟨hx, hb, hml, hr, hlk, hnm, hown, hts, hKn, hsz, hlo⟩ := id E
  exact W.lcmp hx hb hd (K p e s m args below meth c dC dI dA E H locs cells slots ls S hl hL)
theorem xr_i2l {C : xCx} {pc : Nat} {L r : List Value} {hp : xHp} {x : Int32} (hd : decode (xmB (xcxM C)) pc = .ok (.i2l, 1)) (K : xJ C (pc + 1) L (.long x.toInt64 :: r) hp) : xJ C pc L (.int x :: r) hp := by
  intro p e s m args below meth c dC dI dA E H locs cells slots ls S hl hL
  obtain ⟨hx, hb, hml, hr, hlk, hnm, hown, hts, hKn, hsz, hlo⟩ := id E
  exact lv_i2l hx hb hd rfl (K p e s m args below meth c dC dI dA E H locs cells slots ls S hl hL)
theorem xr_l2i {C : xCx} {pc : Nat} {L r : List Value} {hp : xHp} {x : Int64} (hd : decode (xmB (xcxM C)) pc = .ok (.l2i, 1)) (K : xJ C (pc + 1) L (.int x.toInt32 :: r) hp) : xJ C pc L (.long x :: r) hp := by
  intro p e s m args below meth c dC dI dA E H locs cells slots ls S hl hL
  obtain ⟨hx, hb, hml, hr, hlk, hnm, hown, hts, hKn, hsz, hlo⟩ := id E
  exact lv_l2i hx hb hd rfl (K p e s m args below meth c dC dI dA E H locs cells slots ls S hl hL)
theorem xr_i2b {C : xCx} {pc : Nat} {L r : List Value} {hp : xHp} {x : Int32} (hd : decode (xmB (xcxM C)) pc = .ok (.i2b, 1)) (K : xJ C (pc + 1) L (.int x.toInt8.toInt32 :: r) hp) : xJ C pc L (.int x :: r) hp := by
  intro p e s m args below meth c dC dI dA E H locs cells slots ls S hl hL
  obtain ⟨hx, hb, hml, hr, hlk, hnm, hown, hts, hKn, hsz, hlo⟩ := id E
  exact lv_i2b hx hb hd rfl (K p e s m args below meth c dC dI dA E H locs cells slots ls S hl hL)
theorem xr_i2s {C : xCx} {pc : Nat} {L r : List Value} {hp : xHp} {x : Int32} (hd : decode (xmB (xcxM C)) pc = .ok (.i2s, 1)) (K : xJ C (pc + 1) L (.int x.toInt16.toInt32 :: r) hp) : xJ C pc L (.int x :: r) hp := by
  intro p e s m args below meth c dC dI dA E H locs cells slots ls S hl hL
  obtain ⟨hx, hb, hml, hr, hlk, hnm, hown, hts, hKn, hsz, hlo⟩ := id E
  exact lv_i2s hx hb hd rfl (K p e s m args below meth c dC dI dA E H locs cells slots ls S hl hL)
theorem xr_dup {C : xCx} {pc : Nat} {L r : List Value} {hp : xHp} {v : Value} (hv : v.category = 1) (hd : decode (xmB (xcxM C)) pc = .ok (.dup, 1)) (K : xJ C (pc + 1) L (v :: v :: r) hp) : xJ C pc L (v :: r) hp := by
  intro p e s m args below meth c dC dI dA E H locs cells slots ls S hl hL
  obtain ⟨hx, hb, hml, hr, hlk, hnm, hown, hts, hKn, hsz, hlo⟩ := id E
  exact lv_dup hx hb hd ((xcV_cat _ _).trans hv) (K p e s m args below meth c dC dI dA E H locs cells slots ls S hl hL)
theorem xr_pop {C : xCx} {pc : Nat} {L r : List Value} {hp : xHp} {v : Value} (hv : v.category = 1) (hd : decode (xmB (xcxM C)) pc = .ok (.pop, 1)) (K : xJ C (pc + 1) L (r) hp) : xJ C pc L (v :: r) hp := by
  intro p e s m args below meth c dC dI dA E H locs cells slots ls S hl hL
  obtain ⟨hx, hb, hml, hr, hlk, hnm, hown, hts, hKn, hsz, hlo⟩ := id E
  exact lv_pop hx hb hd ((xcV_cat _ _).trans hv) (K p e s m args below meth c dC dI dA E H locs cells slots ls S hl hL)
theorem xr_dup_x1 {C : xCx} {pc : Nat} {L r : List Value} {hp : xHp} {v w : Value} (hv : v.category = 1) (hw : w.category = 1) (hd : decode (xmB (xcxM C)) pc = .ok (.dup_x1, 1)) (K : xJ C (pc + 1) L (v :: w :: v :: r) hp) : xJ C pc L (v :: w :: r) hp := by
  intro p e s m args below meth c dC dI dA E H locs cells slots ls S hl hL
  obtain ⟨hx, hb, hml, hr, hlk, hnm, hown, hts, hKn, hsz, hlo⟩ := id E
  exact lv_dup_x1 hx hb hd ((xcV_cat _ _).trans hv) ((xcV_cat _ _).trans hw) (K p e s m args below meth c dC dI dA E H locs cells slots ls S hl hL)
theorem xr_dup2 {C : xCx} {pc : Nat} {L r : List Value} {hp : xHp} {v w : Value} (hv : v.category = 1) (hw : w.category = 1) (hd : decode (xmB (xcxM C)) pc = .ok (.dup2, 1)) (K : xJ C (pc + 1) L (v :: w :: v :: w :: r) hp) : xJ C pc L (v :: w :: r) hp := by
  intro p e s m args below meth c dC dI dA E H locs cells slots ls S hl hL
  obtain ⟨hx, hb, hml, hr, hlk, hnm, hown, hts, hKn, hsz, hlo⟩ := id E
  exact lv_dup2_11 hx hb hd ((xcV_cat _ _).trans hv) ((xcV_cat _ _).trans hw) (K p e s m args below meth c dC dI dA E H locs cells slots ls S hl hL)
theorem xr_icmp_eq {C : xCx} {pc : Nat} {L r : List Value} {hp : xHp} {x y : Int32} {off : Int} {tgt : Nat} (hd : decode (xmB (xcxM C)) pc = .ok (.if_icmp .eq off, 3)) (ht : (pc : Int) + off = (tgt : Int)) (Kt : x = y → xJ C tgt L r hp) (Kf : ¬ x = y → xJ C (pc + 3) L r hp) : xJ C pc L (.int y :: .int x :: r) hp := by
  intro p e s m args below meth c dC dI dA E H locs cells slots ls S hl hL
  obtain ⟨hx, hb, hml, hr, hlk, hnm, hown, hts, hKn, hsz, hlo⟩ := id E
  exact lv_icmp_eq hx hb hd ht (fun h => Kt h p e s m args below meth c dC dI dA E H locs cells slots ls S hl hL) (fun h => Kf h p e s m args below meth c dC dI dA E H locs cells slots ls S hl hL)
theorem xr_if_eq {C : xCx} {pc : Nat} {L r : List Value} {hp : xHp} {x : Int32} {off : Int} {tgt : Nat} (hd : decode (xmB (xcxM C)) pc = .ok (.ifCond .eq off, 3)) (ht : (pc : Int) + off = (tgt : Int)) (Kt : x = 0 → xJ C tgt L r hp) (Kf : ¬ x = 0 → xJ C (pc + 3) L r hp) : xJ C pc L (.int x :: r) hp := by
  intro p e s m args below meth c dC dI dA E H locs cells slots ls S hl hL
  obtain ⟨hx, hb, hml, hr, hlk, hnm, hown, hts, hKn, hsz, hlo⟩ := id E
  exact lv_if_eq hx hb hd ht (fun h => Kt h p e s m args below meth c dC dI dA E H locs cells slots ls S hl hL) (fun h => Kf h p e s m args below meth c dC dI dA E H locs cells slots ls S hl hL)
theorem xr_icmp_ne {C : xCx} {pc : Nat} {L r : List Value} {hp : xHp} {x y : Int32} {off : Int} {tgt : Nat} (hd : decode (xmB (xcxM C)) pc = .ok (.if_icmp .ne off, 3)) (ht : (pc : Int) + off = (tgt : Int)) (Kt : ¬ x = y → xJ C tgt L r hp) (Kf : x = y → xJ C (pc + 3) L r hp) : xJ C pc L (.int y :: .int x :: r) hp := by
  intro p e s m args below meth c dC dI dA E H locs cells slots ls S hl hL
  obtain ⟨hx, hb, hml, hr, hlk, hnm, hown, hts, hKn, hsz, hlo⟩ := id E
  exact lv_icmp_ne hx hb hd ht (fun h => Kt h p e s m args below meth c dC dI dA E H locs cells slots ls S hl hL) (fun h => Kf h p e s m args below meth c dC dI dA E H locs cells slots ls S hl hL)
theorem xr_if_ne {C : xCx} {pc : Nat} {L r : List Value} {hp : xHp} {x : Int32} {off : Int} {tgt : Nat} (hd : decode (xmB (xcxM C)) pc = .ok (.ifCond .ne off, 3)) (ht : (pc : Int) + off = (tgt : Int)) (Kt : ¬ x = 0 → xJ C tgt L r hp) (Kf : x = 0 → xJ C (pc + 3) L r hp) : xJ C pc L (.int x :: r) hp := by
  intro p e s m args below meth c dC dI dA E H locs cells slots ls S hl hL
  obtain ⟨hx, hb, hml, hr, hlk, hnm, hown, hts, hKn, hsz, hlo⟩ := id E
  exact lv_if_ne hx hb hd ht (fun h => Kt h p e s m args below meth c dC dI dA E H locs cells slots ls S hl hL) (fun h => Kf h p e s m args below meth c dC dI dA E H locs cells slots ls S hl hL)
theorem xr_icmp_lt {C : xCx} {pc : Nat} {L r : List Value} {hp : xHp} {x y : Int32} {off : Int} {tgt : Nat} (hd : decode (xmB (xcxM C)) pc = .ok (.if_icmp .lt off, 3)) (ht : (pc : Int) + off = (tgt : Int)) (Kt : x < y → xJ C tgt L r hp) (Kf : ¬ x < y → xJ C (pc + 3) L r hp) : xJ C pc L (.int y :: .int x :: r) hp := by
  intro p e s m args below meth c dC dI dA E H locs cells slots ls S hl hL
  obtain ⟨hx, hb, hml, hr, hlk, hnm, hown, hts, hKn, hsz, hlo⟩ := id E
  exact lv_icmp_lt hx hb hd ht (fun h => Kt h p e s m args below meth c dC dI dA E H locs cells slots ls S hl hL) (fun h => Kf h p e s m args below meth c dC dI dA E H locs cells slots ls S hl hL)
theorem xr_if_lt {C : xCx} {pc : Nat} {L r : List Value} {hp : xHp} {x : Int32} {off : Int} {tgt : Nat} (hd : decode (xmB (xcxM C)) pc = .ok (.ifCond .lt off, 3)) (ht : (pc : Int) + off = (tgt : Int)) (Kt : x < 0 → xJ C tgt L r hp) (Kf : ¬ x < 0 → xJ C (pc + 3) L r hp) : xJ C pc L (.int x :: r) hp := by
  intro p e s m args below meth c dC dI dA E H locs cells slots ls S hl hL
  obtain ⟨hx, hb, hml, hr, hlk, hnm, hown, hts, hKn, hsz, hlo⟩ := id E
  exact lv_if_lt hx hb hd ht (fun h => Kt h p e s m args below meth c dC dI dA E H locs cells slots ls S hl hL) (fun h => Kf h p e s m args below meth c dC dI dA E H locs cells slots ls S hl hL)
theorem xr_icmp_ge {C : xCx} {pc : Nat} {L r : List Value} {hp : xHp} {x y : Int32} {off : Int} {tgt : Nat} (hd : decode (xmB (xcxM C)) pc = .ok (.if_icmp .ge off, 3)) (ht : (pc : Int) + off = (tgt : Int)) (Kt : y ≤ x → xJ C tgt L r hp) (Kf : ¬ y ≤ x → xJ C (pc + 3) L r hp) : xJ C pc L (.int y :: .int x :: r) hp := by
  intro p e s m args below meth c dC dI dA E H locs cells slots ls S hl hL
  obtain ⟨hx, hb, hml, hr, hlk, hnm, hown, hts, hKn, hsz, hlo⟩ := id E
  exact lv_icmp_ge hx hb hd ht (fun h => Kt h p e s m args below meth c dC dI dA E H locs cells slots ls S hl hL) (fun h => Kf h p e s m args below meth c dC dI dA E H locs cells slots ls S hl hL)
theorem xr_if_ge {C : xCx} {pc : Nat} {L r : List Value} {hp : xHp} {x : Int32} {off : Int} {tgt : Nat} (hd : decode (xmB (xcxM C)) pc = .ok (.ifCond .ge off, 3)) (ht : (pc : Int) + off = (tgt : Int)) (Kt : 0 ≤ x → xJ C tgt L r hp) (Kf : ¬ 0 ≤ x → xJ C (pc + 3) L r hp) : xJ C pc L (.int x :: r) hp := by
  intro p e s m args below meth c dC dI dA E H locs cells slots ls S hl hL
  obtain ⟨hx, hb, hml, hr, hlk, hnm, hown, hts, hKn, hsz, hlo⟩ := id E
  exact lv_if_ge hx hb hd ht (fun h => Kt h p e s m args below meth c dC dI dA E H locs cells slots ls S hl hL) (fun h => Kf h p e s m args below meth c dC dI dA E H locs cells slots ls S hl hL)
theorem xr_icmp_gt {C : xCx} {pc : Nat} {L r : List Value} {hp : xHp} {x y : Int32} {off : Int} {tgt : Nat} (hd : decode (xmB (xcxM C)) pc = .ok (.if_icmp .gt off, 3)) (ht : (pc : Int) + off = (tgt : Int)) (Kt : y < x → xJ C tgt L r hp) (Kf : ¬ y < x → xJ C (pc + 3) L r hp) : xJ C pc L (.int y :: .int x :: r) hp := by
  intro p e s m args below meth c dC dI dA E H locs cells slots ls S hl hL
  obtain ⟨hx, hb, hml, hr, hlk, hnm, hown, hts, hKn, hsz, hlo⟩ := id E
  exact lv_icmp_gt hx hb hd ht (fun h => Kt h p e s m args below meth c dC dI dA E H locs cells slots ls S hl hL) (fun h => Kf h p e s m args below meth c dC dI dA E H locs cells slots ls S hl hL)
theorem xr_if_gt {C : xCx} {pc : Nat} {L r : List Value} {hp : xHp} {x : Int32} {off : Int} {tgt : Nat} (hd : decode (xmB (xcxM C)) pc = .ok (.ifCond .gt off, 3)) (ht : (pc : Int) + off = (tgt : Int)) (Kt : 0 < x → xJ C tgt L r hp) (Kf : ¬ 0 < x → xJ C (pc + 3) L r hp) : xJ C pc L (.int x :: r) hp := by
  intro p e s m args below meth c dC dI dA E H locs cells slots ls S hl hL
  obtain ⟨hx, hb, hml, hr, hlk, hnm, hown, hts, hKn, hsz, hlo⟩ := id E
  exact lv_if_gt hx hb hd ht (fun h => Kt h p e s m args below meth c dC dI dA E H locs cells slots ls S hl hL) (fun h => Kf h p e s m args below meth c dC dI dA E H locs cells slots ls S hl hL)
theorem xr_icmp_le {C : xCx} {pc : Nat} {L r : List Value} {hp : xHp} {x y : Int32} {off : Int} {tgt : Nat} (hd : decode (xmB (xcxM C)) pc = .ok (.if_icmp .le off, 3)) (ht : (pc : Int) + off = (tgt : Int)) (Kt : x ≤ y → xJ C tgt L r hp) (Kf : ¬ x ≤ y → xJ C (pc + 3) L r hp) : xJ C pc L (.int y :: .int x :: r) hp := by
  intro p e s m args below meth c dC dI dA E H locs cells slots ls S hl hL
  obtain ⟨hx, hb, hml, hr, hlk, hnm, hown, hts, hKn, hsz, hlo⟩ := id E
  exact lv_icmp_le hx hb hd ht (fun h => Kt h p e s m args below meth c dC dI dA E H locs cells slots ls S hl hL) (fun h => Kf h p e s m args below meth c dC dI dA E H locs cells slots ls S hl hL)
theorem xr_if_le {C : xCx} {pc : Nat} {L r : List Value} {hp : xHp} {x : Int32} {off : Int} {tgt : Nat} (hd : decode (xmB (xcxM C)) pc = .ok (.ifCond .le off, 3)) (ht : (pc : Int) + off = (tgt : Int)) (Kt : x ≤ 0 → xJ C tgt L r hp) (Kf : ¬ x ≤ 0 → xJ C (pc + 3) L r hp) : xJ C pc L (.int x :: r) hp := by
  intro p e s m args below meth c dC dI dA E H locs cells slots ls S hl hL
  obtain ⟨hx, hb, hml, hr, hlk, hnm, hown, hts, hKn, hsz, hlo⟩ := id E
  exact lv_if_le hx hb hd ht (fun h => Kt h p e s m args below meth c dC dI dA E H locs cells slots ls S hl hL) (fun h => Kf h p e s m args below meth c dC dI dA E H locs cells slots ls S hl hL)
theorem xr_goto {C : xCx} {pc : Nat} {L r : List Value} {hp : xHp} {off : Int} {tgt : Nat}  (hd : decode (xmB (xcxM C)) pc = .ok (.goto off, 3)) (ht : (pc : Int) + off = (tgt : Int)) (K : xJ C tgt L r hp) : xJ C pc L (r) hp := by
  intro p e s m args below meth c dC dI dA E H locs cells slots ls S hl hL
  obtain ⟨hx, hb, hml, hr, hlk, hnm, hown, hts, hKn, hsz, hlo⟩ := id E
  exact lv_goto hx hb hd ht (K p e s m args below meth c dC dI dA E H locs cells slots ls S hl hL)
theorem xr_ifnullN {C : xCx} {pc : Nat} {L r : List Value} {hp : xHp} {off : Int} {tgt : Nat}  (hd : decode (xmB (xcxM C)) pc = .ok (.ifnull off, 3)) (ht : (pc : Int) + off = (tgt : Int)) (K : xJ C tgt L r hp) : xJ C pc L (.null :: r) hp := by
  intro p e s m args below meth c dC dI dA E H locs cells slots ls S hl hL
  obtain ⟨hx, hb, hml, hr, hlk, hnm, hown, hts, hKn, hsz, hlo⟩ := id E
  exact lv_ifnullN hx hb hd ht (K p e s m args below meth c dC dI dA E H locs cells slots ls S hl hL)
theorem xr_ifnull {C : xCx} {pc : Nat} {L r : List Value} {hp : xHp} {off : Int} {tgt : Nat} {x : Nat} (hd : decode (xmB (xcxM C)) pc = .ok (.ifnull off, 3)) (ht : (pc : Int) + off = (tgt : Int)) (K : xJ C (pc + 3) L r hp) : xJ C pc L (.ref x :: r) hp := by
  intro p e s m args below meth c dC dI dA E H locs cells slots ls S hl hL
  obtain ⟨hx, hb, hml, hr, hlk, hnm, hown, hts, hKn, hsz, hlo⟩ := id E
  exact lv_ifnull hx hb hd (K p e s m args below meth c dC dI dA E H locs cells slots ls S hl hL)
theorem xr_ifnonnullN {C : xCx} {pc : Nat} {L r : List Value} {hp : xHp} {off : Int} {tgt : Nat}  (hd : decode (xmB (xcxM C)) pc = .ok (.ifnonnull off, 3)) (ht : (pc : Int) + off = (tgt : Int)) (K : xJ C (pc + 3) L r hp) : xJ C pc L (.null :: r) hp := by
  intro p e s m args below meth c dC dI dA E H locs cells slots ls S hl hL
  obtain ⟨hx, hb, hml, hr, hlk, hnm, hown, hts, hKn, hsz, hlo⟩ := id E
  exact lv_ifnonnullN hx hb hd (K p e s m args below meth c dC dI dA E H locs cells slots ls S hl hL)
theorem xr_ifnonnull {C : xCx} {pc : Nat} {L r : List Value} {hp : xHp} {off : Int} {tgt : Nat} {x : Nat} (hd : decode (xmB (xcxM C)) pc = .ok (.ifnonnull off, 3)) (ht : (pc : Int) + off = (tgt : Int)) (K : xJ C tgt L r hp) : xJ C pc L (.ref x :: r) hp := by
  intro p e s m args below meth c dC dI dA E H locs cells slots ls S hl hL
  obtain ⟨hx, hb, hml, hr, hlk, hnm, hown, hts, hKn, hsz, hlo⟩ := id E
  exact lv_ifnonnull hx hb hd ht (K p e s m args below meth c dC dI dA E H locs cells slots ls S hl hL)
theorem xr_lookup {C : xCx} {pc : Nat} {L r : List Value} {hp : xHp} {x : Int32} {d : Int} {ps : Array (Int × Int)} {len tgt : Nat} {off : Int} (hd : decode (xmB (xcxM C)) pc = .ok (.lookupswitch d ps, len)) (hps : (ps.toList.zip (ps.toList.drop 1)).all (fun (a, next) => a.1 < next.1) = true) (ho : Op.lookupswitch.offset ps.toList d x.toInt = off) (ht : (pc : Int) + off = (tgt : Int)) (K : xJ C tgt L r hp) : xJ C pc L (.int x :: r) hp := by
  intro p e s m args below meth c dC dI dA E H locs cells slots ls S hl hL
  obtain ⟨hx, hb, hml, hr, hlk, hnm, hown, hts, hKn, hsz, hlo⟩ := id E
  exact lv_lookup hx hb hd hps ho ht (K p e s m args below meth c dC dI dA E H locs cells slots ls S hl hL)
theorem xr_tableOut {C : xCx} {pc : Nat} {L r : List Value} {hp : xHp} {x : Int32} {d lo hi : Int} {offs : Array Int} {len tgt : Nat} (hd : decode (xmB (xcxM C)) pc = .ok (.tableswitch d lo hi offs, len)) (h : x.toInt < lo ∨ hi < x.toInt) (ht : (pc : Int) + d = (tgt : Int)) (K : xJ C tgt L r hp) : xJ C pc L (.int x :: r) hp := by
  intro p e s m args below meth c dC dI dA E H locs cells slots ls S hl hL
  obtain ⟨hx, hb, hml, hr, hlk, hnm, hown, hts, hKn, hsz, hlo⟩ := id E
  exact lv_tableOut hx hb hd h ht (K p e s m args below meth c dC dI dA E H locs cells slots ls S hl hL)
theorem xr_tableIn {C : xCx} {pc : Nat} {L r : List Value} {hp : xHp} {x : Int32} {d lo hi off : Int} {offs : Array Int} {len tgt : Nat} (hd : decode (xmB (xcxM C)) pc = .ok (.tableswitch d lo hi offs, len)) (h1 : ¬ x.toInt < lo) (h2 : ¬ hi < x.toInt) (ho : offs[(x.toInt - lo).toNat]? = some off) (ht : (pc : Int) + off = (tgt : Int)) (K : xJ C tgt L r hp) : xJ C pc L (.int x :: r) hp := by
  intro p e s m args below meth c dC dI dA E H locs cells slots ls S hl hL
  obtain ⟨hx, hb, hml, hr, hlk, hnm, hown, hts, hKn, hsz, hlo⟩ := id E
  exact lv_tableIn hx hb hd h1 h2 ho ht (K p e s m args below meth c dC dI dA E H locs cells slots ls S hl hL)
