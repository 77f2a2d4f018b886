/-! ===== the model: what HOURS need ===== -/
abbrev SO := Int32 × Int32 × Int32 × Int32 × Int32 × Int32 × Nat × Nat × Int32 × Int32 × Int32 × Int32 × Int32 × Int32 × Int32
abbrev SO.pe (o : SO) : Int32 := o.1
abbrev SO.pl (o : SO) : Int32 := o.2.1
abbrev SO.sm (o : SO) : Int32 := o.2.2.1
abbrev SO.ty (o : SO) : Int32 := o.2.2.2.1
abbrev SO.rm (o : SO) : Int32 := o.2.2.2.2.1
abbrev SO.th (o : SO) : Int32 := o.2.2.2.2.2.1
abbrev SO.ru (o : SO) : Nat := o.2.2.2.2.2.2.1
abbrev SO.oru (o : SO) : Nat := o.2.2.2.2.2.2.2.1
abbrev SO.rs (o : SO) : Int32 := o.2.2.2.2.2.2.2.2.1
abbrev SO.um (o : SO) : Int32 := o.2.2.2.2.2.2.2.2.2.1
abbrev SO.wm (o : SO) : Int32 := o.2.2.2.2.2.2.2.2.2.2.1
abbrev SO.sam (o : SO) : Int32 := o.2.2.2.2.2.2.2.2.2.2.2.1
abbrev SO.hm (o : SO) : Int32 := o.2.2.2.2.2.2.2.2.2.2.2.2.1
abbrev SO.dr (o : SO) : Int32 := o.2.2.2.2.2.2.2.2.2.2.2.2.2.1
abbrev SO.cm (o : SO) : Int32 := o.2.2.2.2.2.2.2.2.2.2.2.2.2.2
abbrev SO.wPe (o : SO) (z : Int32) : SO := (z, o.pl, o.sm, o.ty, o.rm, o.th, o.ru, o.oru, o.rs, o.um, o.wm, o.sam, o.hm, o.dr, o.cm)
abbrev SO.wPl (o : SO) (z : Int32) : SO := (o.pe, z, o.sm, o.ty, o.rm, o.th, o.ru, o.oru, o.rs, o.um, o.wm, o.sam, o.hm, o.dr, o.cm)
abbrev SO.wSm (o : SO) (z : Int32) : SO := (o.pe, o.pl, z, o.ty, o.rm, o.th, o.ru, o.oru, o.rs, o.um, o.wm, o.sam, o.hm, o.dr, o.cm)
abbrev SO.wTy (o : SO) (z : Int32) : SO := (o.pe, o.pl, o.sm, z, o.rm, o.th, o.ru, o.oru, o.rs, o.um, o.wm, o.sam, o.hm, o.dr, o.cm)
abbrev SO.wRm (o : SO) (z : Int32) : SO := (o.pe, o.pl, o.sm, o.ty, z, o.th, o.ru, o.oru, o.rs, o.um, o.wm, o.sam, o.hm, o.dr, o.cm)
abbrev SO.wTh (o : SO) (z : Int32) : SO := (o.pe, o.pl, o.sm, o.ty, o.rm, z, o.ru, o.oru, o.rs, o.um, o.wm, o.sam, o.hm, o.dr, o.cm)
abbrev SO.wRu (o : SO) (z : Nat) : SO := (o.pe, o.pl, o.sm, o.ty, o.rm, o.th, z, o.oru, o.rs, o.um, o.wm, o.sam, o.hm, o.dr, o.cm)
abbrev SO.wOru (o : SO) (z : Nat) : SO := (o.pe, o.pl, o.sm, o.ty, o.rm, o.th, o.ru, z, o.rs, o.um, o.wm, o.sam, o.hm, o.dr, o.cm)
abbrev SO.wRs (o : SO) (z : Int32) : SO := (o.pe, o.pl, o.sm, o.ty, o.rm, o.th, o.ru, o.oru, z, o.um, o.wm, o.sam, o.hm, o.dr, o.cm)
abbrev SO.wUm (o : SO) (z : Int32) : SO := (o.pe, o.pl, o.sm, o.ty, o.rm, o.th, o.ru, o.oru, o.rs, z, o.wm, o.sam, o.hm, o.dr, o.cm)
abbrev SO.wWm (o : SO) (z : Int32) : SO := (o.pe, o.pl, o.sm, o.ty, o.rm, o.th, o.ru, o.oru, o.rs, o.um, z, o.sam, o.hm, o.dr, o.cm)
abbrev SO.wSam (o : SO) (z : Int32) : SO := (o.pe, o.pl, o.sm, o.ty, o.rm, o.th, o.ru, o.oru, o.rs, o.um, o.wm, z, o.hm, o.dr, o.cm)
abbrev SO.wHm (o : SO) (z : Int32) : SO := (o.pe, o.pl, o.sm, o.ty, o.rm, o.th, o.ru, o.oru, o.rs, o.um, o.wm, o.sam, z, o.dr, o.cm)
abbrev SO.wDr (o : SO) (z : Int32) : SO := (o.pe, o.pl, o.sm, o.ty, o.rm, o.th, o.ru, o.oru, o.rs, o.um, o.wm, o.sam, o.hm, z, o.cm)
abbrev SO.wCm (o : SO) (z : Int32) : SO := (o.pe, o.pl, o.sm, o.ty, o.rm, o.th, o.ru, o.oru, o.rs, o.um, o.wm, o.sam, o.hm, o.dr, z)
def isO (hp : xHp) (x : SO) : Prop := ∃ (rd : Value) (le tp at2 wr : Int32), hp.1 103 = .inr (12, .ref 104 :: .int x.pe :: .int x.pl :: .ref 105 :: .ref 106 :: .int x.sm :: .ref 107 :: .int x.ty :: .ref 108 :: .int x.rm :: .int x.th :: rd :: .int le :: .int tp :: .int at2 :: .int wr :: .ref 109 :: .ref 110 :: .ref x.ru :: .ref x.oru :: .int x.rs :: .int 0 :: .ref 113 :: .ref 114 :: .int x.um :: .ref 115 :: .ref 116 :: .ref 117 :: .ref 118 :: .ref 119 :: .ref 120 :: .ref 121 :: .int x.wm :: .ref 122 :: .ref 123 :: .ref 124 :: .ref 125 :: .int x.sam :: .ref 126 :: .ref 127 :: .int x.hm :: .ref 128 :: .int x.dr :: .int x.cm :: .ref 129 :: .ref 130 :: .ref 131 :: [])
theorem isO_raw {hp : xHp} {x : SO} (h : isO hp x) : ∃ (rd : Value) (le tp at2 wr : Int32), hp.1 103 = .inr (12, .ref 104 :: .int x.pe :: .int x.pl :: .ref 105 :: .ref 106 :: .int x.sm :: .ref 107 :: .int x.ty :: .ref 108 :: .int x.rm :: .int x.th :: rd :: .int le :: .int tp :: .int at2 :: .int wr :: .ref 109 :: .ref 110 :: .ref x.ru :: .ref x.oru :: .int x.rs :: .int 0 :: .ref 113 :: .ref 114 :: .int x.um :: .ref 115 :: .ref 116 :: .ref 117 :: .ref 118 :: .ref 119 :: .ref 120 :: .ref 121 :: .int x.wm :: .ref 122 :: .ref 123 :: .ref 124 :: .ref 125 :: .int x.sam :: .ref 126 :: .ref 127 :: .int x.hm :: .ref 128 :: .int x.dr :: .int x.cm :: .ref 129 :: .ref 130 :: .ref 131 :: []) := h
theorem isO_pe {hp : xHp} {x : SO} {v : Int32} {rd : Value} {le tp at2 wr : Int32} (h : hp.1 103 = .inr (12, .ref 104 :: .int v :: .int x.pl :: .ref 105 :: .ref 106 :: .int x.sm :: .ref 107 :: .int x.ty :: .ref 108 :: .int x.rm :: .int x.th :: rd :: .int le :: .int tp :: .int at2 :: .int wr :: .ref 109 :: .ref 110 :: .ref x.ru :: .ref x.oru :: .int x.rs :: .int 0 :: .ref 113 :: .ref 114 :: .int x.um :: .ref 115 :: .ref 116 :: .ref 117 :: .ref 118 :: .ref 119 :: .ref 120 :: .ref 121 :: .int x.wm :: .ref 122 :: .ref 123 :: .ref 124 :: .ref 125 :: .int x.sam :: .ref 126 :: .ref 127 :: .int x.hm :: .ref 128 :: .int x.dr :: .int x.cm :: .ref 129 :: .ref 130 :: .ref 131 :: [])) : isO hp (x.wPe v) := by
  obtain ⟨b0, b1, b2, b3, b4, b5, b6, b7, b8, b9, b10, b11, b12, b13, b14⟩ := x
  exact ⟨_, _, _, _, _, h⟩
theorem isO_pl {hp : xHp} {x : SO} {v : Int32} {rd : Value} {le tp at2 wr : Int32} (h : hp.1 103 = .inr (12, .ref 104 :: .int x.pe :: .int v :: .ref 105 :: .ref 106 :: .int x.sm :: .ref 107 :: .int x.ty :: .ref 108 :: .int x.rm :: .int x.th :: rd :: .int le :: .int tp :: .int at2 :: .int wr :: .ref 109 :: .ref 110 :: .ref x.ru :: .ref x.oru :: .int x.rs :: .int 0 :: .ref 113 :: .ref 114 :: .int x.um :: .ref 115 :: .ref 116 :: .ref 117 :: .ref 118 :: .ref 119 :: .ref 120 :: .ref 121 :: .int x.wm :: .ref 122 :: .ref 123 :: .ref 124 :: .ref 125 :: .int x.sam :: .ref 126 :: .ref 127 :: .int x.hm :: .ref 128 :: .int x.dr :: .int x.cm :: .ref 129 :: .ref 130 :: .ref 131 :: [])) : isO hp (x.wPl v) := by
  obtain ⟨b0, b1, b2, b3, b4, b5, b6, b7, b8, b9, b10, b11, b12, b13, b14⟩ := x
  exact ⟨_, _, _, _, _, h⟩
theorem isO_sm {hp : xHp} {x : SO} {v : Int32} {rd : Value} {le tp at2 wr : Int32} (h : hp.1 103 = .inr (12, .ref 104 :: .int x.pe :: .int x.pl :: .ref 105 :: .ref 106 :: .int v :: .ref 107 :: .int x.ty :: .ref 108 :: .int x.rm :: .int x.th :: rd :: .int le :: .int tp :: .int at2 :: .int wr :: .ref 109 :: .ref 110 :: .ref x.ru :: .ref x.oru :: .int x.rs :: .int 0 :: .ref 113 :: .ref 114 :: .int x.um :: .ref 115 :: .ref 116 :: .ref 117 :: .ref 118 :: .ref 119 :: .ref 120 :: .ref 121 :: .int x.wm :: .ref 122 :: .ref 123 :: .ref 124 :: .ref 125 :: .int x.sam :: .ref 126 :: .ref 127 :: .int x.hm :: .ref 128 :: .int x.dr :: .int x.cm :: .ref 129 :: .ref 130 :: .ref 131 :: [])) : isO hp (x.wSm v) := by
  obtain ⟨b0, b1, b2, b3, b4, b5, b6, b7, b8, b9, b10, b11, b12, b13, b14⟩ := x
  exact ⟨_, _, _, _, _, h⟩
theorem isO_ty {hp : xHp} {x : SO} {v : Int32} {rd : Value} {le tp at2 wr : Int32} (h : hp.1 103 = .inr (12, .ref 104 :: .int x.pe :: .int x.pl :: .ref 105 :: .ref 106 :: .int x.sm :: .ref 107 :: .int v :: .ref 108 :: .int x.rm :: .int x.th :: rd :: .int le :: .int tp :: .int at2 :: .int wr :: .ref 109 :: .ref 110 :: .ref x.ru :: .ref x.oru :: .int x.rs :: .int 0 :: .ref 113 :: .ref 114 :: .int x.um :: .ref 115 :: .ref 116 :: .ref 117 :: .ref 118 :: .ref 119 :: .ref 120 :: .ref 121 :: .int x.wm :: .ref 122 :: .ref 123 :: .ref 124 :: .ref 125 :: .int x.sam :: .ref 126 :: .ref 127 :: .int x.hm :: .ref 128 :: .int x.dr :: .int x.cm :: .ref 129 :: .ref 130 :: .ref 131 :: [])) : isO hp (x.wTy v) := by
  obtain ⟨b0, b1, b2, b3, b4, b5, b6, b7, b8, b9, b10, b11, b12, b13, b14⟩ := x
  exact ⟨_, _, _, _, _, h⟩
theorem isO_rm {hp : xHp} {x : SO} {v : Int32} {rd : Value} {le tp at2 wr : Int32} (h : hp.1 103 = .inr (12, .ref 104 :: .int x.pe :: .int x.pl :: .ref 105 :: .ref 106 :: .int x.sm :: .ref 107 :: .int x.ty :: .ref 108 :: .int v :: .int x.th :: rd :: .int le :: .int tp :: .int at2 :: .int wr :: .ref 109 :: .ref 110 :: .ref x.ru :: .ref x.oru :: .int x.rs :: .int 0 :: .ref 113 :: .ref 114 :: .int x.um :: .ref 115 :: .ref 116 :: .ref 117 :: .ref 118 :: .ref 119 :: .ref 120 :: .ref 121 :: .int x.wm :: .ref 122 :: .ref 123 :: .ref 124 :: .ref 125 :: .int x.sam :: .ref 126 :: .ref 127 :: .int x.hm :: .ref 128 :: .int x.dr :: .int x.cm :: .ref 129 :: .ref 130 :: .ref 131 :: [])) : isO hp (x.wRm v) := by
  obtain ⟨b0, b1, b2, b3, b4, b5, b6, b7, b8, b9, b10, b11, b12, b13, b14⟩ := x
  exact ⟨_, _, _, _, _, h⟩
theorem isO_th {hp : xHp} {x : SO} {v : Int32} {rd : Value} {le tp at2 wr : Int32} (h : hp.1 103 = .inr (12, .ref 104 :: .int x.pe :: .int x.pl :: .ref 105 :: .ref 106 :: .int x.sm :: .ref 107 :: .int x.ty :: .ref 108 :: .int x.rm :: .int v :: rd :: .int le :: .int tp :: .int at2 :: .int wr :: .ref 109 :: .ref 110 :: .ref x.ru :: .ref x.oru :: .int x.rs :: .int 0 :: .ref 113 :: .ref 114 :: .int x.um :: .ref 115 :: .ref 116 :: .ref 117 :: .ref 118 :: .ref 119 :: .ref 120 :: .ref 121 :: .int x.wm :: .ref 122 :: .ref 123 :: .ref 124 :: .ref 125 :: .int x.sam :: .ref 126 :: .ref 127 :: .int x.hm :: .ref 128 :: .int x.dr :: .int x.cm :: .ref 129 :: .ref 130 :: .ref 131 :: [])) : isO hp (x.wTh v) := by
  obtain ⟨b0, b1, b2, b3, b4, b5, b6, b7, b8, b9, b10, b11, b12, b13, b14⟩ := x
  exact ⟨_, _, _, _, _, h⟩
theorem isO_ru {hp : xHp} {x : SO} {v : Nat} {rd : Value} {le tp at2 wr : Int32} (h : hp.1 103 = .inr (12, .ref 104 :: .int x.pe :: .int x.pl :: .ref 105 :: .ref 106 :: .int x.sm :: .ref 107 :: .int x.ty :: .ref 108 :: .int x.rm :: .int x.th :: rd :: .int le :: .int tp :: .int at2 :: .int wr :: .ref 109 :: .ref 110 :: .ref v :: .ref x.oru :: .int x.rs :: .int 0 :: .ref 113 :: .ref 114 :: .int x.um :: .ref 115 :: .ref 116 :: .ref 117 :: .ref 118 :: .ref 119 :: .ref 120 :: .ref 121 :: .int x.wm :: .ref 122 :: .ref 123 :: .ref 124 :: .ref 125 :: .int x.sam :: .ref 126 :: .ref 127 :: .int x.hm :: .ref 128 :: .int x.dr :: .int x.cm :: .ref 129 :: .ref 130 :: .ref 131 :: [])) : isO hp (x.wRu v) := by
  obtain ⟨b0, b1, b2, b3, b4, b5, b6, b7, b8, b9, b10, b11, b12, b13, b14⟩ := x
  exact ⟨_, _, _, _, _, h⟩
theorem isO_oru {hp : xHp} {x : SO} {v : Nat} {rd : Value} {le tp at2 wr : Int32} (h : hp.1 103 = .inr (12, .ref 104 :: .int x.pe :: .int x.pl :: .ref 105 :: .ref 106 :: .int x.sm :: .ref 107 :: .int x.ty :: .ref 108 :: .int x.rm :: .int x.th :: rd :: .int le :: .int tp :: .int at2 :: .int wr :: .ref 109 :: .ref 110 :: .ref x.ru :: .ref v :: .int x.rs :: .int 0 :: .ref 113 :: .ref 114 :: .int x.um :: .ref 115 :: .ref 116 :: .ref 117 :: .ref 118 :: .ref 119 :: .ref 120 :: .ref 121 :: .int x.wm :: .ref 122 :: .ref 123 :: .ref 124 :: .ref 125 :: .int x.sam :: .ref 126 :: .ref 127 :: .int x.hm :: .ref 128 :: .int x.dr :: .int x.cm :: .ref 129 :: .ref 130 :: .ref 131 :: [])) : isO hp (x.wOru v) := by
  obtain ⟨b0, b1, b2, b3, b4, b5, b6, b7, b8, b9, b10, b11, b12, b13, b14⟩ := x
  exact ⟨_, _, _, _, _, h⟩
theorem isO_rs {hp : xHp} {x : SO} {v : Int32} {rd : Value} {le tp at2 wr : Int32} (h : hp.1 103 = .inr (12, .ref 104 :: .int x.pe :: .int x.pl :: .ref 105 :: .ref 106 :: .int x.sm :: .ref 107 :: .int x.ty :: .ref 108 :: .int x.rm :: .int x.th :: rd :: .int le :: .int tp :: .int at2 :: .int wr :: .ref 109 :: .ref 110 :: .ref x.ru :: .ref x.oru :: .int v :: .int 0 :: .ref 113 :: .ref 114 :: .int x.um :: .ref 115 :: .ref 116 :: .ref 117 :: .ref 118 :: .ref 119 :: .ref 120 :: .ref 121 :: .int x.wm :: .ref 122 :: .ref 123 :: .ref 124 :: .ref 125 :: .int x.sam :: .ref 126 :: .ref 127 :: .int x.hm :: .ref 128 :: .int x.dr :: .int x.cm :: .ref 129 :: .ref 130 :: .ref 131 :: [])) : isO hp (x.wRs v) := by
  obtain ⟨b0, b1, b2, b3, b4, b5, b6, b7, b8, b9, b10, b11, b12, b13, b14⟩ := x
  exact ⟨_, _, _, _, _, h⟩
theorem isO_um {hp : xHp} {x : SO} {v : Int32} {rd : Value} {le tp at2 wr : Int32} (h : hp.1 103 = .inr (12, .ref 104 :: .int x.pe :: .int x.pl :: .ref 105 :: .ref 106 :: .int x.sm :: .ref 107 :: .int x.ty :: .ref 108 :: .int x.rm :: .int x.th :: rd :: .int le :: .int tp :: .int at2 :: .int wr :: .ref 109 :: .ref 110 :: .ref x.ru :: .ref x.oru :: .int x.rs :: .int 0 :: .ref 113 :: .ref 114 :: .int v :: .ref 115 :: .ref 116 :: .ref 117 :: .ref 118 :: .ref 119 :: .ref 120 :: .ref 121 :: .int x.wm :: .ref 122 :: .ref 123 :: .ref 124 :: .ref 125 :: .int x.sam :: .ref 126 :: .ref 127 :: .int x.hm :: .ref 128 :: .int x.dr :: .int x.cm :: .ref 129 :: .ref 130 :: .ref 131 :: [])) : isO hp (x.wUm v) := by
  obtain ⟨b0, b1, b2, b3, b4, b5, b6, b7, b8, b9, b10, b11, b12, b13, b14⟩ := x
  exact ⟨_, _, _, _, _, h⟩
theorem isO_wm {hp : xHp} {x : SO} {v : Int32} {rd : Value} {le tp at2 wr : Int32} (h : hp.1 103 = .inr (12, .ref 104 :: .int x.pe :: .int x.pl :: .ref 105 :: .ref 106 :: .int x.sm :: .ref 107 :: .int x.ty :: .ref 108 :: .int x.rm :: .int x.th :: rd :: .int le :: .int tp :: .int at2 :: .int wr :: .ref 109 :: .ref 110 :: .ref x.ru :: .ref x.oru :: .int x.rs :: .int 0 :: .ref 113 :: .ref 114 :: .int x.um :: .ref 115 :: .ref 116 :: .ref 117 :: .ref 118 :: .ref 119 :: .ref 120 :: .ref 121 :: .int v :: .ref 122 :: .ref 123 :: .ref 124 :: .ref 125 :: .int x.sam :: .ref 126 :: .ref 127 :: .int x.hm :: .ref 128 :: .int x.dr :: .int x.cm :: .ref 129 :: .ref 130 :: .ref 131 :: [])) : isO hp (x.wWm v) := by
  obtain ⟨b0, b1, b2, b3, b4, b5, b6, b7, b8, b9, b10, b11, b12, b13, b14⟩ := x
  exact ⟨_, _, _, _, _, h⟩
theorem isO_sam {hp : xHp} {x : SO} {v : Int32} {rd : Value} {le tp at2 wr : Int32} (h : hp.1 103 = .inr (12, .ref 104 :: .int x.pe :: .int x.pl :: .ref 105 :: .ref 106 :: .int x.sm :: .ref 107 :: .int x.ty :: .ref 108 :: .int x.rm :: .int x.th :: rd :: .int le :: .int tp :: .int at2 :: .int wr :: .ref 109 :: .ref 110 :: .ref x.ru :: .ref x.oru :: .int x.rs :: .int 0 :: .ref 113 :: .ref 114 :: .int x.um :: .ref 115 :: .ref 116 :: .ref 117 :: .ref 118 :: .ref 119 :: .ref 120 :: .ref 121 :: .int x.wm :: .ref 122 :: .ref 123 :: .ref 124 :: .ref 125 :: .int v :: .ref 126 :: .ref 127 :: .int x.hm :: .ref 128 :: .int x.dr :: .int x.cm :: .ref 129 :: .ref 130 :: .ref 131 :: [])) : isO hp (x.wSam v) := by
  obtain ⟨b0, b1, b2, b3, b4, b5, b6, b7, b8, b9, b10, b11, b12, b13, b14⟩ := x
  exact ⟨_, _, _, _, _, h⟩
theorem isO_hm {hp : xHp} {x : SO} {v : Int32} {rd : Value} {le tp at2 wr : Int32} (h : hp.1 103 = .inr (12, .ref 104 :: .int x.pe :: .int x.pl :: .ref 105 :: .ref 106 :: .int x.sm :: .ref 107 :: .int x.ty :: .ref 108 :: .int x.rm :: .int x.th :: rd :: .int le :: .int tp :: .int at2 :: .int wr :: .ref 109 :: .ref 110 :: .ref x.ru :: .ref x.oru :: .int x.rs :: .int 0 :: .ref 113 :: .ref 114 :: .int x.um :: .ref 115 :: .ref 116 :: .ref 117 :: .ref 118 :: .ref 119 :: .ref 120 :: .ref 121 :: .int x.wm :: .ref 122 :: .ref 123 :: .ref 124 :: .ref 125 :: .int x.sam :: .ref 126 :: .ref 127 :: .int v :: .ref 128 :: .int x.dr :: .int x.cm :: .ref 129 :: .ref 130 :: .ref 131 :: [])) : isO hp (x.wHm v) := by
  obtain ⟨b0, b1, b2, b3, b4, b5, b6, b7, b8, b9, b10, b11, b12, b13, b14⟩ := x
  exact ⟨_, _, _, _, _, h⟩
theorem isO_dr {hp : xHp} {x : SO} {v : Int32} {rd : Value} {le tp at2 wr : Int32} (h : hp.1 103 = .inr (12, .ref 104 :: .int x.pe :: .int x.pl :: .ref 105 :: .ref 106 :: .int x.sm :: .ref 107 :: .int x.ty :: .ref 108 :: .int x.rm :: .int x.th :: rd :: .int le :: .int tp :: .int at2 :: .int wr :: .ref 109 :: .ref 110 :: .ref x.ru :: .ref x.oru :: .int x.rs :: .int 0 :: .ref 113 :: .ref 114 :: .int x.um :: .ref 115 :: .ref 116 :: .ref 117 :: .ref 118 :: .ref 119 :: .ref 120 :: .ref 121 :: .int x.wm :: .ref 122 :: .ref 123 :: .ref 124 :: .ref 125 :: .int x.sam :: .ref 126 :: .ref 127 :: .int x.hm :: .ref 128 :: .int v :: .int x.cm :: .ref 129 :: .ref 130 :: .ref 131 :: [])) : isO hp (x.wDr v) := by
  obtain ⟨b0, b1, b2, b3, b4, b5, b6, b7, b8, b9, b10, b11, b12, b13, b14⟩ := x
  exact ⟨_, _, _, _, _, h⟩
theorem isO_cm {hp : xHp} {x : SO} {v : Int32} {rd : Value} {le tp at2 wr : Int32} (h : hp.1 103 = .inr (12, .ref 104 :: .int x.pe :: .int x.pl :: .ref 105 :: .ref 106 :: .int x.sm :: .ref 107 :: .int x.ty :: .ref 108 :: .int x.rm :: .int x.th :: rd :: .int le :: .int tp :: .int at2 :: .int wr :: .ref 109 :: .ref 110 :: .ref x.ru :: .ref x.oru :: .int x.rs :: .int 0 :: .ref 113 :: .ref 114 :: .int x.um :: .ref 115 :: .ref 116 :: .ref 117 :: .ref 118 :: .ref 119 :: .ref 120 :: .ref 121 :: .int x.wm :: .ref 122 :: .ref 123 :: .ref 124 :: .ref 125 :: .int x.sam :: .ref 126 :: .ref 127 :: .int x.hm :: .ref 128 :: .int x.dr :: .int v :: .ref 129 :: .ref 130 :: .ref 131 :: [])) : isO hp (x.wCm v) := by
  obtain ⟨b0, b1, b2, b3, b4, b5, b6, b7, b8, b9, b10, b11, b12, b13, b14⟩ := x
  exact ⟨_, _, _, _, _, h⟩
theorem isO_ag {hp hq : xHp} {X : List Nat} {x : SO} (ha : xAg hp hq X) (hx : 103 ∉ X) (h : isO hp x) : isO hq x := by
  obtain ⟨rd, le, tp, at2, wr, h⟩ := h
  exact ⟨rd, le, tp, at2, wr, xAg_at ha hx h⟩
def isMk (hp : xHp) (a : Nat) (q : Fk) : Prop := ∃ g, hp.1 a = .inl (.int, 22, .inl g) ∧ (∀ j, j < q.n → g j = q.A j ∧ g (7 + j) = q.P j ∧ g (14 + j) = q.S j) ∧ g 21 = q.day
theorem isMk_ag {hp hq : xHp} {X : List Nat} {a : Nat} {q : Fk} (ha : xAg hp hq X) (hx : a ∉ X) (h : isMk hp a q) : isMk hq a q := by
  obtain ⟨g, h1, h2⟩ := h
  exact ⟨g, xAg_at ha hx h1, h2⟩
theorem isMk_E {hp : xHp} {a : Nat} {q r : Fk} (he : fkE q r) (h : isMk hp a q) : isMk hp a r := by
  obtain ⟨g, h1, h2, h3⟩ := h
  exact ⟨g, h1, fun j hj => by
    have := h2 j (by rw [he.1]; exact hj)
    rw [← he.2.2.1 j hj, ← he.2.2.2.1 j hj, ← he.2.2.2.2 j hj]
    exact this, h3.trans he.2.1⟩
def mRl (T : Nat → Int32) (N : Nat) (V : (Nat → Int32) → Int32) : Prop := (N = 0 ∧ V = vusual) ∨ (¬ N = 0 ∧ ∃ c v, Der T N .held 0 0 true N c v ∧ V = v)
def isME (hp : xHp) (x : SO) (s : St) : Prop := isO hp x ∧ (x.pe = nI s.now.n ∧ s.now.n ≤ 7) ∧ (x.pl = nI s.nl ∧ s.nl ≤ 6) ∧ (∃ g, hp.1 105 = .inl (.int, 6, .inl g) ∧ ∀ i, i < s.nl → g i = s.lg i) ∧ (∃ g k, hp.1 106 = .inl (.byte, 20, .inl g) ∧ 0 < k ∧ k ≤ 20 ∧ s.tu = nI k ∧ x.sm = nI k ∧ ∀ i, i < k → g i = s.sk i) ∧ (∃ N g, hp.1 x.ru = .inl (.byte, 40, .inl g) ∧ (x.ru = 111 ∨ x.ru = 112) ∧ N ≤ 40 ∧ x.rs = nI N ∧ (∀ i, i < N → gbt (g i)) ∧ mRl (fun i => g i &&& 255) N s.V) ∧ (∃ ak, hp.1 113 = .inl (.int, 7, .inl ak)) ∧ (∃ g, hp.1 117 = .inl (.int, 7, .inl g))
theorem isME_ag {hp hq : xHp} {X : List Nat} {x : SO} {s : St} (ha : xAg hp hq X) (hx : ∀ k ∈ X, k < 103 ∨ k = 104 ∨ (106 < k ∧ k < 111) ∨ (113 < k ∧ k < 117) ∨ 117 < k) (h : isME hp x s) : isME hq x s := by
  obtain ⟨h1, h2, h3, ⟨g, h4, h4'⟩, ⟨g5, k, h5, h5'⟩, ⟨N, g6, h6, hru, h6'⟩, ⟨ak, h7⟩, ⟨g8, h8⟩⟩ := h
  refine ⟨isO_ag ha (fun z => by have := hx _ z; omega) h1, h2, h3, ⟨g, xAg_at ha (fun z => by have := hx _ z; omega) h4, h4'⟩, ⟨g5, k, xAg_at ha (fun z => by have := hx _ z; omega) h5, h5'⟩, ⟨N, g6, xAg_at ha (fun z => by have := hx _ z; omega) h6, hru, h6'⟩, ⟨ak, xAg_at ha (fun z => by have := hx _ z; omega) h7⟩, ⟨g8, xAg_at ha (fun z => by have := hx _ z; omega) h8⟩⟩
/-- another object row, or another thing asked, or other hours -/
theorem isME_of {hp hq : xHp} {X : List Nat} {x y : SO} {s : St} (ha : xAg hp hq X) (hx : ∀ k ∈ X, k ≤ 104 ∨ (106 < k ∧ k < 111) ∨ 112 < k) (h : isME hp x s) (ho : isO hq y) (e1 : y.pe = x.pe) (e2 : y.pl = x.pl) (e3 : y.sm = x.sm) (e4 : y.ru = x.ru) (e5 : y.rs = x.rs) (h7 : ∃ ak, hq.1 113 = .inl (.int, 7, .inl ak)) (h8 : ∃ g, hq.1 117 = .inl (.int, 7, .inl g)) : isME hq y s := by
  obtain ⟨h1, h2, h3, ⟨g, h4, h4'⟩, ⟨g5, k, h5, k1, k2, k3, k4, k5⟩, ⟨N, g6, h6, hru, j1, j2, j3⟩, -, -⟩ := h
  refine ⟨ho, ⟨e1.trans h2.1, h2.2⟩, ⟨e2.trans h3.1, h3.2⟩, ⟨g, xAg_at ha (fun z => by have := hx _ z; omega) h4, h4'⟩, ⟨g5, k, xAg_at ha (fun z => by have := hx _ z; omega) h5, k1, k2, k3, e3.trans k4, k5⟩, ⟨N, g6, ?_, by rw [e4]; exact hru, j1, e5.trans j2, j3⟩, h7, h8⟩
  rw [e4]
  exact xAg_at ha (fun z => by have := hx _ z; omega) h6
theorem Der_cg {T : Nat → Int32} {N : Nat} {kd : GK} {e p p1 : Nat} {ok : Bool} {c : List Int32} {v : (Nat → Int32) → Int32} {lt lt2 : Nat → Int32} (h : Der T N kd e p ok p1 c v) (hl : ∀ j, j < 7 → lt j = lt2 j) : kd.2 lt = kd.2 lt2 → v lt = v lt2 := by
  refine Der_ind (M := fun k e p ok p1 c v => k.2 lt = k.2 lt2 → v lt = v lt2) ?num ?grp ?grpD ?grpF ?grpC ?lett ?letF ?thg ?prF ?pr ?plS ?plT ?plF ?suF ?su ?slS ?slT ?slF ?heF ?he0 ?heS ?he2 h
  case num => intro e p h _; rfl
  case grp => intro e p p1 c v h hd h1 h2 ih _; exact ih rfl
  case grpD => intro e p h hd _; rfl
  case grpF => intro e p p1 c v h hd h1 ih _; exact ih rfl
  case grpC => intro e p p1 c v h hd h1 h2 ih _; exact ih rfl
  case lett => intro e p j h h2 hj h3 _; exact hl j hj
  case letF => intro e p h h2 h3 _; rfl
  case thg =>
    intro e p p1 k ok c v h h2 h3 ih _
    show (if k % 2 = 1 then -(v lt) else v lt) = if k % 2 = 1 then -(v lt2) else v lt2
    rw [ih rfl]
  case prF => intro e p p1 c v h ih _; exact ih rfl
  case pr => intro e p p1 p2 ok c1 c2 v1 v2 h h2 ih ih2 _; exact ih2 (ih rfl)
  case plS => intro e p v0 h h2 z; exact z
  case plT =>
    intro e p p1 p2 w ok c1 c2 v0 v1 v2 hw h h1 h2 ih ih2 z
    exact ih2 (by show rk _ (v0 lt) (v1 lt) = rk _ (v0 lt2) (v1 lt2); rw [ih rfl, show v0 lt = v0 lt2 from z])
  case plF => intro e p p1 w c1 v0 v1 hw h h1 ih z; exact z
  case suF => intro e p p1 c v h ih _; exact ih rfl
  case su => intro e p p1 p2 ok c1 c2 v1 v2 h h2 ih ih2 _; exact ih2 (ih rfl)
  case slS => intro e p v0 h h2 z; exact z
  case slT =>
    intro e p p1 p2 w ok c1 c2 v0 v1 v2 hw h h1 h2 ih ih2 z
    exact ih2 (by show rk _ (v0 lt) (v1 lt) = rk _ (v0 lt2) (v1 lt2); rw [ih rfl, show v0 lt = v0 lt2 from z])
  case slF => intro e p p1 w c1 v0 v1 hw h h1 ih z; exact z
  case heF => intro e p p1 c v h ih _; exact ih rfl
  case he0 => intro e p p1 c v h h1 h2 h3 ih _; exact ih rfl
  case heS => intro e p p1 p2 w c1 c2 v1 v2 hw h h1 h2 ih ih2 _; first | exact ih2 rfl | exact ih rfl | rfl
  case he2 =>
    intro e p p1 p2 w c1 c2 v1 v2 hw h h1 h2 ih ih2 _
    show rk _ (v1 lt) (v2 lt) = rk _ (v1 lt2) (v2 lt2)
    rw [ih rfl, ih2 rfl]
theorem nI_div {a b : Nat} (ha : a < 2 ^ 31) (hb : b < 2 ^ 31) : nI a / nI b = nI (a / b) := by
  apply Int32.toInt_inj.mp
  have hab : a / b ≤ a := Nat.div_le_self _ _
  rw [Int32.toInt_div_of_ne_right _ _ (nI_n1 hb), nI_toInt ha, nI_toInt hb, nI_toInt (show a / b < 2 ^ 31 by omega)]
  exact (Int.ofNat_tdiv a b).symm
theorem nI_mul (a b : Nat) : nI a * nI b = nI (a * b) := (Int32.ofNat_mul a b).symm
theorem nI_mod {a b : Nat} (ha : a < 2 ^ 31) (hb : b < 2 ^ 31) : nI a - nI a / nI b * nI b = nI (a % b) := by
  rw [nI_div ha hb, nI_mul, nI_sub (Nat.div_mul_le_self a b)]
  congr 1
  have := Nat.div_add_mod' a b
  omega
def lyG (G g : Nat → Int32) (k : Nat) (j : Nat) : Nat → Int32 := fun i => if k ≤ i ∧ i < k + j then g (i - k) else G i
theorem lyG_s (G g : Nat → Int32) (k j : Nat) : upd (lyG G g k j) (k + j) (g j) = lyG G g k (j + 1) := by
  funext i
  unfold upd lyG
  by_cases e : i = k + j
  · rw [if_pos e, if_pos ⟨by omega, by omega⟩, e, Nat.add_sub_cancel_left]
  · rw [if_neg e]
    by_cases e2 : k ≤ i ∧ i < k + j
    · rw [if_pos e2, if_pos ⟨e2.1, by omega⟩]
    · rw [if_neg e2, if_neg (by omega)]
theorem lyG_0 (G g : Nat → Int32) (k : Nat) : lyG G g k 0 = G := by
  funext i
  unfold lyG
  rw [if_neg (by omega)]
theorem lyG_in (G g : Nat → Int32) (k : Nat) {i : Nat} (hi : i < 22) : lyG G g k 22 (k + i) = g i := by
  unfold lyG
  rw [if_pos ⟨by omega, by omega⟩, Nat.add_sub_cancel_left]
theorem lyG_out (G g : Nat → Int32) (k : Nat) {i : Nat} (hi : ¬ (k ≤ i ∧ i < k + 22)) : lyG G g k 22 i = G i := by
  unfold lyG
  rw [if_neg hi]
def dsk (s : St) (q : Fk) (sky : Int32) : Fk := (fgrow q.A (dh s.V s.lg q.P q.A q.n sky q.day) q.n, q.P, q.S, q.n, q.day + 1)
theorem dsk_dst (s : St) (q : Fk) : dsk s q (ysky s.sk s.tu q.day) = dst s q := rfl
section MO5
variable {l : Launch} {d b lo gz f a t i D : Nat} {hp : xHp} {x : SO} {s : St} {q : Fk} {n one other v sky ot k : Int32} {g G : Nat → Int32}
theorem c_Mo_skyOf {K : Int32 → xHp → Prop} (h : isME hp x s) (hq : isMk hp a q) (hD : q.day = nI D) (hD2 : D < 2 ^ 31) (hK : K (ysky s.sk s.tu q.day) hp) : xMi l d b lo gz m_Mo_skyOf [.ref 103, .ref a] hp K := by
  obtain ⟨hO, -, -, -, ⟨g5, m, h5, k1, k2, k3, k4, k5⟩, -⟩ := h
  obtain ⟨rd, le, tp, at2, wr, o1⟩ := isO_raw hO
  rw [k4] at o1
  obtain ⟨g, hg, -, hd⟩ := hq
  have v1 := vin (show 21 < 22 by decide) (by decide)
  have v2 := nI_clamp (show 21 < 2 ^ 31 by decide)
  have hlt := Nat.mod_lt D k1
  have e1 : ysky s.sk s.tu q.day = s.sk (D % m) := by
    unfold ysky
    have z9 : ¬ nI m ≤ 0 := nI_ge (show 0 < m from k1) (by omega)
    rw [k3, hD, if_neg z9, nI_mod hD2 (by omega), yat_nI (by omega) (by decide)]
  rw [e1, ← k5 _ hlt] at hK
  have v3 := vin (show D % m < 20 by omega) (by decide)
  have v4 := nI_clamp (show D % m < 2 ^ 31 by omega)
  have z0 : ¬ nI m = 0 := fun z => by have := (nI_z (show m < 2 ^ 31 by omega)).mp z; omega
  rw [show nI 21 = (21 : Int32) from rfl] at v1 v2
  refine xMC_V ok_Mo_skyOf (by decide) (L0 := [.ref 103, .ref a]) rfl rfl ?_
  try simp only [s_Mo_skyOf_0, s_Mo_skyOf_1, s_Mo_skyOf_4, s_Mo_skyOf_5, s_Mo_skyOf_7, s_Mo_skyOf_8, s_Mo_skyOf_9, s_Mo_skyOf_12, s_Mo_skyOf_13, s_Mo_skyOf_14, xg_0, xg_s, xF_up, xPf_up, xO_up, xAi_up, xAl_up, xLn_up, xup_xup, ty_i, ty_b, ty_z, ty_l, ty_q, tb_b, tb_z, xup_2, xpI_s, xpL_s, xpV_s, xpQ_n, xpQ_r, yl_0, yl_1, yl_2, yl_3, yl_4, yl_5, yl_6, xcs_nil, xcs_i, xcs_a, xcs_l, xcs_n, xNl_z, xNl_s, xNl_i, xNl_a, xNl_n, xNl_d, cat_i, cat_a, cat_n, List.getElem?_cons_zero, List.getElem?_cons_succ, List.set_cons_zero, List.set_cons_succ, List.length_cons, List.length_nil, true_and, and_true, eq_self, ite_true, ite_false, if_true, if_false, or_true, true_or, or_false, false_or, Nat.reduceAdd, Nat.reduceLT, Nat.reduceLeDiff, Nat.reduceEqDiff, Nat.reduceSub, ↓reduceIte, reduceCtorEq, not_false_eq_true, not_true_eq_false, false_implies, true_implies, forall_const, imp_self, implies_true, Nat.add_left_cancel_iff, Nat.left_eq_add, Nat.add_eq_left, Nat.zero_lt_succ, Nat.lt_add_left_iff_pos, one_ne_zero_n, zero_ne_one_n, zero_ne_one_i, one_ne_zero_i, xF_r o1, xPf_r o1, xO_r o1, xAi_r hg, xLn_r hg, xAi_r h5, xLn_r h5, tb_b, v1, v2, hd, hD, z0, nI_mod hD2 (show m < 2 ^ 31 by omega), v3, v4]
  exact hK
theorem c_Mo_othersAt {p : Int32} {K : Int32 → xHp → Prop} (h : isO hp x) (hpe : x.pe = nI q.n) (h7 : q.n ≤ 7) (hq : isMk hp a q) (hi : i < q.n) (hK : K (fothers q.P (q.P i) (nI i) q.n) hp) : xMi l d b lo gz m_Mo_othersAt [.ref 103, .ref a, .int (nI i)] hp K := by
  obtain ⟨rd, le, tp, at2, wr, o1⟩ := isO_raw h
  rw [hpe] at o1
  obtain ⟨g, hg, hgk, hd⟩ := hq
  refine xMC_V ok_Mo_othersAt (by decide) (L0 := [.ref 103, .ref a, .int (nI i), .retAddr 0, .retAddr 0]) rfl rfl ?_
  have ei : (7 : Int32) + nI i = nI (7 + i) := nI_ad 7 i
  have v3 := vin (show 7 + i < 22 by omega) (by decide)
  have v4 := nI_clamp (show 7 + i < 2 ^ 31 by omega)
  have loop : ∀ j, j ≤ q.n → xV k_Mo_othersAt (l, d, b, lo, gz, hp.2.1, hp.2.2, m_Mo_othersAt, xpI K) 5 [.ref 103, .ref a, .int (nI i), .int (fothers q.P (q.P i) (nI i) j), .int (nI j)] [] hp := by
    refine yloop q.n ?_ fun j hj ih => ?_
    · rw [s_Mo_othersAt_5]
      try simp only [s_Mo_othersAt_0, s_Mo_othersAt_1, s_Mo_othersAt_2, s_Mo_othersAt_3, s_Mo_othersAt_7, s_Mo_othersAt_8, s_Mo_othersAt_11, s_Mo_othersAt_14, s_Mo_othersAt_15, s_Mo_othersAt_17, s_Mo_othersAt_18, s_Mo_othersAt_21, s_Mo_othersAt_22, s_Mo_othersAt_24, s_Mo_othersAt_26, s_Mo_othersAt_27, s_Mo_othersAt_28, s_Mo_othersAt_29, s_Mo_othersAt_31, s_Mo_othersAt_32, s_Mo_othersAt_33, s_Mo_othersAt_34, s_Mo_othersAt_37, s_Mo_othersAt_38, s_Mo_othersAt_41, s_Mo_othersAt_42, s_Mo_othersAt_43, s_Mo_othersAt_44, s_Mo_othersAt_47, s_Mo_othersAt_50, s_Mo_othersAt_51, xg_0, xg_s, xF_up, xPf_up, xO_up, xAi_up, xAl_up, xLn_up, xup_xup, ty_i, ty_b, ty_z, ty_l, ty_q, tb_b, tb_z, xup_2, xpI_s, xpL_s, xpV_s, xpQ_n, xpQ_r, yl_0, yl_1, yl_2, yl_3, yl_4, yl_5, yl_6, xcs_nil, xcs_i, xcs_a, xcs_l, xcs_n, xNl_z, xNl_s, xNl_i, xNl_a, xNl_n, xNl_d, cat_i, cat_a, cat_n, List.getElem?_cons_zero, List.getElem?_cons_succ, List.set_cons_zero, List.set_cons_succ, List.length_cons, List.length_nil, true_and, and_true, eq_self, ite_true, ite_false, if_true, if_false, or_true, true_or, or_false, false_or, Nat.reduceAdd, Nat.reduceLT, Nat.reduceLeDiff, Nat.reduceEqDiff, Nat.reduceSub, ↓reduceIte, reduceCtorEq, not_false_eq_true, not_true_eq_false, false_implies, true_implies, forall_const, imp_self, implies_true, Nat.add_left_cancel_iff, Nat.left_eq_add, Nat.add_eq_left, Nat.zero_lt_succ, Nat.lt_add_left_iff_pos, one_ne_zero_n, zero_ne_one_n, zero_ne_one_i, one_ne_zero_i, xF_r o1, xPf_r o1, xO_r o1]
      exact ⟨fun _ => hK, fun z => absurd (nI_le (Nat.le_refl q.n) (by omega)) z⟩
    · have ej : (7 : Int32) + nI j = nI (7 + j) := nI_ad 7 j
      have v1 := vin (show 7 + j < 22 by omega) (by decide)
      have v2 := nI_clamp (show 7 + j < 2 ^ 31 by omega)
      have w1 := (hgk j hj).2.1
      have w2 := (hgk i hi).2.1
      rw [s_Mo_othersAt_5]
      try simp only [s_Mo_othersAt_0, s_Mo_othersAt_1, s_Mo_othersAt_2, s_Mo_othersAt_3, s_Mo_othersAt_7, s_Mo_othersAt_8, s_Mo_othersAt_11, s_Mo_othersAt_14, s_Mo_othersAt_15, s_Mo_othersAt_17, s_Mo_othersAt_18, s_Mo_othersAt_21, s_Mo_othersAt_22, s_Mo_othersAt_24, s_Mo_othersAt_26, s_Mo_othersAt_27, s_Mo_othersAt_28, s_Mo_othersAt_29, s_Mo_othersAt_31, s_Mo_othersAt_32, s_Mo_othersAt_33, s_Mo_othersAt_34, s_Mo_othersAt_37, s_Mo_othersAt_38, s_Mo_othersAt_41, s_Mo_othersAt_42, s_Mo_othersAt_43, s_Mo_othersAt_44, s_Mo_othersAt_47, s_Mo_othersAt_50, s_Mo_othersAt_51, xg_0, xg_s, xF_up, xPf_up, xO_up, xAi_up, xAl_up, xLn_up, xup_xup, ty_i, ty_b, ty_z, ty_l, ty_q, tb_b, tb_z, xup_2, xpI_s, xpL_s, xpV_s, xpQ_n, xpQ_r, yl_0, yl_1, yl_2, yl_3, yl_4, yl_5, yl_6, xcs_nil, xcs_i, xcs_a, xcs_l, xcs_n, xNl_z, xNl_s, xNl_i, xNl_a, xNl_n, xNl_d, cat_i, cat_a, cat_n, List.getElem?_cons_zero, List.getElem?_cons_succ, List.set_cons_zero, List.set_cons_succ, List.length_cons, List.length_nil, true_and, and_true, eq_self, ite_true, ite_false, if_true, if_false, or_true, true_or, or_false, false_or, Nat.reduceAdd, Nat.reduceLT, Nat.reduceLeDiff, Nat.reduceEqDiff, Nat.reduceSub, ↓reduceIte, reduceCtorEq, not_false_eq_true, not_true_eq_false, false_implies, true_implies, forall_const, imp_self, implies_true, Nat.add_left_cancel_iff, Nat.left_eq_add, Nat.add_eq_left, Nat.zero_lt_succ, Nat.lt_add_left_iff_pos, one_ne_zero_n, zero_ne_one_n, zero_ne_one_i, one_ne_zero_i, xF_r o1, xPf_r o1, xO_r o1, xAi_r hg, xLn_r hg, ei, ej, v1, v2, v3, v4, w1, w2, nI_1]
      refine ⟨fun z => absurd z (nI_ge hj (by omega)), fun _ => ?_⟩
      unfold fothers at ih
      refine ⟨fun hc => ?_, fun hc => ⟨fun hd2 => ?_, fun hd2 => ?_⟩⟩
      · rw [if_neg (fun z => z.1 hc)] at ih; exact ih
      · rw [if_neg (fun z => hd2 z.2)] at ih; exact ih
      · rw [if_pos ⟨hc, hd2⟩] at ih; exact ih
  try simp only [s_Mo_othersAt_0, s_Mo_othersAt_1, s_Mo_othersAt_2, s_Mo_othersAt_3, s_Mo_othersAt_7, s_Mo_othersAt_8, s_Mo_othersAt_11, s_Mo_othersAt_14, s_Mo_othersAt_15, s_Mo_othersAt_17, s_Mo_othersAt_18, s_Mo_othersAt_21, s_Mo_othersAt_22, s_Mo_othersAt_24, s_Mo_othersAt_26, s_Mo_othersAt_27, s_Mo_othersAt_28, s_Mo_othersAt_29, s_Mo_othersAt_31, s_Mo_othersAt_32, s_Mo_othersAt_33, s_Mo_othersAt_34, s_Mo_othersAt_37, s_Mo_othersAt_38, s_Mo_othersAt_41, s_Mo_othersAt_42, s_Mo_othersAt_43, s_Mo_othersAt_44, s_Mo_othersAt_47, s_Mo_othersAt_50, s_Mo_othersAt_51, xg_0, xg_s, xF_up, xPf_up, xO_up, xAi_up, xAl_up, xLn_up, xup_xup, ty_i, ty_b, ty_z, ty_l, ty_q, tb_b, tb_z, xup_2, xpI_s, xpL_s, xpV_s, xpQ_n, xpQ_r, yl_0, yl_1, yl_2, yl_3, yl_4, yl_5, yl_6, xcs_nil, xcs_i, xcs_a, xcs_l, xcs_n, xNl_z, xNl_s, xNl_i, xNl_a, xNl_n, xNl_d, cat_i, cat_a, cat_n, List.getElem?_cons_zero, List.getElem?_cons_succ, List.set_cons_zero, List.set_cons_succ, List.length_cons, List.length_nil, true_and, and_true, eq_self, ite_true, ite_false, if_true, if_false, or_true, true_or, or_false, false_or, Nat.reduceAdd, Nat.reduceLT, Nat.reduceLeDiff, Nat.reduceEqDiff, Nat.reduceSub, ↓reduceIte, reduceCtorEq, not_false_eq_true, not_true_eq_false, false_implies, true_implies, forall_const, imp_self, implies_true, Nat.add_left_cancel_iff, Nat.left_eq_add, Nat.add_eq_left, Nat.zero_lt_succ, Nat.lt_add_left_iff_pos, one_ne_zero_n, zero_ne_one_n, zero_ne_one_i, one_ne_zero_i]
  exact loop 0 (Nat.zero_le _)
theorem c_Mo_lay {M k : Nat} {K : xHp → Prop} (hf : hp.1 f = .inl (.int, 22, .inl g)) (ht : hp.1 t = .inl (.int, M, .inl G)) (hne : ¬ f = t) (hk : k + 22 ≤ M) (hM : M ≤ 1000) (hK : K (xup hp t (.inl (.int, M, .inl (lyG G g k 22))))) : xMv l d b lo gz m_Mo_lay [.ref f, .ref t, .int (nI k)] hp K := by
  refine xMC_V ok_Mo_lay (by decide) (L0 := [.ref f, .ref t, .int (nI k), .retAddr 0]) rfl rfl ?_
  have loop : ∀ j, j ≤ 22 → xV k_Mo_lay (l, d, b, lo, gz, hp.2.1, hp.2.2, m_Mo_lay, xpV K) 2 [.ref f, .ref t, .int (nI k), .int (nI j)] [] (xup hp t (.inl (.int, M, .inl (lyG G g k j)))) := by
    refine yloop 22 ?_ fun j hj ih => ?_
    · rw [s_Mo_lay_2]
      try simp only [s_Mo_lay_0, s_Mo_lay_1, s_Mo_lay_3, s_Mo_lay_5, s_Mo_lay_8, s_Mo_lay_9, s_Mo_lay_10, s_Mo_lay_11, s_Mo_lay_12, s_Mo_lay_13, s_Mo_lay_14, s_Mo_lay_15, s_Mo_lay_16, s_Mo_lay_19, s_Mo_lay_22, xg_0, xg_s, xF_up, xPf_up, xO_up, xAi_up, xAl_up, xLn_up, xup_xup, ty_i, ty_b, ty_z, ty_l, ty_q, tb_b, tb_z, xup_2, xpI_s, xpL_s, xpV_s, xpQ_n, xpQ_r, yl_0, yl_1, yl_2, yl_3, yl_4, yl_5, yl_6, xcs_nil, xcs_i, xcs_a, xcs_l, xcs_n, xNl_z, xNl_s, xNl_i, xNl_a, xNl_n, xNl_d, cat_i, cat_a, cat_n, List.getElem?_cons_zero, List.getElem?_cons_succ, List.set_cons_zero, List.set_cons_succ, List.length_cons, List.length_nil, true_and, and_true, eq_self, ite_true, ite_false, if_true, if_false, or_true, true_or, or_false, false_or, Nat.reduceAdd, Nat.reduceLT, Nat.reduceLeDiff, Nat.reduceEqDiff, Nat.reduceSub, ↓reduceIte, reduceCtorEq, not_false_eq_true, not_true_eq_false, false_implies, true_implies, forall_const, imp_self, implies_true, Nat.add_left_cancel_iff, Nat.left_eq_add, Nat.add_eq_left, Nat.zero_lt_succ, Nat.lt_add_left_iff_pos, one_ne_zero_n, zero_ne_one_n, zero_ne_one_i, one_ne_zero_i]
      exact ⟨fun _ => hK, fun z => absurd (show (22 : Int32) ≤ nI 22 by decide) z⟩
    · have hf2 : (xup hp t (.inl (.int, M, .inl (lyG G g k j)))).1 f = .inl (.int, 22, .inl g) := xup_o hf hne
      have v1 := vin (show j < 22 from hj) (by decide)
      have v2 := nI_clamp (show j < 2 ^ 31 by omega)
      have v3 := vin (show k + j < M by omega) (by omega)
      have v4 := nI_clamp (show k + j < 2 ^ 31 by omega)
      have ek : nI k + nI j = nI (k + j) := nI_ad k j
      rw [s_Mo_lay_2]
      try simp only [s_Mo_lay_0, s_Mo_lay_1, s_Mo_lay_3, s_Mo_lay_5, s_Mo_lay_8, s_Mo_lay_9, s_Mo_lay_10, s_Mo_lay_11, s_Mo_lay_12, s_Mo_lay_13, s_Mo_lay_14, s_Mo_lay_15, s_Mo_lay_16, s_Mo_lay_19, s_Mo_lay_22, xg_0, xg_s, xF_up, xPf_up, xO_up, xAi_up, xAl_up, xLn_up, xup_xup, ty_i, ty_b, ty_z, ty_l, ty_q, tb_b, tb_z, xup_2, xpI_s, xpL_s, xpV_s, xpQ_n, xpQ_r, yl_0, yl_1, yl_2, yl_3, yl_4, yl_5, yl_6, xcs_nil, xcs_i, xcs_a, xcs_l, xcs_n, xNl_z, xNl_s, xNl_i, xNl_a, xNl_n, xNl_d, cat_i, cat_a, cat_n, List.getElem?_cons_zero, List.getElem?_cons_succ, List.set_cons_zero, List.set_cons_succ, List.length_cons, List.length_nil, true_and, and_true, eq_self, ite_true, ite_false, if_true, if_false, or_true, true_or, or_false, false_or, Nat.reduceAdd, Nat.reduceLT, Nat.reduceLeDiff, Nat.reduceEqDiff, Nat.reduceSub, ↓reduceIte, reduceCtorEq, not_false_eq_true, not_true_eq_false, false_implies, true_implies, forall_const, imp_self, implies_true, Nat.add_left_cancel_iff, Nat.left_eq_add, Nat.add_eq_left, Nat.zero_lt_succ, Nat.lt_add_left_iff_pos, one_ne_zero_n, zero_ne_one_n, zero_ne_one_i, one_ne_zero_i, xAi_r hf2, xLn_r hf2, ek, v1, v2, v3, v4, nI_1, lyG_s]
      exact ⟨fun z => absurd z (nI_ge hj (by decide)), fun _ => ih⟩
  try simp only [s_Mo_lay_0, s_Mo_lay_1, s_Mo_lay_3, s_Mo_lay_5, s_Mo_lay_8, s_Mo_lay_9, s_Mo_lay_10, s_Mo_lay_11, s_Mo_lay_12, s_Mo_lay_13, s_Mo_lay_14, s_Mo_lay_15, s_Mo_lay_16, s_Mo_lay_19, s_Mo_lay_22, xg_0, xg_s, xF_up, xPf_up, xO_up, xAi_up, xAl_up, xLn_up, xup_xup, ty_i, ty_b, ty_z, ty_l, ty_q, tb_b, tb_z, xup_2, xpI_s, xpL_s, xpV_s, xpQ_n, xpQ_r, yl_0, yl_1, yl_2, yl_3, yl_4, yl_5, yl_6, xcs_nil, xcs_i, xcs_a, xcs_l, xcs_n, xNl_z, xNl_s, xNl_i, xNl_a, xNl_n, xNl_d, cat_i, cat_a, cat_n, List.getElem?_cons_zero, List.getElem?_cons_succ, List.set_cons_zero, List.set_cons_succ, List.length_cons, List.length_nil, true_and, and_true, eq_self, ite_true, ite_false, if_true, if_false, or_true, true_or, or_false, false_or, Nat.reduceAdd, Nat.reduceLT, Nat.reduceLeDiff, Nat.reduceEqDiff, Nat.reduceSub, ↓reduceIte, reduceCtorEq, not_false_eq_true, not_true_eq_false, false_implies, true_implies, forall_const, imp_self, implies_true, Nat.add_left_cancel_iff, Nat.left_eq_add, Nat.add_eq_left, Nat.zero_lt_succ, Nat.lt_add_left_iff_pos, one_ne_zero_n, zero_ne_one_n, zero_ne_one_i, one_ne_zero_i]
  have l0 := loop 0 (Nat.zero_le _)
  rw [lyG_0] at l0
  have e0 : xup hp t (.inl (.int, M, .inl G)) = hp := by
    unfold xup
    rw [← ht]
    refine Prod.ext ?_ rfl
    funext j
    show (if j = t then hp.1 t else hp.1 j) = hp.1 j
    by_cases e : j = t
    · rw [if_pos e, e]
    · rw [if_neg e]
  rw [e0] at l0
  exact l0
end MO5
