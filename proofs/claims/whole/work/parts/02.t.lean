abbrev xMI : Type := MethodName × ByteArray × Nat × Option FieldType × Nat × Nat × Nat
abbrev xEC : Type := Nat × Instr × Nat × Nat × Nat × Int × xMI
abbrev xAE : Type := (FieldType × vp_A) ⊕ (Nat × List Value)
abbrev xHp : Type := (Nat → xAE) × Nat × Nat
def wG : List Cond := lw_tbl.filter goodWord
theorem wg0 {w : Cond} (h : w ∈ tables_1) (g : goodWord w = true) : w ∈ wG := List.mem_filter.mpr ⟨List.mem_append_right _ h, g⟩
theorem wgP (i : Nat) {w : Cond} (h : (k2_sels lw_privs)[i]? = some w) (g : goodWord w = true) : w ∈ wG := List.mem_filter.mpr ⟨List.mem_append_left _ (List.mem_of_getElem? h), g⟩
theorem wg1 (i : Nat) {w : Cond} (h : tables_1_1[i]? = some w) (g : goodWord w = true) : w ∈ wG := wg0 (List.mem_append_left _ (List.mem_of_getElem? h)) g
theorem wg2 (i : Nat) {w : Cond} (h : tables_1_2[i]? = some w) (g : goodWord w = true) : w ∈ wG := wg0 (List.mem_append_right _ (List.mem_append_left _ (List.mem_of_getElem? h))) g
theorem wg3 (i : Nat) {w : Cond} (h : tables_1_3[i]? = some w) (g : goodWord w = true) : w ∈ wG := wg0 (List.mem_append_right _ (List.mem_append_right _ (List.mem_append_left _ (List.mem_of_getElem? h)))) g
theorem wg4 (i : Nat) {w : Cond} (h : tables_1_4[i]? = some w) (g : goodWord w = true) : w ∈ wG := wg0 (List.mem_append_right _ (List.mem_append_right _ (List.mem_append_right _ (List.mem_append_left _ (List.mem_of_getElem? h))))) g
theorem wg5 (i : Nat) {w : Cond} (h : tables_1_5[i]? = some w) (g : goodWord w = true) : w ∈ wG := wg0 (List.mem_append_right _ (List.mem_append_right _ (List.mem_append_right _ (List.mem_append_right _ (List.mem_append_left _ (List.mem_of_getElem? h)))))) g
theorem wg6 (i : Nat) {w : Cond} (h : tables_1_6[i]? = some w) (g : goodWord w = true) : w ∈ wG := wg0 (List.mem_append_right _ (List.mem_append_right _ (List.mem_append_right _ (List.mem_append_right _ (List.mem_append_right _ (List.mem_append_left _ (List.mem_of_getElem? h))))))) g
theorem wg7 (i : Nat) {w : Cond} (h : tables_1_7[i]? = some w) (g : goodWord w = true) : w ∈ wG := wg0 (List.mem_append_right _ (List.mem_append_right _ (List.mem_append_right _ (List.mem_append_right _ (List.mem_append_right _ (List.mem_append_right _ (List.mem_append_left _ (List.mem_of_getElem? h)))))))) g
theorem wg8 (i : Nat) {w : Cond} (h : tables_1_8[i]? = some w) (g : goodWord w = true) : w ∈ wG := wg0 (List.mem_append_right _ (List.mem_append_right _ (List.mem_append_right _ (List.mem_append_right _ (List.mem_append_right _ (List.mem_append_right _ (List.mem_append_right _ (List.mem_of_getElem? h)))))))) g
theorem wG_good : ∀ w ∈ wG, goodWord w = true := fun w h => (List.mem_filter.mp h).2
theorem wG_in : ∀ w ∈ wG, w ∈ lw_tbl := fun w h => (List.mem_filter.mp h).1
def nestW : List Cond := [
  (Jvm.Cond.methodLinkNest "SunnyOnes" (9 : Nat) ({ cls := "SunnyOnes$Text", name := "<init>", desc := "()V" } : Jvm.MethodName) "SunnyOnes"),
  (Jvm.Cond.methodLinkNest "SunnyOnes" (18 : Nat) ({ cls := "SunnyOnes$Row", name := "<init>", desc := "()V" } : Jvm.MethodName) "SunnyOnes"),
  (Jvm.Cond.methodLinkNest "SunnyOnes$Land" (18 : Nat) ({ cls := "SunnyOnes", name := "put", desc := "([III)V" } : Jvm.MethodName) "SunnyOnes"),
  (Jvm.Cond.methodLinkNest "SunnyOnes" (53 : Nat) ({ cls := "SunnyOnes$Folk", name := "<init>", desc := "()V" } : Jvm.MethodName) "SunnyOnes"),
  (Jvm.Cond.methodLinkNest "SunnyOnes$Past" (22 : Nat) ({ cls := "SunnyOnes$Folk", name := "<init>", desc := "()V" } : Jvm.MethodName) "SunnyOnes"),
  (Jvm.Cond.methodLinkNest "SunnyOnes$Text" (30 : Nat) ({ cls := "SunnyOnes", name := "put", desc := "([III)V" } : Jvm.MethodName) "SunnyOnes"),
  (Jvm.Cond.methodLinkNest "SunnyOnes$Folk" (32 : Nat) ({ cls := "SunnyOnes", name := "put", desc := "([III)V" } : Jvm.MethodName) "SunnyOnes"),
  (Jvm.Cond.methodLinkNest "SunnyOnes$Rule" (29 : Nat) ({ cls := "SunnyOnes", name := "at", desc := "([II)I" } : Jvm.MethodName) "SunnyOnes"),
  (Jvm.Cond.methodLinkNest "SunnyOnes$Rule" (33 : Nat) ({ cls := "SunnyOnes", name := "put", desc := "([III)V" } : Jvm.MethodName) "SunnyOnes"),
  (Jvm.Cond.methodLinkNest "SunnyOnes$Land" (37 : Nat) ({ cls := "SunnyOnes", name := "within", desc := "(III)I" } : Jvm.MethodName) "SunnyOnes"),
  (Jvm.Cond.methodLinkNest "SunnyOnes$Land" (29 : Nat) ({ cls := "SunnyOnes", name := "at", desc := "([II)I" } : Jvm.MethodName) "SunnyOnes"),
  (Jvm.Cond.methodLinkNest "SunnyOnes$Folk" (28 : Nat) ({ cls := "SunnyOnes", name := "at", desc := "([II)I" } : Jvm.MethodName) "SunnyOnes"),
  (Jvm.Cond.methodLinkNest "SunnyOnes$Sun" (31 : Nat) ({ cls := "SunnyOnes", name := "put", desc := "([III)V" } : Jvm.MethodName) "SunnyOnes"),
  (Jvm.Cond.methodLinkNest "SunnyOnes$Sun" (48 : Nat) ({ cls := "SunnyOnes", name := "within", desc := "(III)I" } : Jvm.MethodName) "SunnyOnes"),
  (Jvm.Cond.methodLinkNest "SunnyOnes$Walk" (91 : Nat) ({ cls := "SunnyOnes", name := "put", desc := "([III)V" } : Jvm.MethodName) "SunnyOnes"),
  (Jvm.Cond.methodLinkNest "SunnyOnes$Walk" (87 : Nat) ({ cls := "SunnyOnes", name := "at", desc := "([II)I" } : Jvm.MethodName) "SunnyOnes"),
  (Jvm.Cond.methodLinkNest "SunnyOnes$Rooms" (48 : Nat) ({ cls := "SunnyOnes", name := "put", desc := "([III)V" } : Jvm.MethodName) "SunnyOnes"),
  (Jvm.Cond.methodLinkNest "SunnyOnes$Rooms" (68 : Nat) ({ cls := "SunnyOnes", name := "at", desc := "([II)I" } : Jvm.MethodName) "SunnyOnes"),
  (Jvm.Cond.methodLinkNest "SunnyOnes$Clues" (35 : Nat) ({ cls := "SunnyOnes", name := "put", desc := "([III)V" } : Jvm.MethodName) "SunnyOnes"),
  (Jvm.Cond.methodLinkNest "SunnyOnes$Clues" (31 : Nat) ({ cls := "SunnyOnes", name := "at", desc := "([II)I" } : Jvm.MethodName) "SunnyOnes")]
def F_So : u_T := fun k => match k with
  | 0 => ("SunnyOnes", "text", "LSunnyOnes$Text;", true)
  | 1 => ("SunnyOnes", "told", "LSunnyOnes$Row;", true)
  | 2 => ("SunnyOnes", "land", "LSunnyOnes$Land;", true)
  | 3 => ("SunnyOnes", "standing", "LSunnyOnes$Rule;", true)
  | 4 => ("SunnyOnes", "proposed", "LSunnyOnes$Rule;", true)
  | 5 => ("SunnyOnes", "sun", "LSunnyOnes$Sun;", true)
  | 6 => ("SunnyOnes", "now", "LSunnyOnes$Folk;", true)
  | 7 => ("SunnyOnes", "then", "LSunnyOnes$Folk;", true)
  | 8 => ("SunnyOnes", "before", "LSunnyOnes$Folk;", true)
  | 9 => ("SunnyOnes", "past", "LSunnyOnes$Past;", true)
  | 10 => ("SunnyOnes", "seen", "LSunnyOnes$Clues;", true)
  | 11 => ("SunnyOnes", "rumours", "LSunnyOnes$Clues;", true)
  | 12 => ("SunnyOnes", "walk", "LSunnyOnes$Walk;", true)
  | 13 => ("SunnyOnes", "house", "LSunnyOnes$Rooms;", true)
  | 14 => ("SunnyOnes", "luck", "LSunnyOnes$Chance;", true)
  | 15 => ("SunnyOnes", "tally", "[I", true)
  | _ => ("SunnyOnes", "lot", "I", false)
def t_So : Nat → FieldType := fun k => match k with
  | 0 => .object "SunnyOnes$Text"
  | 1 => .object "SunnyOnes$Row"
  | 2 => .object "SunnyOnes$Land"
  | 3 => .object "SunnyOnes$Rule"
  | 4 => .object "SunnyOnes$Rule"
  | 5 => .object "SunnyOnes$Sun"
  | 6 => .object "SunnyOnes$Folk"
  | 7 => .object "SunnyOnes$Folk"
  | 8 => .object "SunnyOnes$Folk"
  | 9 => .object "SunnyOnes$Past"
  | 10 => .object "SunnyOnes$Clues"
  | 11 => .object "SunnyOnes$Clues"
  | 12 => .object "SunnyOnes$Walk"
  | 13 => .object "SunnyOnes$Rooms"
  | 14 => .object "SunnyOnes$Chance"
  | 15 => .array .int
  | _ => .int
theorem n_So : ∀ a, a < 17 → ∀ b, b < 17 → a ≠ b → (F_So a).2.1 ≠ (F_So b).2.1 := by decide +kernel
theorem t_So_ok : ∀ k, k < 17 → parseFieldDescriptor (F_So k).2.2.1 = some (t_So k) := by decide +kernel
theorem i_So : ∀ w ∈ u_ws "SunnyOnes" F_So 17, w ∈ wG :=
  List.forall_mem_cons.mpr ⟨wg2 61 (by decide +kernel) rfl, List.forall_mem_cons.mpr ⟨wg2 63 (by decide +kernel) rfl, List.forall_mem_cons.mpr ⟨wg2 65 (by decide +kernel) rfl, List.forall_mem_cons.mpr ⟨wg2 67 (by decide +kernel) rfl, List.forall_mem_cons.mpr ⟨wg2 69 (by decide +kernel) rfl, List.forall_mem_cons.mpr ⟨wg2 71 (by decide +kernel) rfl, List.forall_mem_cons.mpr ⟨wg2 73 (by decide +kernel) rfl, List.forall_mem_cons.mpr ⟨wg2 75 (by decide +kernel) rfl, List.forall_mem_cons.mpr ⟨wg2 77 (by decide +kernel) rfl, List.forall_mem_cons.mpr ⟨wg2 79 (by decide +kernel) rfl, List.forall_mem_cons.mpr ⟨wg2 81 (by decide +kernel) rfl, List.forall_mem_cons.mpr ⟨wg2 83 (by decide +kernel) rfl, List.forall_mem_cons.mpr ⟨wg2 85 (by decide +kernel) rfl, List.forall_mem_cons.mpr ⟨wg2 87 (by decide +kernel) rfl, List.forall_mem_cons.mpr ⟨wg2 89 (by decide +kernel) rfl, List.forall_mem_cons.mpr ⟨wg2 91 (by decide +kernel) rfl, List.forall_mem_cons.mpr ⟨wg2 93 (by decide +kernel) rfl, fun _ h => absurd h List.not_mem_nil⟩⟩⟩⟩⟩⟩⟩⟩⟩⟩⟩⟩⟩⟩⟩⟩⟩
def F_Chance : u_T := fun k => match k with
  | 0 => ("SunnyOnes$Chance", "sun", "LSunnyOnes$Sun;", true)
  | 1 => ("SunnyOnes$Chance", "folk", "LSunnyOnes$Folk;", true)
  | 2 => ("SunnyOnes$Chance", "one", "I", false)
  | 3 => ("SunnyOnes$Chance", "tenths", "I", false)
  | _ => ("SunnyOnes$Chance", "goal", "I", false)
def t_Chance : Nat → FieldType := fun k => match k with
  | 0 => .object "SunnyOnes$Sun"
  | 1 => .object "SunnyOnes$Folk"
  | 2 => .int
  | 3 => .int
  | _ => .int
theorem n_Chance : ∀ a, a < 5 → ∀ b, b < 5 → a ≠ b → (F_Chance a).2.1 ≠ (F_Chance b).2.1 := by decide +kernel
theorem t_Chance_ok : ∀ k, k < 5 → parseFieldDescriptor (F_Chance k).2.2.1 = some (t_Chance k) := by decide +kernel
theorem i_Chance : ∀ w ∈ u_ws "SunnyOnes$Chance" F_Chance 5, w ∈ wG :=
  List.forall_mem_cons.mpr ⟨wg2 33 (by decide +kernel) rfl, List.forall_mem_cons.mpr ⟨wg2 35 (by decide +kernel) rfl, List.forall_mem_cons.mpr ⟨wg2 37 (by decide +kernel) rfl, List.forall_mem_cons.mpr ⟨wg2 39 (by decide +kernel) rfl, List.forall_mem_cons.mpr ⟨wg2 41 (by decide +kernel) rfl, fun _ h => absurd h List.not_mem_nil⟩⟩⟩⟩⟩
def F_Clues : u_T := fun k => match k with
  | 0 => ("SunnyOnes$Clues", "most", "I", true)
  | 1 => ("SunnyOnes$Clues", "firsts", "[I", true)
  | 2 => ("SunnyOnes$Clues", "seconds", "[I", true)
  | _ => ("SunnyOnes$Clues", "size", "I", false)
def t_Clues : Nat → FieldType := fun k => match k with
  | 0 => .int
  | 1 => .array .int
  | 2 => .array .int
  | _ => .int
theorem n_Clues : ∀ a, a < 4 → ∀ b, b < 4 → a ≠ b → (F_Clues a).2.1 ≠ (F_Clues b).2.1 := by decide +kernel
theorem t_Clues_ok : ∀ k, k < 4 → parseFieldDescriptor (F_Clues k).2.2.1 = some (t_Clues k) := by decide +kernel
theorem i_Clues : ∀ w ∈ u_ws "SunnyOnes$Clues" F_Clues 4, w ∈ wG :=
  List.forall_mem_cons.mpr ⟨wg1 185 (by decide +kernel) rfl, List.forall_mem_cons.mpr ⟨wg1 187 (by decide +kernel) rfl, List.forall_mem_cons.mpr ⟨wg1 189 (by decide +kernel) rfl, List.forall_mem_cons.mpr ⟨wg1 191 (by decide +kernel) rfl, fun _ h => absurd h List.not_mem_nil⟩⟩⟩⟩
def F_Folk : u_T := fun k => match k with
  | 0 => ("SunnyOnes$Folk", "ages", "[I", true)
  | 1 => ("SunnyOnes$Folk", "spots", "[I", true)
  | 2 => ("SunnyOnes$Folk", "sins", "[I", true)
  | 3 => ("SunnyOnes$Folk", "size", "I", false)
  | _ => ("SunnyOnes$Folk", "day", "I", false)
def t_Folk : Nat → FieldType := fun k => match k with
  | 0 => .array .int
  | 1 => .array .int
  | 2 => .array .int
  | 3 => .int
  | _ => .int
theorem n_Folk : ∀ a, a < 5 → ∀ b, b < 5 → a ≠ b → (F_Folk a).2.1 ≠ (F_Folk b).2.1 := by decide +kernel
theorem t_Folk_ok : ∀ k, k < 5 → parseFieldDescriptor (F_Folk k).2.2.1 = some (t_Folk k) := by decide +kernel
theorem i_Folk : ∀ w ∈ u_ws "SunnyOnes$Folk" F_Folk 5, w ∈ wG :=
  List.forall_mem_cons.mpr ⟨wg1 135 (by decide +kernel) rfl, List.forall_mem_cons.mpr ⟨wg1 137 (by decide +kernel) rfl, List.forall_mem_cons.mpr ⟨wg1 139 (by decide +kernel) rfl, List.forall_mem_cons.mpr ⟨wg1 141 (by decide +kernel) rfl, List.forall_mem_cons.mpr ⟨wg1 143 (by decide +kernel) rfl, fun _ h => absurd h List.not_mem_nil⟩⟩⟩⟩⟩
def F_Land : u_T := fun k => match k with
  | 0 => ("SunnyOnes$Land", "lights", "[I", true)
  | 1 => ("SunnyOnes$Land", "skies", "[I", true)
  | 2 => ("SunnyOnes$Land", "size", "I", false)
  | _ => ("SunnyOnes$Land", "turns", "I", false)
def t_Land : Nat → FieldType := fun k => match k with
  | 0 => .array .int
  | 1 => .array .int
  | 2 => .int
  | _ => .int
theorem n_Land : ∀ a, a < 4 → ∀ b, b < 4 → a ≠ b → (F_Land a).2.1 ≠ (F_Land b).2.1 := by decide +kernel
theorem t_Land_ok : ∀ k, k < 4 → parseFieldDescriptor (F_Land k).2.2.1 = some (t_Land k) := by decide +kernel
theorem i_Land : ∀ w ∈ u_ws "SunnyOnes$Land" F_Land 4, w ∈ wG :=
  List.forall_mem_cons.mpr ⟨wg1 69 (by decide +kernel) rfl, List.forall_mem_cons.mpr ⟨wg1 71 (by decide +kernel) rfl, List.forall_mem_cons.mpr ⟨wg1 73 (by decide +kernel) rfl, List.forall_mem_cons.mpr ⟨wg1 75 (by decide +kernel) rfl, fun _ h => absurd h List.not_mem_nil⟩⟩⟩⟩
def F_Past : u_T := fun k => match k with
  | 0 => ("SunnyOnes$Past", "ring", "[LSunnyOnes$Folk;", true)
  | 1 => ("SunnyOnes$Past", "shelves", "[LSunnyOnes$Folk;", true)
  | 2 => ("SunnyOnes$Past", "full", "[Z", true)
  | 3 => ("SunnyOnes$Past", "next", "I", false)
  | _ => ("SunnyOnes$Past", "acts", "I", false)
def t_Past : Nat → FieldType := fun k => match k with
  | 0 => .array (.object "SunnyOnes$Folk")
  | 1 => .array (.object "SunnyOnes$Folk")
  | 2 => .array .boolean
  | 3 => .int
  | _ => .int
theorem n_Past : ∀ a, a < 5 → ∀ b, b < 5 → a ≠ b → (F_Past a).2.1 ≠ (F_Past b).2.1 := by decide +kernel
theorem t_Past_ok : ∀ k, k < 5 → parseFieldDescriptor (F_Past k).2.2.1 = some (t_Past k) := by decide +kernel
theorem i_Past : ∀ w ∈ u_ws "SunnyOnes$Past" F_Past 5, w ∈ wG :=
  List.forall_mem_cons.mpr ⟨wg1 160 (by decide +kernel) rfl, List.forall_mem_cons.mpr ⟨wg1 162 (by decide +kernel) rfl, List.forall_mem_cons.mpr ⟨wg1 164 (by decide +kernel) rfl, List.forall_mem_cons.mpr ⟨wg1 166 (by decide +kernel) rfl, List.forall_mem_cons.mpr ⟨wg1 168 (by decide +kernel) rfl, fun _ h => absurd h List.not_mem_nil⟩⟩⟩⟩⟩
def F_Rooms : u_T := fun k => match k with
  | 0 => ("SunnyOnes$Rooms", "land", "LSunnyOnes$Land;", true)
  | 1 => ("SunnyOnes$Rooms", "sun", "LSunnyOnes$Sun;", true)
  | 2 => ("SunnyOnes$Rooms", "hours", "[I", true)
  | 3 => ("SunnyOnes$Rooms", "given", "[I", true)
  | 4 => ("SunnyOnes$Rooms", "best", "[I", true)
  | 5 => ("SunnyOnes$Rooms", "guests", "I", false)
  | 6 => ("SunnyOnes$Rooms", "bestSum", "I", false)
  | 7 => ("SunnyOnes$Rooms", "most", "Z", false)
  | _ => ("SunnyOnes$Rooms", "any", "Z", false)
def t_Rooms : Nat → FieldType := fun k => match k with
  | 0 => .object "SunnyOnes$Land"
  | 1 => .object "SunnyOnes$Sun"
  | 2 => .array .int
  | 3 => .array .int
  | 4 => .array .int
  | 5 => .int
  | 6 => .int
  | 7 => .boolean
  | _ => .boolean
theorem n_Rooms : ∀ a, a < 9 → ∀ b, b < 9 → a ≠ b → (F_Rooms a).2.1 ≠ (F_Rooms b).2.1 := by decide +kernel
theorem t_Rooms_ok : ∀ k, k < 9 → parseFieldDescriptor (F_Rooms k).2.2.1 = some (t_Rooms k) := by decide +kernel
theorem i_Rooms : ∀ w ∈ u_ws "SunnyOnes$Rooms" F_Rooms 9, w ∈ wG :=
  List.forall_mem_cons.mpr ⟨wg2 3 (by decide +kernel) rfl, List.forall_mem_cons.mpr ⟨wg2 5 (by decide +kernel) rfl, List.forall_mem_cons.mpr ⟨wg2 7 (by decide +kernel) rfl, List.forall_mem_cons.mpr ⟨wg2 9 (by decide +kernel) rfl, List.forall_mem_cons.mpr ⟨wg2 11 (by decide +kernel) rfl, List.forall_mem_cons.mpr ⟨wg2 13 (by decide +kernel) rfl, List.forall_mem_cons.mpr ⟨wg2 15 (by decide +kernel) rfl, List.forall_mem_cons.mpr ⟨wg2 17 (by decide +kernel) rfl, List.forall_mem_cons.mpr ⟨wg2 19 (by decide +kernel) rfl, fun _ h => absurd h List.not_mem_nil⟩⟩⟩⟩⟩⟩⟩⟩⟩
def F_Row : u_T := fun k => match k with
  | 0 => ("SunnyOnes$Row", "numbers", "[J", true)
  | _ => ("SunnyOnes$Row", "size", "I", false)
def t_Row : Nat → FieldType := fun k => match k with
  | 0 => .array .long
  | _ => .int
theorem n_Row : ∀ a, a < 2 → ∀ b, b < 2 → a ≠ b → (F_Row a).2.1 ≠ (F_Row b).2.1 := by decide +kernel
theorem t_Row_ok : ∀ k, k < 2 → parseFieldDescriptor (F_Row k).2.2.1 = some (t_Row k) := by decide +kernel
theorem i_Row : ∀ w ∈ u_ws "SunnyOnes$Row" F_Row 2, w ∈ wG :=
  List.forall_mem_cons.mpr ⟨wg1 50 (by decide +kernel) rfl, List.forall_mem_cons.mpr ⟨wg1 52 (by decide +kernel) rfl, fun _ h => absurd h List.not_mem_nil⟩⟩
def F_Rule : u_T := fun k => match k with
  | 0 => ("SunnyOnes$Rule", "text", "LSunnyOnes$Text;", true)
  | 1 => ("SunnyOnes$Rule", "code", "[I", true)
  | 2 => ("SunnyOnes$Rule", "stack", "[I", true)
  | 3 => ("SunnyOnes$Rule", "size", "I", false)
  | _ => ("SunnyOnes$Rule", "next", "I", false)
def t_Rule : Nat → FieldType := fun k => match k with
  | 0 => .object "SunnyOnes$Text"
  | 1 => .array .int
  | 2 => .array .int
  | 3 => .int
  | _ => .int
theorem n_Rule : ∀ a, a < 5 → ∀ b, b < 5 → a ≠ b → (F_Rule a).2.1 ≠ (F_Rule b).2.1 := by decide +kernel
theorem t_Rule_ok : ∀ k, k < 5 → parseFieldDescriptor (F_Rule k).2.2.1 = some (t_Rule k) := by decide +kernel
theorem i_Rule : ∀ w ∈ u_ws "SunnyOnes$Rule" F_Rule 5, w ∈ wG :=
  List.forall_mem_cons.mpr ⟨wg1 97 (by decide +kernel) rfl, List.forall_mem_cons.mpr ⟨wg1 99 (by decide +kernel) rfl, List.forall_mem_cons.mpr ⟨wg1 101 (by decide +kernel) rfl, List.forall_mem_cons.mpr ⟨wg1 103 (by decide +kernel) rfl, List.forall_mem_cons.mpr ⟨wg1 105 (by decide +kernel) rfl, fun _ h => absurd h List.not_mem_nil⟩⟩⟩⟩⟩
def F_Sun : u_T := fun k => match k with
  | 0 => ("SunnyOnes$Sun", "land", "LSunnyOnes$Land;", true)
  | 1 => ("SunnyOnes$Sun", "rule", "LSunnyOnes$Rule;", true)
  | _ => ("SunnyOnes$Sun", "letters", "[I", true)
def t_Sun : Nat → FieldType := fun k => match k with
  | 0 => .object "SunnyOnes$Land"
  | 1 => .object "SunnyOnes$Rule"
  | _ => .array .int
theorem n_Sun : ∀ a, a < 3 → ∀ b, b < 3 → a ≠ b → (F_Sun a).2.1 ≠ (F_Sun b).2.1 := by decide +kernel
theorem t_Sun_ok : ∀ k, k < 3 → parseFieldDescriptor (F_Sun k).2.2.1 = some (t_Sun k) := by decide +kernel
theorem i_Sun : ∀ w ∈ u_ws "SunnyOnes$Sun" F_Sun 3, w ∈ wG :=
  List.forall_mem_cons.mpr ⟨wg1 117 (by decide +kernel) rfl, List.forall_mem_cons.mpr ⟨wg1 119 (by decide +kernel) rfl, List.forall_mem_cons.mpr ⟨wg1 121 (by decide +kernel) rfl, fun _ h => absurd h List.not_mem_nil⟩⟩⟩
def F_Text : u_T := fun k => match k with
  | 0 => ("SunnyOnes$Text", "signs", "[I", true)
  | _ => ("SunnyOnes$Text", "length", "I", false)
def t_Text : Nat → FieldType := fun k => match k with
  | 0 => .array .int
  | _ => .int
theorem n_Text : ∀ a, a < 2 → ∀ b, b < 2 → a ≠ b → (F_Text a).2.1 ≠ (F_Text b).2.1 := by decide +kernel
theorem t_Text_ok : ∀ k, k < 2 → parseFieldDescriptor (F_Text k).2.2.1 = some (t_Text k) := by decide +kernel
theorem i_Text : ∀ w ∈ u_ws "SunnyOnes$Text" F_Text 2, w ∈ wG :=
  List.forall_mem_cons.mpr ⟨wg1 36 (by decide +kernel) rfl, List.forall_mem_cons.mpr ⟨wg1 38 (by decide +kernel) rfl, fun _ h => absurd h List.not_mem_nil⟩⟩
def F_Walk : u_T := fun k => match k with
  | 0 => ("SunnyOnes$Walk", "land", "LSunnyOnes$Land;", true)
  | 1 => ("SunnyOnes$Walk", "sun", "LSunnyOnes$Sun;", true)
  | 2 => ("SunnyOnes$Walk", "folk", "LSunnyOnes$Folk;", true)
  | 3 => ("SunnyOnes$Walk", "path", "[I", true)
  | 4 => ("SunnyOnes$Walk", "least", "[I", true)
  | 5 => ("SunnyOnes$Walk", "one", "I", false)
  | 6 => ("SunnyOnes$Walk", "goal", "I", false)
  | 7 => ("SunnyOnes$Walk", "length", "I", false)
  | _ => ("SunnyOnes$Walk", "found", "I", false)
def t_Walk : Nat → FieldType := fun k => match k with
  | 0 => .object "SunnyOnes$Land"
  | 1 => .object "SunnyOnes$Sun"
  | 2 => .object "SunnyOnes$Folk"
  | 3 => .array .int
  | 4 => .array .int
  | 5 => .int
  | 6 => .int
  | 7 => .int
  | _ => .int
theorem n_Walk : ∀ a, a < 9 → ∀ b, b < 9 → a ≠ b → (F_Walk a).2.1 ≠ (F_Walk b).2.1 := by decide +kernel
theorem t_Walk_ok : ∀ k, k < 9 → parseFieldDescriptor (F_Walk k).2.2.1 = some (t_Walk k) := by decide +kernel
theorem i_Walk : ∀ w ∈ u_ws "SunnyOnes$Walk" F_Walk 9, w ∈ wG :=
  List.forall_mem_cons.mpr ⟨wg1 209 (by decide +kernel) rfl, List.forall_mem_cons.mpr ⟨wg1 211 (by decide +kernel) rfl, List.forall_mem_cons.mpr ⟨wg1 213 (by decide +kernel) rfl, List.forall_mem_cons.mpr ⟨wg1 215 (by decide +kernel) rfl, List.forall_mem_cons.mpr ⟨wg1 217 (by decide +kernel) rfl, List.forall_mem_cons.mpr ⟨wg1 219 (by decide +kernel) rfl, List.forall_mem_cons.mpr ⟨wg1 221 (by decide +kernel) rfl, List.forall_mem_cons.mpr ⟨wg1 223 (by decide +kernel) rfl, List.forall_mem_cons.mpr ⟨wg1 225 (by decide +kernel) rfl, fun _ h => absurd h List.not_mem_nil⟩⟩⟩⟩⟩⟩⟩⟩⟩
def F_Mo : u_T := fun k => match k with
  | 0 => ("SunnyOnesModel", "now", "[I", true)
  | 1 => ("SunnyOnesModel", "people", "I", false)
  | 2 => ("SunnyOnesModel", "places", "I", false)
  | 3 => ("SunnyOnesModel", "light", "[I", true)
  | 4 => ("SunnyOnesModel", "skies", "[B", true)
  | 5 => ("SunnyOnesModel", "skyMany", "I", false)
  | 6 => ("SunnyOnesModel", "text", "[B", true)
  | 7 => ("SunnyOnesModel", "typed", "I", false)
  | 8 => ("SunnyOnesModel", "row", "[J", true)
  | 9 => ("SunnyOnesModel", "rowMany", "I", false)
  | 10 => ("SunnyOnesModel", "thrown", "I", false)
  | 11 => ("SunnyOnesModel", "read", "[B", false)
  | 12 => ("SunnyOnesModel", "length", "I", false)
  | 13 => ("SunnyOnesModel", "top", "I", false)
  | 14 => ("SunnyOnesModel", "at", "I", false)
  | 15 => ("SunnyOnesModel", "wrong", "I", false)
  | 16 => ("SunnyOnesModel", "told", "[I", true)
  | 17 => ("SunnyOnesModel", "comesOn", "[B", true)
  | 18 => ("SunnyOnesModel", "rule", "[B", false)
  | 19 => ("SunnyOnesModel", "otherRule", "[B", false)
  | 20 => ("SunnyOnesModel", "ruleSize", "I", false)
  | 21 => ("SunnyOnesModel", "isAsked", "Z", false)
  | 22 => ("SunnyOnesModel", "asked", "[I", true)
  | 23 => ("SunnyOnesModel", "undos", "[I", true)
  | 24 => ("SunnyOnesModel", "undoMany", "I", false)
  | 25 => ("SunnyOnesModel", "aside", "[I", true)
  | 26 => ("SunnyOnesModel", "then", "[I", true)
  | 27 => ("SunnyOnesModel", "hours", "[I", true)
  | 28 => ("SunnyOnesModel", "acts", "[I", true)
  | 29 => ("SunnyOnesModel", "sun", "[I", true)
  | 30 => ("SunnyOnesModel", "trail", "[I", true)
  | 31 => ("SunnyOnesModel", "line", "[I", true)
  | 32 => ("SunnyOnesModel", "waysMany", "I", false)
  | 33 => ("SunnyOnesModel", "bestLine", "[I", true)
  | 34 => ("SunnyOnesModel", "given", "[I", true)
  | 35 => ("SunnyOnesModel", "sawOf", "[I", true)
  | 36 => ("SunnyOnesModel", "sawBy", "[I", true)
  | 37 => ("SunnyOnesModel", "sawMany", "I", false)
  | 38 => ("SunnyOnesModel", "heardOf", "[I", true)
  | 39 => ("SunnyOnesModel", "heardBy", "[I", true)
  | 40 => ("SunnyOnesModel", "heardMany", "I", false)
  | 41 => ("SunnyOnesModel", "wins", "[Z", true)
  | 42 => ("SunnyOnesModel", "drawn", "I", false)
  | 43 => ("SunnyOnesModel", "came", "I", false)
  | 44 => ("SunnyOnesModel", "kept", "[I", true)
  | 45 => ("SunnyOnesModel", "isKept", "[Z", true)
  | _ => ("SunnyOnesModel", "keptCame", "[I", true)
def t_Mo : Nat → FieldType := fun k => match k with
  | 0 => .array .int
  | 1 => .int
  | 2 => .int
  | 3 => .array .int
  | 4 => .array .byte
  | 5 => .int
  | 6 => .array .byte
  | 7 => .int
  | 8 => .array .long
  | 9 => .int
  | 10 => .int
  | 11 => .array .byte
  | 12 => .int
  | 13 => .int
  | 14 => .int
  | 15 => .int
  | 16 => .array .int
  | 17 => .array .byte
  | 18 => .array .byte
  | 19 => .array .byte
  | 20 => .int
  | 21 => .boolean
  | 22 => .array .int
  | 23 => .array .int
  | 24 => .int
  | 25 => .array .int
  | 26 => .array .int
  | 27 => .array .int
  | 28 => .array .int
  | 29 => .array .int
  | 30 => .array .int
  | 31 => .array .int
  | 32 => .int
  | 33 => .array .int
  | 34 => .array .int
  | 35 => .array .int
  | 36 => .array .int
  | 37 => .int
  | 38 => .array .int
  | 39 => .array .int
  | 40 => .int
  | 41 => .array .boolean
  | 42 => .int
  | 43 => .int
  | 44 => .array .int
  | 45 => .array .boolean
  | _ => .array .int
theorem n_Mo : ∀ a, a < 47 → ∀ b, b < 47 → a ≠ b → (F_Mo a).2.1 ≠ (F_Mo b).2.1 := by decide +kernel
theorem t_Mo_ok : ∀ k, k < 47 → parseFieldDescriptor (F_Mo k).2.2.1 = some (t_Mo k) := by decide +kernel
theorem i_Mo : ∀ w ∈ u_ws "SunnyOnesModel" F_Mo 47, w ∈ wG :=
  List.forall_mem_cons.mpr ⟨wg6 13 (by decide +kernel) rfl, List.forall_mem_cons.mpr ⟨wg6 15 (by decide +kernel) rfl, List.forall_mem_cons.mpr ⟨wg6 17 (by decide +kernel) rfl, List.forall_mem_cons.mpr ⟨wg6 19 (by decide +kernel) rfl, List.forall_mem_cons.mpr ⟨wg6 21 (by decide +kernel) rfl, List.forall_mem_cons.mpr ⟨wg6 23 (by decide +kernel) rfl, List.forall_mem_cons.mpr ⟨wg6 25 (by decide +kernel) rfl, List.forall_mem_cons.mpr ⟨wg6 27 (by decide +kernel) rfl, List.forall_mem_cons.mpr ⟨wg6 29 (by decide +kernel) rfl, List.forall_mem_cons.mpr ⟨wg6 31 (by decide +kernel) rfl, List.forall_mem_cons.mpr ⟨wg6 33 (by decide +kernel) rfl, List.forall_mem_cons.mpr ⟨wg6 35 (by decide +kernel) rfl, List.forall_mem_cons.mpr ⟨wg6 37 (by decide +kernel) rfl, List.forall_mem_cons.mpr ⟨wg6 39 (by decide +kernel) rfl, List.forall_mem_cons.mpr ⟨wg6 41 (by decide +kernel) rfl, List.forall_mem_cons.mpr ⟨wg6 43 (by decide +kernel) rfl, List.forall_mem_cons.mpr ⟨wg6 45 (by decide +kernel) rfl, List.forall_mem_cons.mpr ⟨wg6 47 (by decide +kernel) rfl, List.forall_mem_cons.mpr ⟨wg6 49 (by decide +kernel) rfl, List.forall_mem_cons.mpr ⟨wg6 51 (by decide +kernel) rfl, List.forall_mem_cons.mpr ⟨wg6 53 (by decide +kernel) rfl, List.forall_mem_cons.mpr ⟨wg6 55 (by decide +kernel) rfl, List.forall_mem_cons.mpr ⟨wg6 57 (by decide +kernel) rfl, List.forall_mem_cons.mpr ⟨wg6 59 (by decide +kernel) rfl, List.forall_mem_cons.mpr ⟨wg6 61 (by decide +kernel) rfl, List.forall_mem_cons.mpr ⟨wg6 63 (by decide +kernel) rfl, List.forall_mem_cons.mpr ⟨wg6 65 (by decide +kernel) rfl, List.forall_mem_cons.mpr ⟨wg6 67 (by decide +kernel) rfl, List.forall_mem_cons.mpr ⟨wg6 69 (by decide +kernel) rfl, List.forall_mem_cons.mpr ⟨wg6 71 (by decide +kernel) rfl, List.forall_mem_cons.mpr ⟨wg6 73 (by decide +kernel) rfl, List.forall_mem_cons.mpr ⟨wg6 75 (by decide +kernel) rfl, List.forall_mem_cons.mpr ⟨wg6 77 (by decide +kernel) rfl, List.forall_mem_cons.mpr ⟨wg6 79 (by decide +kernel) rfl, List.forall_mem_cons.mpr ⟨wg6 81 (by decide +kernel) rfl, List.forall_mem_cons.mpr ⟨wg6 83 (by decide +kernel) rfl, List.forall_mem_cons.mpr ⟨wg6 85 (by decide +kernel) rfl, List.forall_mem_cons.mpr ⟨wg6 87 (by decide +kernel) rfl, List.forall_mem_cons.mpr ⟨wg6 89 (by decide +kernel) rfl, List.forall_mem_cons.mpr ⟨wg6 91 (by decide +kernel) rfl, List.forall_mem_cons.mpr ⟨wg6 93 (by decide +kernel) rfl, List.forall_mem_cons.mpr ⟨wg6 95 (by decide +kernel) rfl, List.forall_mem_cons.mpr ⟨wg6 97 (by decide +kernel) rfl, List.forall_mem_cons.mpr ⟨wg6 99 (by decide +kernel) rfl, List.forall_mem_cons.mpr ⟨wg6 101 (by decide +kernel) rfl, List.forall_mem_cons.mpr ⟨wg6 103 (by decide +kernel) rfl, List.forall_mem_cons.mpr ⟨wg6 105 (by decide +kernel) rfl, fun _ h => absurd h List.not_mem_nil⟩⟩⟩⟩⟩⟩⟩⟩⟩⟩⟩⟩⟩⟩⟩⟩⟩⟩⟩⟩⟩⟩⟩⟩⟩⟩⟩⟩⟩⟩⟩⟩⟩⟩⟩⟩⟩⟩⟩⟩⟩⟩⟩⟩⟩⟩⟩
abbrev xCl : List vw_C := [("SunnyOnes", F_So, 17), ("SunnyOnes$Chance", F_Chance, 5), ("SunnyOnes$Clues", F_Clues, 4), ("SunnyOnes$Folk", F_Folk, 5), ("SunnyOnes$Land", F_Land, 4), ("SunnyOnes$Past", F_Past, 5), ("SunnyOnes$Rooms", F_Rooms, 9), ("SunnyOnes$Row", F_Row, 2), ("SunnyOnes$Rule", F_Rule, 5), ("SunnyOnes$Sun", F_Sun, 3), ("SunnyOnes$Text", F_Text, 2), ("SunnyOnes$Walk", F_Walk, 9), ("SunnyOnesModel", F_Mo, 47)]
def xTy : Nat → Nat → FieldType := fun c => match c with
  | 0 => t_So
  | 1 => t_Chance
  | 2 => t_Clues
  | 3 => t_Folk
  | 4 => t_Land
  | 5 => t_Past
  | 6 => t_Rooms
  | 7 => t_Row
  | 8 => t_Rule
  | 9 => t_Sun
  | 10 => t_Text
  | 11 => t_Walk
  | _ => t_Mo
def xDf : Nat → List Value := fun c => match c with
  | 0 => [.null, .null, .null, .null, .null, .null, .null, .null, .null, .null, .null, .null, .null, .null, .null, .null, .int 0]
  | 1 => [.null, .null, .int 0, .int 0, .int 0]
  | 2 => [.int 0, .null, .null, .int 0]
  | 3 => [.null, .null, .null, .int 0, .int 0]
  | 4 => [.null, .null, .int 0, .int 0]
  | 5 => [.null, .null, .null, .int 0, .int 0]
  | 6 => [.null, .null, .null, .null, .null, .int 0, .int 0, .int 0, .int 0]
  | 7 => [.null, .int 0]
  | 8 => [.null, .null, .null, .int 0, .int 0]
  | 9 => [.null, .null, .null]
  | 10 => [.null, .int 0]
  | 11 => [.null, .null, .null, .null, .null, .int 0, .int 0, .int 0, .int 0]
  | _ => [.null, .int 0, .int 0, .null, .null, .int 0, .null, .int 0, .null, .int 0, .int 0, .null, .int 0, .int 0, .int 0, .int 0, .null, .null, .null, .null, .int 0, .int 0, .null, .null, .int 0, .null, .null, .null, .null, .null, .null, .null, .int 0, .null, .null, .null, .null, .int 0, .null, .null, .int 0, .null, .int 0, .int 0, .null, .null, .null]
theorem xCl_n : ∀ (c : Nat) (q : vw_C), xCl[c]? = some q → ∀ a, a < q.2.2 → ∀ b, b < q.2.2 → a ≠ b → (q.2.1 a).2.1 ≠ (q.2.1 b).2.1 := by
  intro c q h
  match c, h with
  | 0, h => cases h; exact n_So
  | 1, h => cases h; exact n_Chance
  | 2, h => cases h; exact n_Clues
  | 3, h => cases h; exact n_Folk
  | 4, h => cases h; exact n_Land
  | 5, h => cases h; exact n_Past
  | 6, h => cases h; exact n_Rooms
  | 7, h => cases h; exact n_Row
  | 8, h => cases h; exact n_Rule
  | 9, h => cases h; exact n_Sun
  | 10, h => cases h; exact n_Text
  | 11, h => cases h; exact n_Walk
  | 12, h => cases h; exact n_Mo
  | c + 13, h => simp at h
theorem xCl_t : ∀ (c : Nat) (q : vw_C), xCl[c]? = some q → ∀ k, k < q.2.2 → parseFieldDescriptor (q.2.1 k).2.2.1 = some (xTy c k) := by
  intro c q h
  match c, h with
  | 0, h => cases h; exact t_So_ok
  | 1, h => cases h; exact t_Chance_ok
  | 2, h => cases h; exact t_Clues_ok
  | 3, h => cases h; exact t_Folk_ok
  | 4, h => cases h; exact t_Land_ok
  | 5, h => cases h; exact t_Past_ok
  | 6, h => cases h; exact t_Rooms_ok
  | 7, h => cases h; exact t_Row_ok
  | 8, h => cases h; exact t_Rule_ok
  | 9, h => cases h; exact t_Sun_ok
  | 10, h => cases h; exact t_Text_ok
  | 11, h => cases h; exact t_Walk_ok
  | 12, h => cases h; exact t_Mo_ok
  | c + 13, h => simp at h
theorem xCl_i : ∀ (c : Nat) (q : vw_C), xCl[c]? = some q → ∀ w ∈ u_ws q.1 q.2.1 q.2.2, w ∈ wG := by
  intro c q h
  match c, h with
  | 0, h => cases h; exact i_So
  | 1, h => cases h; exact i_Chance
  | 2, h => cases h; exact i_Clues
  | 3, h => cases h; exact i_Folk
  | 4, h => cases h; exact i_Land
  | 5, h => cases h; exact i_Past
  | 6, h => cases h; exact i_Rooms
  | 7, h => cases h; exact i_Row
  | 8, h => cases h; exact i_Rule
  | 9, h => cases h; exact i_Sun
  | 10, h => cases h; exact i_Text
  | 11, h => cases h; exact i_Walk
  | 12, h => cases h; exact i_Mo
  | c + 13, h => simp at h
theorem xCl_d : ∀ (c : Nat) (q : vw_C), xCl[c]? = some q → ∀ j, j < q.2.2 → defaultValue (xTy c j) = vp_V (xDf c) j := by
  intro c q h
  match c, h with
  | 0, h => cases h; exact (by decide +kernel)
  | 1, h => cases h; exact (by decide +kernel)
  | 2, h => cases h; exact (by decide +kernel)
  | 3, h => cases h; exact (by decide +kernel)
  | 4, h => cases h; exact (by decide +kernel)
  | 5, h => cases h; exact (by decide +kernel)
  | 6, h => cases h; exact (by decide +kernel)
  | 7, h => cases h; exact (by decide +kernel)
  | 8, h => cases h; exact (by decide +kernel)
  | 9, h => cases h; exact (by decide +kernel)
  | 10, h => cases h; exact (by decide +kernel)
  | 11, h => cases h; exact (by decide +kernel)
  | 12, h => cases h; exact (by decide +kernel)
  | c + 13, h => simp at h
