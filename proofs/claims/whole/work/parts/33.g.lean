/-! ===== the grammar of RULES ===== -/
def lk (T : Nat → Int32) (N p : Nat) : Int32 := if p < 40 then (if p < N then T p else -1) else -1
def gnum (T : Nat → Int32) (N : Nat) : Nat → Nat → Int32 → Nat × Int32
  | 0, p, v => (p, v)
  | k + 1, p, v => if tisd (lk T N p) = 0 then (p, v) else gnum T N k (p + 1) (10 * v + lk T N p - 48)
def ylof (s : Int32) : Int32 := if s = 97 then 2 else if s = 105 then 5 else if s = 107 then 3 else if s = 110 then 6 else if s = 112 then 4 else if s = 115 then 0 else if s = 119 then 1 else -1
def gop (w : Int32) : Int32 := if w = 42 then -16 else if w = 47 then -17 else if w = 43 then -14 else if w = 45 then -15 else if w = 60 then -11 else if w = 62 then -12 else -13
inductive GK where
  | held
  | sum
  | sumL (v : (Nat → Int32) → Int32)
  | prod
  | prodL (v : (Nat → Int32) → Int32)
  | thing
  | atom
inductive Der (T : Nat → Int32) (N : Nat) : GK → Nat → Nat → Bool → Nat → List Int32 → ((Nat → Int32) → Int32) → Prop where
  | num {d p : Nat} (h : ¬ tisd (lk T N p) = 0) : Der T N .atom d p true (gnum T N 3 p 0).1 [(gnum T N 3 p 0).2] (fun _ => (gnum T N 3 p 0).2)
  | grp {d p p1 : Nat} {c : List Int32} {v : (Nat → Int32) → Int32} (h : lk T N p = 40) (hd : d < 4) (h1 : Der T N .held (d + 1) (p + 1) true p1 c v) (h2 : lk T N p1 = 41) : Der T N .atom d p true (p1 + 1) c v
  | grpD {d p : Nat} (h : lk T N p = 40) (hd : ¬ d < 4) : Der T N .atom d p false p [] (fun _ => 0)
  | grpF {d p p1 : Nat} {c : List Int32} {v : (Nat → Int32) → Int32} (h : lk T N p = 40) (hd : d < 4) (h1 : Der T N .held (d + 1) (p + 1) false p1 c v) : Der T N .atom d p false p1 c v
  | grpC {d p p1 : Nat} {c : List Int32} {v : (Nat → Int32) → Int32} (h : lk T N p = 40) (hd : d < 4) (h1 : Der T N .held (d + 1) (p + 1) true p1 c v) (h2 : ¬ lk T N p1 = 41) : Der T N .atom d p false p1 c v
  | lett {d p j : Nat} (h : tisd (lk T N p) = 0) (h2 : ¬ lk T N p = 40) (hj : j < 7) (h3 : ylof (lk T N p) = nI j) : Der T N .atom d p true (p + 1) [-1 - nI j] (fun lt => lt j)
  | letF {d p : Nat} (h : tisd (lk T N p) = 0) (h2 : ¬ lk T N p = 40) (h3 : ylof (lk T N p) < 0) : Der T N .atom d p false p [] (fun _ => 0)
  | thg {d p p1 k : Nat} {ok : Bool} {c : List Int32} {v : (Nat → Int32) → Int32} (h : ∀ i, i < k → lk T N (p + i) = 45) (h2 : ¬ lk T N (p + k) = 45) (h3 : Der T N .atom d (p + k) ok p1 c v) : Der T N .thing d p ok p1 (c ++ if k % 2 = 1 then [-18] else []) (fun lt => if k % 2 = 1 then -(v lt) else v lt)
  | prF {d p p1 : Nat} {c : List Int32} {v : (Nat → Int32) → Int32} (h : Der T N .thing d p false p1 c v) : Der T N .prod d p false p1 c v
  | pr {d p p1 p2 : Nat} {ok : Bool} {c1 c2 : List Int32} {v1 v2 : (Nat → Int32) → Int32} (h : Der T N .thing d p true p1 c1 v1) (h2 : Der T N (.prodL v1) d p1 ok p2 c2 v2) : Der T N .prod d p ok p2 (c1 ++ c2) v2
  | plS {d p : Nat} {v0 : (Nat → Int32) → Int32} (h : ¬ lk T N p = 42) (h2 : ¬ lk T N p = 47) : Der T N (.prodL v0) d p true p [] v0
  | plT {d p p1 p2 : Nat} {w : Int32} {ok : Bool} {c1 c2 : List Int32} {v0 v1 v2 : (Nat → Int32) → Int32} (hw : w = 42 ∨ w = 47) (h : lk T N p = w) (h1 : Der T N .thing d (p + 1) true p1 c1 v1) (h2 : Der T N (.prodL (fun lt => rk (gop w) (v0 lt) (v1 lt))) d p1 ok p2 c2 v2) : Der T N (.prodL v0) d p ok p2 (c1 ++ gop w :: c2) v2
  | plF {d p p1 : Nat} {w : Int32} {c1 : List Int32} {v0 v1 : (Nat → Int32) → Int32} (hw : w = 42 ∨ w = 47) (h : lk T N p = w) (h1 : Der T N .thing d (p + 1) false p1 c1 v1) : Der T N (.prodL v0) d p false p1 (c1 ++ [gop w]) v0
  | suF {d p p1 : Nat} {c : List Int32} {v : (Nat → Int32) → Int32} (h : Der T N .prod d p false p1 c v) : Der T N .sum d p false p1 c v
  | su {d p p1 p2 : Nat} {ok : Bool} {c1 c2 : List Int32} {v1 v2 : (Nat → Int32) → Int32} (h : Der T N .prod d p true p1 c1 v1) (h2 : Der T N (.sumL v1) d p1 ok p2 c2 v2) : Der T N .sum d p ok p2 (c1 ++ c2) v2
  | slS {d p : Nat} {v0 : (Nat → Int32) → Int32} (h : ¬ lk T N p = 43) (h2 : ¬ lk T N p = 45) : Der T N (.sumL v0) d p true p [] v0
  | slT {d p p1 p2 : Nat} {w : Int32} {ok : Bool} {c1 c2 : List Int32} {v0 v1 v2 : (Nat → Int32) → Int32} (hw : w = 43 ∨ w = 45) (h : lk T N p = w) (h1 : Der T N .prod d (p + 1) true p1 c1 v1) (h2 : Der T N (.sumL (fun lt => rk (gop w) (v0 lt) (v1 lt))) d p1 ok p2 c2 v2) : Der T N (.sumL v0) d p ok p2 (c1 ++ gop w :: c2) v2
  | slF {d p p1 : Nat} {w : Int32} {c1 : List Int32} {v0 v1 : (Nat → Int32) → Int32} (hw : w = 43 ∨ w = 45) (h : lk T N p = w) (h1 : Der T N .prod d (p + 1) false p1 c1 v1) : Der T N (.sumL v0) d p false p1 (c1 ++ [gop w]) v0
  | heF {d p p1 : Nat} {c : List Int32} {v : (Nat → Int32) → Int32} (h : Der T N .sum d p false p1 c v) : Der T N .held d p false p1 c v
  | he0 {d p p1 : Nat} {c : List Int32} {v : (Nat → Int32) → Int32} (h : Der T N .sum d p true p1 c v) (h1 : ¬ lk T N p1 = 60) (h2 : ¬ lk T N p1 = 62) (h3 : ¬ lk T N p1 = 61) : Der T N .held d p true p1 c v
  | heS {d p p1 p2 : Nat} {w : Int32} {c1 c2 : List Int32} {v1 v2 : (Nat → Int32) → Int32} (hw : w = 60 ∨ w = 62 ∨ w = 61) (h : Der T N .sum d p true p1 c1 v1) (h1 : lk T N p1 = w) (h2 : Der T N .sum d (p1 + 1) false p2 c2 v2) : Der T N .held d p false p2 (c1 ++ c2) v2
  | he2 {d p p1 p2 : Nat} {w : Int32} {c1 c2 : List Int32} {v1 v2 : (Nat → Int32) → Int32} (hw : w = 60 ∨ w = 62 ∨ w = 61) (h : Der T N .sum d p true p1 c1 v1) (h1 : lk T N p1 = w) (h2 : Der T N .sum d (p1 + 1) true p2 c2 v2) : Der T N .held d p true p2 (c1 ++ c2 ++ [gop w]) (fun lt => rk (gop w) (v1 lt) (v2 lt))
theorem lk_lt {T : Nat → Int32} {N p : Nat} {w : Int32} (h : lk T N p = w) (hw : ¬ w = -1) : p < 40 ∧ p < N := by
  unfold lk at h
  split at h
  · split at h
    · exact ⟨by assumption, by assumption⟩
    · exact absurd h.symm hw
  · exact absurd h.symm hw
theorem tisd_n1 : tisd (-1) = 0 := by decide
theorem gnum_le {T : Nat → Int32} {N : Nat} (k : Nat) : ∀ p v, p ≤ 40 → p ≤ (gnum T N k p v).1 ∧ (gnum T N k p v).1 ≤ 40 ∧ (p ≤ N → (gnum T N k p v).1 ≤ N) := by
  induction k with
  | zero => intro p v hp; exact ⟨Nat.le_refl _, hp, id⟩
  | succ k ih =>
    intro p v hp
    unfold gnum
    by_cases z : tisd (lk T N p) = 0
    · rw [if_pos z]; exact ⟨Nat.le_refl _, hp, id⟩
    · rw [if_neg z]
      have hl : p < 40 ∧ p < N := by
        by_cases e : lk T N p = -1
        · rw [e, tisd_n1] at z; exact absurd rfl z
        · exact lk_lt rfl e
      have := ih (p + 1) (10 * v + lk T N p - 48) (by omega)
      exact ⟨by omega, this.2.1, fun h => this.2.2 (by omega)⟩
theorem gnum_lt {T : Nat → Int32} {N k p : Nat} {v : Int32} (hp : p ≤ 40) (h : ¬ tisd (lk T N p) = 0) : p < (gnum T N (k + 1) p v).1 := by
  have hl : p < 40 ∧ p < N := by
    by_cases e : lk T N p = -1
    · rw [e, tisd_n1] at h; exact absurd rfl h
    · exact lk_lt rfl e
  unfold gnum
  rw [if_neg h]
  have := (gnum_le (T := T) (N := N) k (p + 1) (10 * v + lk T N p - 48) (by omega)).1
  omega
theorem ylof_or (s : Int32) : ylof s < 0 ∨ ∃ j, j < 7 ∧ ylof s = nI j := by
  unfold ylof
  split
  · exact Or.inr ⟨2, by decide, by decide⟩
  split
  · exact Or.inr ⟨5, by decide, by decide⟩
  split
  · exact Or.inr ⟨3, by decide, by decide⟩
  split
  · exact Or.inr ⟨6, by decide, by decide⟩
  split
  · exact Or.inr ⟨4, by decide, by decide⟩
  split
  · exact Or.inr ⟨0, by decide, by decide⟩
  split
  · exact Or.inr ⟨1, by decide, by decide⟩
  · exact Or.inl (by decide)
theorem ylof_n1 : ylof (-1) < 0 := by decide
section DER
variable {T : Nat → Int32} {N : Nat}
/-- no more is emitted than is read, and nothing is read behind the end -/
theorem Der_len {k : GK} {d p p1 : Nat} {ok : Bool} {c : List Int32} {v : (Nat → Int32) → Int32} (h : Der T N k d p ok p1 c v) : p ≤ 40 → c.length + p ≤ p1 ∧ p1 ≤ 40 ∧ (p ≤ N → p1 ≤ N) := by
  induction h with
  | @num d p h =>
    intro hp
    have h1 : p < (gnum T N 3 p 0).1 := gnum_lt (k := 2) hp h
    have h2 := gnum_le (T := T) (N := N) 3 p 0 hp
    simp only [List.length_cons, List.length_nil]
    exact ⟨by omega, h2.2.1, h2.2.2⟩
  | grp h hd h1 h2 ih =>
    intro hp
    have := lk_lt h (by decide)
    have z := lk_lt h2 (by decide)
    have := ih (by omega)
    exact ⟨by omega, by omega, fun q => by omega⟩
  | grpD h hd => intro hp; exact ⟨by simp, hp, id⟩
  | grpF h hd h1 ih =>
    intro hp
    have := lk_lt h (by decide)
    have := ih (by omega)
    exact ⟨by omega, by omega, fun q => by omega⟩
  | grpC h hd h1 h2 ih =>
    intro hp
    have := lk_lt h (by decide)
    have := ih (by omega)
    exact ⟨by omega, by omega, fun q => by omega⟩
  | @lett d p j h h2 hj h3 =>
    intro hp
    have : ¬ lk T N p = -1 := by
      intro e
      rw [e] at h3
      have e2 : ylof (-1) = -1 := by decide
      rw [e2] at h3
      exact nI_pos (show j < 2 ^ 31 by omega) (by rw [← h3]; decide)
    have := lk_lt rfl this
    simp only [List.length_cons, List.length_nil]
    exact ⟨by omega, by omega, fun q => by omega⟩
  | letF h h2 h3 => intro hp; exact ⟨by simp, hp, id⟩
  | @thg d p p1 k ok c v h h2 h3 ih =>
    intro hp
    have hk : p + k ≤ 40 ∧ (p ≤ N → p + k ≤ N) := by
      cases k with
      | zero => exact ⟨by omega, fun q => by omega⟩
      | succ k =>
        have := lk_lt (h k (by omega)) (by decide)
        exact ⟨by omega, fun q => by omega⟩
    have := ih hk.1
    rw [List.length_append]
    by_cases e : k % 2 = 1
    · rw [if_pos e]
      simp only [List.length_cons, List.length_nil]
      exact ⟨by omega, by omega, fun q => by have := hk.2 q; omega⟩
    · rw [if_neg e]
      simp only [List.length_nil]
      exact ⟨by omega, by omega, fun q => by have := hk.2 q; omega⟩
  | prF h ih => exact ih
  | pr h h2 ih ih2 =>
    intro hp
    have a := ih hp
    have b := ih2 a.2.1
    rw [List.length_append]
    exact ⟨by omega, by omega, fun q => by omega⟩
  | plS h h2 => intro hp; exact ⟨by simp, hp, id⟩
  | plT hw h h1 h2 ih ih2 =>
    intro hp
    have := lk_lt h (by rcases hw with rfl | rfl <;> decide)
    have a := ih (by omega)
    have b := ih2 a.2.1
    simp only [List.length_append, List.length_cons]
    exact ⟨by omega, by omega, fun q => by omega⟩
  | plF hw h h1 ih =>
    intro hp
    have := lk_lt h (by rcases hw with rfl | rfl <;> decide)
    have a := ih (by omega)
    simp only [List.length_append, List.length_cons, List.length_nil]
    exact ⟨by omega, by omega, fun q => by omega⟩
  | suF h ih => exact ih
  | su h h2 ih ih2 =>
    intro hp
    have a := ih hp
    have b := ih2 a.2.1
    rw [List.length_append]
    exact ⟨by omega, by omega, fun q => by omega⟩
  | slS h h2 => intro hp; exact ⟨by simp, hp, id⟩
  | slT hw h h1 h2 ih ih2 =>
    intro hp
    have := lk_lt h (by rcases hw with rfl | rfl <;> decide)
    have a := ih (by omega)
    have b := ih2 a.2.1
    simp only [List.length_append, List.length_cons]
    exact ⟨by omega, by omega, fun q => by omega⟩
  | slF hw h h1 ih =>
    intro hp
    have := lk_lt h (by rcases hw with rfl | rfl <;> decide)
    have a := ih (by omega)
    simp only [List.length_append, List.length_cons, List.length_nil]
    exact ⟨by omega, by omega, fun q => by omega⟩
  | heF h ih => exact ih
  | he0 h h1 h2 h3 ih => exact ih
  | heS hw h h1 h2 ih ih2 =>
    intro hp
    have a := ih hp
    have := lk_lt h1 (by rcases hw with rfl | rfl | rfl <;> decide)
    have b := ih2 (by omega)
    rw [List.length_append]
    exact ⟨by omega, by omega, fun q => by omega⟩
  | he2 hw h h1 h2 ih ih2 =>
    intro hp
    have a := ih hp
    have := lk_lt h1 (by rcases hw with rfl | rfl | rfl <;> decide)
    have b := ih2 (by omega)
    simp only [List.length_append, List.length_cons, List.length_nil]
    exact ⟨by omega, by omega, fun q => by omega⟩
/-- something of the kind stands there, good or bad -/
def DE (T : Nat → Int32) (N : Nat) (k : GK) (d p : Nat) : Prop := ∃ ok p1 c v, Der T N k d p ok p1 c v
theorem DE_atom {d p : Nat} (hH : lk T N p = 40 → DE T N .held (d + 1) (p + 1)) : DE T N .atom d p := by
  by_cases h1 : tisd (lk T N p) = 0
  · by_cases h2 : lk T N p = 40
    · by_cases hd : d < 4
      · obtain ⟨ok, p1, c, v, h⟩ := hH h2
        cases ok with
        | true =>
          by_cases h3 : lk T N p1 = 41
          · exact ⟨_, _, _, _, .grp h2 hd h h3⟩
          · exact ⟨_, _, _, _, .grpC h2 hd h h3⟩
        | false => exact ⟨_, _, _, _, .grpF h2 hd h⟩
      · exact ⟨_, _, _, _, .grpD h2 hd⟩
    · rcases ylof_or (lk T N p) with h3 | ⟨j, hj, h3⟩
      · exact ⟨_, _, _, _, .letF h1 h2 h3⟩
      · exact ⟨_, _, _, _, .lett h1 h2 hj h3⟩
  · exact ⟨_, _, _, _, .num h1⟩
theorem DE_thing {d p : Nat} (hA : ∀ q, p ≤ q → DE T N .atom d q) : DE T N .thing d p := by
  have key : ∀ m k, 41 - (p + k) ≤ m → (∀ i, i < k → lk T N (p + i) = 45) → ∃ k2, (∀ i, i < k2 → lk T N (p + i) = 45) ∧ ¬ lk T N (p + k2) = 45 := by
    intro m
    induction m with
    | zero =>
      intro k hk h
      exact ⟨k, h, fun e => by have := lk_lt e (by decide); omega⟩
    | succ m ih =>
      intro k hk h
      by_cases e : lk T N (p + k) = 45
      · have := lk_lt e (by decide)
        refine ih (k + 1) (by omega) fun i hi => ?_
        by_cases e2 : i = k
        · rw [e2]; exact e
        · exact h i (by omega)
      · exact ⟨k, h, e⟩
  obtain ⟨k, h, h2⟩ := key 41 0 (by omega) (fun i hi => absurd hi (by omega))
  obtain ⟨ok, p1, c, v, h3⟩ := hA (p + k) (by omega)
  exact ⟨_, _, _, _, .thg h h2 h3⟩
theorem DE_prodL {d p : Nat} (hT : ∀ q, p ≤ q → DE T N .thing d q) : ∀ m q, p ≤ q → 40 - q ≤ m → ∀ v0, DE T N (.prodL v0) d q := by
  intro m
  induction m with
  | zero =>
    intro q hq hm v0
    exact ⟨_, _, _, _, .plS (fun e => by have := lk_lt e (by decide); omega) (fun e => by have := lk_lt e (by decide); omega)⟩
  | succ m ih =>
    intro q hq hm v0
    by_cases e : lk T N q = 42 ∨ lk T N q = 47
    · have hw : ¬ lk T N q = -1 := by rcases e with e | e <;> rw [e] <;> decide
      have hl := lk_lt rfl hw
      obtain ⟨ok, p1, c, v, h⟩ := hT (q + 1) (by omega)
      have hlen := Der_len h (by omega)
      cases ok with
      | true =>
        obtain ⟨ok2, p2, c2, v2, h2⟩ := ih p1 (by omega) (by omega) (fun lt => rk (gop (lk T N q)) (v0 lt) (v lt))
        exact ⟨_, _, _, _, .plT e rfl h h2⟩
      | false => exact ⟨_, _, _, _, .plF e rfl h⟩
    · exact ⟨_, _, _, _, .plS (fun z => e (Or.inl z)) (fun z => e (Or.inr z))⟩
theorem DE_prod {d p : Nat} (hT : ∀ q, p ≤ q → DE T N .thing d q) (hp : p ≤ 40) : DE T N .prod d p := by
  obtain ⟨ok, p1, c, v, h⟩ := hT p (Nat.le_refl p)
  have hlen := Der_len h hp
  cases ok with
  | true =>
    obtain ⟨ok2, p2, c2, v2, h2⟩ := DE_prodL hT 40 p1 (by omega) (by omega) v
    exact ⟨_, _, _, _, .pr h h2⟩
  | false => exact ⟨_, _, _, _, .prF h⟩
theorem DE_sumL {d p : Nat} (hT : ∀ q, p ≤ q → q ≤ 40 → DE T N .prod d q) : ∀ m q, p ≤ q → 40 - q ≤ m → ∀ v0, DE T N (.sumL v0) d q := by
  intro m
  induction m with
  | zero =>
    intro q hq hm v0
    exact ⟨_, _, _, _, .slS (fun e => by have := lk_lt e (by decide); omega) (fun e => by have := lk_lt e (by decide); omega)⟩
  | succ m ih =>
    intro q hq hm v0
    by_cases e : lk T N q = 43 ∨ lk T N q = 45
    · have hw : ¬ lk T N q = -1 := by rcases e with e | e <;> rw [e] <;> decide
      have hl := lk_lt rfl hw
      obtain ⟨ok, p1, c, v, h⟩ := hT (q + 1) (by omega) (by omega)
      have hlen := Der_len h (by omega)
      cases ok with
      | true =>
        obtain ⟨ok2, p2, c2, v2, h2⟩ := ih p1 (by omega) (by omega) (fun lt => rk (gop (lk T N q)) (v0 lt) (v lt))
        exact ⟨_, _, _, _, .slT e rfl h h2⟩
      | false => exact ⟨_, _, _, _, .slF e rfl h⟩
    · exact ⟨_, _, _, _, .slS (fun z => e (Or.inl z)) (fun z => e (Or.inr z))⟩
theorem DE_sum {d p : Nat} (hT : ∀ q, p ≤ q → q ≤ 40 → DE T N .prod d q) (hp : p ≤ 40) : DE T N .sum d p := by
  obtain ⟨ok, p1, c, v, h⟩ := hT p (Nat.le_refl p) hp
  have hlen := Der_len h hp
  cases ok with
  | true =>
    obtain ⟨ok2, p2, c2, v2, h2⟩ := DE_sumL hT 40 p1 (by omega) (by omega) v
    exact ⟨_, _, _, _, .su h h2⟩
  | false => exact ⟨_, _, _, _, .suF h⟩
theorem DE_held1 {d p : Nat} (hT : ∀ q, p ≤ q → q ≤ 40 → DE T N .sum d q) (hp : p ≤ 40) : DE T N .held d p := by
  obtain ⟨ok, p1, c, v, h⟩ := hT p (Nat.le_refl p) hp
  have hlen := Der_len h hp
  cases ok with
  | true =>
    by_cases e : lk T N p1 = 60 ∨ lk T N p1 = 62 ∨ lk T N p1 = 61
    · have hw : ¬ lk T N p1 = -1 := by rcases e with e | e | e <;> rw [e] <;> decide
      have hl := lk_lt rfl hw
      obtain ⟨ok2, p2, c2, v2, h2⟩ := hT (p1 + 1) (by omega) (by omega)
      cases ok2 with
      | true => exact ⟨_, _, _, _, .he2 e h rfl h2⟩
      | false => exact ⟨_, _, _, _, .heS e h rfl h2⟩
    · exact ⟨_, _, _, _, .he0 h (fun z => e (Or.inl z)) (fun z => e (Or.inr (Or.inl z))) (fun z => e (Or.inr (Or.inr z)))⟩
  | false => exact ⟨_, _, _, _, .heF h⟩
theorem DE_held (m : Nat) : ∀ d p, p ≤ 40 → 40 - p ≤ m → DE T N .held d p := by
  induction m with
  | zero =>
    intro d p hp hm
    have hA : ∀ q, p ≤ q → DE T N .atom d q := fun q hq => DE_atom (fun e => by have := lk_lt e (by decide); omega)
    have hT : ∀ q, p ≤ q → DE T N .thing d q := fun q hq => DE_thing (fun r hr => hA r (by omega))
    have hP : ∀ q, p ≤ q → q ≤ 40 → DE T N .prod d q := fun q hq h40 => DE_prod (fun r hr => hT r (by omega)) h40
    have hS : ∀ q, p ≤ q → q ≤ 40 → DE T N .sum d q := fun q hq h40 => DE_sum (fun r hr h => hP r (by omega) h) h40
    exact DE_held1 hS hp
  | succ m ih =>
    intro d p hp hm
    have hA : ∀ q, p ≤ q → DE T N .atom d q := fun q hq => DE_atom (fun e => by have := lk_lt e (by decide); exact ih (d + 1) (q + 1) (by omega) (by omega))
    have hT : ∀ q, p ≤ q → DE T N .thing d q := fun q hq => DE_thing (fun r hr => hA r (by omega))
    have hP : ∀ q, p ≤ q → q ≤ 40 → DE T N .prod d q := fun q hq h40 => DE_prod (fun r hr => hT r (by omega)) h40
    have hS : ∀ q, p ≤ q → q ≤ 40 → DE T N .sum d q := fun q hq h40 => DE_sum (fun r hr h => hP r (by omega) h) h40
    exact DE_held1 hS hp
end DER
