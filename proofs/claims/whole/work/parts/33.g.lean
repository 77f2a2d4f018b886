/-! ===== the grammar of RULES ===== -/
def lk (T : Nat → Int32) (N p : Nat) : Int32 := if p < 40 then (if p < N then T p else -1) else -1
def gnum (T : Nat → Int32) (N : Nat) : Nat → Nat → Int32 → Nat × Int32
  | 0, p, v => (p, v)
  | k + 1, p, v => if tisd (lk T N p) = 0 then (p, v) else gnum T N k (p + 1) (10 * v + lk T N p - 48)
def ylof (s : Int32) : Int32 := if s = 97 then 2 else if s = 105 then 5 else if s = 107 then 3 else if s = 110 then 6 else if s = 112 then 4 else if s = 115 then 0 else if s = 119 then 1 else -1
def gop (w : Int32) : Int32 := if w = 42 then -16 else if w = 47 then -17 else if w = 43 then -14 else if w = 45 then -15 else if w = 60 then -11 else if w = 62 then -12 else -13
abbrev GK := Nat × ((Nat → Int32) → Int32)
abbrev GK.held : GK := (0, fun _ => 0)
abbrev GK.sum : GK := (1, fun _ => 0)
abbrev GK.sumL (v : (Nat → Int32) → Int32) : GK := (2, v)
abbrev GK.prod : GK := (3, fun _ => 0)
abbrev GK.prodL (v : (Nat → Int32) → Int32) : GK := (4, v)
abbrev GK.thing : GK := (5, fun _ => 0)
abbrev GK.atom : GK := (6, fun _ => 0)
/-- closed under the rules of the grammar -/
def DerC (T : Nat → Int32) (N : Nat) (Q : GK → Nat → Nat → Bool → Nat → List Int32 → ((Nat → Int32) → Int32) → Prop) : Prop :=
  (∀ (d p : Nat) (h : ¬ tisd (lk T N p) = 0), Q .atom d p true (gnum T N 3 p 0).1 [(gnum T N 3 p 0).2] (fun _ => (gnum T N 3 p 0).2)) ∧
  (∀ (d p p1 : Nat) (c : List Int32) (v : (Nat → Int32) → Int32) (h : lk T N p = 40) (hd : d < 4) (h1 : Q .held (d + 1) (p + 1) true p1 c v) (h2 : lk T N p1 = 41), Q .atom d p true (p1 + 1) c v) ∧
  (∀ (d p : Nat) (h : lk T N p = 40) (hd : ¬ d < 4), Q .atom d p false p [] (fun _ => 0)) ∧
  (∀ (d p p1 : Nat) (c : List Int32) (v : (Nat → Int32) → Int32) (h : lk T N p = 40) (hd : d < 4) (h1 : Q .held (d + 1) (p + 1) false p1 c v), Q .atom d p false p1 c v) ∧
  (∀ (d p p1 : Nat) (c : List Int32) (v : (Nat → Int32) → Int32) (h : lk T N p = 40) (hd : d < 4) (h1 : Q .held (d + 1) (p + 1) true p1 c v) (h2 : ¬ lk T N p1 = 41), Q .atom d p false p1 c v) ∧
  (∀ (d p j : Nat) (h : tisd (lk T N p) = 0) (h2 : ¬ lk T N p = 40) (hj : j < 7) (h3 : ylof (lk T N p) = nI j), Q .atom d p true (p + 1) [-1 - nI j] (fun lt => lt j)) ∧
  (∀ (d p : Nat) (h : tisd (lk T N p) = 0) (h2 : ¬ lk T N p = 40) (h3 : ylof (lk T N p) < 0), Q .atom d p false p [] (fun _ => 0)) ∧
  (∀ (d p p1 k : Nat) (ok : Bool) (c : List Int32) (v : (Nat → Int32) → Int32) (h : ∀ i, i < k → lk T N (p + i) = 45) (h2 : ¬ lk T N (p + k) = 45) (h3 : Q .atom d (p + k) ok p1 c v), Q .thing d p ok p1 (c ++ if k % 2 = 1 then [-18] else []) (fun lt => if k % 2 = 1 then -(v lt) else v lt)) ∧
  (∀ (d p p1 : Nat) (c : List Int32) (v : (Nat → Int32) → Int32) (h : Q .thing d p false p1 c v), Q .prod d p false p1 c v) ∧
  (∀ (d p p1 p2 : Nat) (ok : Bool) (c1 c2 : List Int32) (v1 v2 : (Nat → Int32) → Int32) (h : Q .thing d p true p1 c1 v1) (h2 : Q (.prodL v1) d p1 ok p2 c2 v2), Q .prod d p ok p2 (c1 ++ c2) v2) ∧
  (∀ (d p : Nat) (v0 : (Nat → Int32) → Int32) (h : ¬ lk T N p = 42) (h2 : ¬ lk T N p = 47), Q (.prodL v0) d p true p [] v0) ∧
  (∀ (d p p1 p2 : Nat) (w : Int32) (ok : Bool) (c1 c2 : List Int32) (v0 v1 v2 : (Nat → Int32) → Int32) (hw : w = 42 ∨ w = 47) (h : lk T N p = w) (h1 : Q .thing d (p + 1) true p1 c1 v1) (h2 : Q (.prodL (fun lt => rk (gop w) (v0 lt) (v1 lt))) d p1 ok p2 c2 v2), Q (.prodL v0) d p ok p2 (c1 ++ gop w :: c2) v2) ∧
  (∀ (d p p1 : Nat) (w : Int32) (c1 : List Int32) (v0 v1 : (Nat → Int32) → Int32) (hw : w = 42 ∨ w = 47) (h : lk T N p = w) (h1 : Q .thing d (p + 1) false p1 c1 v1), Q (.prodL v0) d p false p1 (c1 ++ [gop w]) v0) ∧
  (∀ (d p p1 : Nat) (c : List Int32) (v : (Nat → Int32) → Int32) (h : Q .prod d p false p1 c v), Q .sum d p false p1 c v) ∧
  (∀ (d p p1 p2 : Nat) (ok : Bool) (c1 c2 : List Int32) (v1 v2 : (Nat → Int32) → Int32) (h : Q .prod d p true p1 c1 v1) (h2 : Q (.sumL v1) d p1 ok p2 c2 v2), Q .sum d p ok p2 (c1 ++ c2) v2) ∧
  (∀ (d p : Nat) (v0 : (Nat → Int32) → Int32) (h : ¬ lk T N p = 43) (h2 : ¬ lk T N p = 45), Q (.sumL v0) d p true p [] v0) ∧
  (∀ (d p p1 p2 : Nat) (w : Int32) (ok : Bool) (c1 c2 : List Int32) (v0 v1 v2 : (Nat → Int32) → Int32) (hw : w = 43 ∨ w = 45) (h : lk T N p = w) (h1 : Q .prod d (p + 1) true p1 c1 v1) (h2 : Q (.sumL (fun lt => rk (gop w) (v0 lt) (v1 lt))) d p1 ok p2 c2 v2), Q (.sumL v0) d p ok p2 (c1 ++ gop w :: c2) v2) ∧
  (∀ (d p p1 : Nat) (w : Int32) (c1 : List Int32) (v0 v1 : (Nat → Int32) → Int32) (hw : w = 43 ∨ w = 45) (h : lk T N p = w) (h1 : Q .prod d (p + 1) false p1 c1 v1), Q (.sumL v0) d p false p1 (c1 ++ [gop w]) v0) ∧
  (∀ (d p p1 : Nat) (c : List Int32) (v : (Nat → Int32) → Int32) (h : Q .sum d p false p1 c v), Q .held d p false p1 c v) ∧
  (∀ (d p p1 : Nat) (c : List Int32) (v : (Nat → Int32) → Int32) (h : Q .sum d p true p1 c v) (h1 : ¬ lk T N p1 = 60) (h2 : ¬ lk T N p1 = 62) (h3 : ¬ lk T N p1 = 61), Q .held d p true p1 c v) ∧
  (∀ (d p p1 p2 : Nat) (w : Int32) (c1 c2 : List Int32) (v1 v2 : (Nat → Int32) → Int32) (hw : w = 60 ∨ w = 62 ∨ w = 61) (h : Q .sum d p true p1 c1 v1) (h1 : lk T N p1 = w) (h2 : Q .sum d (p1 + 1) false p2 c2 v2), Q .held d p false p2 (c1 ++ c2) v2) ∧
  (∀ (d p p1 p2 : Nat) (w : Int32) (c1 c2 : List Int32) (v1 v2 : (Nat → Int32) → Int32) (hw : w = 60 ∨ w = 62 ∨ w = 61) (h : Q .sum d p true p1 c1 v1) (h1 : lk T N p1 = w) (h2 : Q .sum d (p1 + 1) true p2 c2 v2), Q .held d p true p2 (c1 ++ c2 ++ [gop w]) (fun lt => rk (gop w) (v1 lt) (v2 lt)))
def Der (T : Nat → Int32) (N : Nat) (k : GK) (d p : Nat) (ok : Bool) (p1 : Nat) (c : List Int32) (v : (Nat → Int32) → Int32) : Prop := ∀ Q : GK → Nat → Nat → Bool → Nat → List Int32 → ((Nat → Int32) → Int32) → Prop, DerC T N Q → Q k d p ok p1 c v
theorem Der.num {T : Nat → Int32} {N : Nat} {d p : Nat} (h : ¬ tisd (lk T N p) = 0) : Der T N .atom d p true (gnum T N 3 p 0).1 [(gnum T N 3 p 0).2] (fun _ => (gnum T N 3 p 0).2) := fun Q hQ => hQ.1 _ _ h
theorem Der.grp {T : Nat → Int32} {N : Nat} {d p p1 : Nat} {c : List Int32} {v : (Nat → Int32) → Int32} (h : lk T N p = 40) (hd : d < 4) (h1 : Der T N .held (d + 1) (p + 1) true p1 c v) (h2 : lk T N p1 = 41) : Der T N .atom d p true (p1 + 1) c v := fun Q hQ => hQ.2.1 _ _ _ _ _ h hd (h1 Q hQ) h2
theorem Der.grpD {T : Nat → Int32} {N : Nat} {d p : Nat} (h : lk T N p = 40) (hd : ¬ d < 4) : Der T N .atom d p false p [] (fun _ => 0) := fun Q hQ => hQ.2.2.1 _ _ h hd
theorem Der.grpF {T : Nat → Int32} {N : Nat} {d p p1 : Nat} {c : List Int32} {v : (Nat → Int32) → Int32} (h : lk T N p = 40) (hd : d < 4) (h1 : Der T N .held (d + 1) (p + 1) false p1 c v) : Der T N .atom d p false p1 c v := fun Q hQ => hQ.2.2.2.1 _ _ _ _ _ h hd (h1 Q hQ)
theorem Der.grpC {T : Nat → Int32} {N : Nat} {d p p1 : Nat} {c : List Int32} {v : (Nat → Int32) → Int32} (h : lk T N p = 40) (hd : d < 4) (h1 : Der T N .held (d + 1) (p + 1) true p1 c v) (h2 : ¬ lk T N p1 = 41) : Der T N .atom d p false p1 c v := fun Q hQ => hQ.2.2.2.2.1 _ _ _ _ _ h hd (h1 Q hQ) h2
theorem Der.lett {T : Nat → Int32} {N : Nat} {d p j : Nat} (h : tisd (lk T N p) = 0) (h2 : ¬ lk T N p = 40) (hj : j < 7) (h3 : ylof (lk T N p) = nI j) : Der T N .atom d p true (p + 1) [-1 - nI j] (fun lt => lt j) := fun Q hQ => hQ.2.2.2.2.2.1 _ _ _ h h2 hj h3
theorem Der.letF {T : Nat → Int32} {N : Nat} {d p : Nat} (h : tisd (lk T N p) = 0) (h2 : ¬ lk T N p = 40) (h3 : ylof (lk T N p) < 0) : Der T N .atom d p false p [] (fun _ => 0) := fun Q hQ => hQ.2.2.2.2.2.2.1 _ _ h h2 h3
theorem Der.thg {T : Nat → Int32} {N : Nat} {d p p1 k : Nat} {ok : Bool} {c : List Int32} {v : (Nat → Int32) → Int32} (h : ∀ i, i < k → lk T N (p + i) = 45) (h2 : ¬ lk T N (p + k) = 45) (h3 : Der T N .atom d (p + k) ok p1 c v) : Der T N .thing d p ok p1 (c ++ if k % 2 = 1 then [-18] else []) (fun lt => if k % 2 = 1 then -(v lt) else v lt) := fun Q hQ => hQ.2.2.2.2.2.2.2.1 _ _ _ _ _ _ _ h h2 (h3 Q hQ)
theorem Der.prF {T : Nat → Int32} {N : Nat} {d p p1 : Nat} {c : List Int32} {v : (Nat → Int32) → Int32} (h : Der T N .thing d p false p1 c v) : Der T N .prod d p false p1 c v := fun Q hQ => hQ.2.2.2.2.2.2.2.2.1 _ _ _ _ _ (h Q hQ)
theorem Der.pr {T : Nat → Int32} {N : Nat} {d p p1 p2 : Nat} {ok : Bool} {c1 c2 : List Int32} {v1 v2 : (Nat → Int32) → Int32} (h : Der T N .thing d p true p1 c1 v1) (h2 : Der T N (.prodL v1) d p1 ok p2 c2 v2) : Der T N .prod d p ok p2 (c1 ++ c2) v2 := fun Q hQ => hQ.2.2.2.2.2.2.2.2.2.1 _ _ _ _ _ _ _ _ _ (h Q hQ) (h2 Q hQ)
theorem Der.plS {T : Nat → Int32} {N : Nat} {d p : Nat} {v0 : (Nat → Int32) → Int32} (h : ¬ lk T N p = 42) (h2 : ¬ lk T N p = 47) : Der T N (.prodL v0) d p true p [] v0 := fun Q hQ => hQ.2.2.2.2.2.2.2.2.2.2.1 _ _ _ h h2
theorem Der.plT {T : Nat → Int32} {N : Nat} {d p p1 p2 : Nat} {w : Int32} {ok : Bool} {c1 c2 : List Int32} {v0 v1 v2 : (Nat → Int32) → Int32} (hw : w = 42 ∨ w = 47) (h : lk T N p = w) (h1 : Der T N .thing d (p + 1) true p1 c1 v1) (h2 : Der T N (.prodL (fun lt => rk (gop w) (v0 lt) (v1 lt))) d p1 ok p2 c2 v2) : Der T N (.prodL v0) d p ok p2 (c1 ++ gop w :: c2) v2 := fun Q hQ => hQ.2.2.2.2.2.2.2.2.2.2.2.1 _ _ _ _ _ _ _ _ _ _ _ hw h (h1 Q hQ) (h2 Q hQ)
theorem Der.plF {T : Nat → Int32} {N : Nat} {d p p1 : Nat} {w : Int32} {c1 : List Int32} {v0 v1 : (Nat → Int32) → Int32} (hw : w = 42 ∨ w = 47) (h : lk T N p = w) (h1 : Der T N .thing d (p + 1) false p1 c1 v1) : Der T N (.prodL v0) d p false p1 (c1 ++ [gop w]) v0 := fun Q hQ => hQ.2.2.2.2.2.2.2.2.2.2.2.2.1 _ _ _ _ _ _ _ hw h (h1 Q hQ)
theorem Der.suF {T : Nat → Int32} {N : Nat} {d p p1 : Nat} {c : List Int32} {v : (Nat → Int32) → Int32} (h : Der T N .prod d p false p1 c v) : Der T N .sum d p false p1 c v := fun Q hQ => hQ.2.2.2.2.2.2.2.2.2.2.2.2.2.1 _ _ _ _ _ (h Q hQ)
theorem Der.su {T : Nat → Int32} {N : Nat} {d p p1 p2 : Nat} {ok : Bool} {c1 c2 : List Int32} {v1 v2 : (Nat → Int32) → Int32} (h : Der T N .prod d p true p1 c1 v1) (h2 : Der T N (.sumL v1) d p1 ok p2 c2 v2) : Der T N .sum d p ok p2 (c1 ++ c2) v2 := fun Q hQ => hQ.2.2.2.2.2.2.2.2.2.2.2.2.2.2.1 _ _ _ _ _ _ _ _ _ (h Q hQ) (h2 Q hQ)
theorem Der.slS {T : Nat → Int32} {N : Nat} {d p : Nat} {v0 : (Nat → Int32) → Int32} (h : ¬ lk T N p = 43) (h2 : ¬ lk T N p = 45) : Der T N (.sumL v0) d p true p [] v0 := fun Q hQ => hQ.2.2.2.2.2.2.2.2.2.2.2.2.2.2.2.1 _ _ _ h h2
theorem Der.slT {T : Nat → Int32} {N : Nat} {d p p1 p2 : Nat} {w : Int32} {ok : Bool} {c1 c2 : List Int32} {v0 v1 v2 : (Nat → Int32) → Int32} (hw : w = 43 ∨ w = 45) (h : lk T N p = w) (h1 : Der T N .prod d (p + 1) true p1 c1 v1) (h2 : Der T N (.sumL (fun lt => rk (gop w) (v0 lt) (v1 lt))) d p1 ok p2 c2 v2) : Der T N (.sumL v0) d p ok p2 (c1 ++ gop w :: c2) v2 := fun Q hQ => hQ.2.2.2.2.2.2.2.2.2.2.2.2.2.2.2.2.1 _ _ _ _ _ _ _ _ _ _ _ hw h (h1 Q hQ) (h2 Q hQ)
theorem Der.slF {T : Nat → Int32} {N : Nat} {d p p1 : Nat} {w : Int32} {c1 : List Int32} {v0 v1 : (Nat → Int32) → Int32} (hw : w = 43 ∨ w = 45) (h : lk T N p = w) (h1 : Der T N .prod d (p + 1) false p1 c1 v1) : Der T N (.sumL v0) d p false p1 (c1 ++ [gop w]) v0 := fun Q hQ => hQ.2.2.2.2.2.2.2.2.2.2.2.2.2.2.2.2.2.1 _ _ _ _ _ _ _ hw h (h1 Q hQ)
theorem Der.heF {T : Nat → Int32} {N : Nat} {d p p1 : Nat} {c : List Int32} {v : (Nat → Int32) → Int32} (h : Der T N .sum d p false p1 c v) : Der T N .held d p false p1 c v := fun Q hQ => hQ.2.2.2.2.2.2.2.2.2.2.2.2.2.2.2.2.2.2.1 _ _ _ _ _ (h Q hQ)
theorem Der.he0 {T : Nat → Int32} {N : Nat} {d p p1 : Nat} {c : List Int32} {v : (Nat → Int32) → Int32} (h : Der T N .sum d p true p1 c v) (h1 : ¬ lk T N p1 = 60) (h2 : ¬ lk T N p1 = 62) (h3 : ¬ lk T N p1 = 61) : Der T N .held d p true p1 c v := fun Q hQ => hQ.2.2.2.2.2.2.2.2.2.2.2.2.2.2.2.2.2.2.2.1 _ _ _ _ _ (h Q hQ) h1 h2 h3
theorem Der.heS {T : Nat → Int32} {N : Nat} {d p p1 p2 : Nat} {w : Int32} {c1 c2 : List Int32} {v1 v2 : (Nat → Int32) → Int32} (hw : w = 60 ∨ w = 62 ∨ w = 61) (h : Der T N .sum d p true p1 c1 v1) (h1 : lk T N p1 = w) (h2 : Der T N .sum d (p1 + 1) false p2 c2 v2) : Der T N .held d p false p2 (c1 ++ c2) v2 := fun Q hQ => hQ.2.2.2.2.2.2.2.2.2.2.2.2.2.2.2.2.2.2.2.2.1 _ _ _ _ _ _ _ _ _ hw (h Q hQ) h1 (h2 Q hQ)
theorem Der.he2 {T : Nat → Int32} {N : Nat} {d p p1 p2 : Nat} {w : Int32} {c1 c2 : List Int32} {v1 v2 : (Nat → Int32) → Int32} (hw : w = 60 ∨ w = 62 ∨ w = 61) (h : Der T N .sum d p true p1 c1 v1) (h1 : lk T N p1 = w) (h2 : Der T N .sum d (p1 + 1) true p2 c2 v2) : Der T N .held d p true p2 (c1 ++ c2 ++ [gop w]) (fun lt => rk (gop w) (v1 lt) (v2 lt)) := fun Q hQ => hQ.2.2.2.2.2.2.2.2.2.2.2.2.2.2.2.2.2.2.2.2.2 _ _ _ _ _ _ _ _ _ hw (h Q hQ) h1 (h2 Q hQ)
theorem Der_ind {T : Nat → Int32} {N : Nat} {M : GK → Nat → Nat → Bool → Nat → List Int32 → ((Nat → Int32) → Int32) → Prop}
  (case_num : ∀ (d p : Nat) (h : ¬ tisd (lk T N p) = 0), M .atom d p true (gnum T N 3 p 0).1 [(gnum T N 3 p 0).2] (fun _ => (gnum T N 3 p 0).2))
  (case_grp : ∀ (d p p1 : Nat) (c : List Int32) (v : (Nat → Int32) → Int32) (h : lk T N p = 40) (hd : d < 4) (h1 : Der T N .held (d + 1) (p + 1) true p1 c v) (h2 : lk T N p1 = 41), M .held (d + 1) (p + 1) true p1 c v → M .atom d p true (p1 + 1) c v)
  (case_grpD : ∀ (d p : Nat) (h : lk T N p = 40) (hd : ¬ d < 4), M .atom d p false p [] (fun _ => 0))
  (case_grpF : ∀ (d p p1 : Nat) (c : List Int32) (v : (Nat → Int32) → Int32) (h : lk T N p = 40) (hd : d < 4) (h1 : Der T N .held (d + 1) (p + 1) false p1 c v), M .held (d + 1) (p + 1) false p1 c v → M .atom d p false p1 c v)
  (case_grpC : ∀ (d p p1 : Nat) (c : List Int32) (v : (Nat → Int32) → Int32) (h : lk T N p = 40) (hd : d < 4) (h1 : Der T N .held (d + 1) (p + 1) true p1 c v) (h2 : ¬ lk T N p1 = 41), M .held (d + 1) (p + 1) true p1 c v → M .atom d p false p1 c v)
  (case_lett : ∀ (d p j : Nat) (h : tisd (lk T N p) = 0) (h2 : ¬ lk T N p = 40) (hj : j < 7) (h3 : ylof (lk T N p) = nI j), M .atom d p true (p + 1) [-1 - nI j] (fun lt => lt j))
  (case_letF : ∀ (d p : Nat) (h : tisd (lk T N p) = 0) (h2 : ¬ lk T N p = 40) (h3 : ylof (lk T N p) < 0), M .atom d p false p [] (fun _ => 0))
  (case_thg : ∀ (d p p1 k : Nat) (ok : Bool) (c : List Int32) (v : (Nat → Int32) → Int32) (h : ∀ i, i < k → lk T N (p + i) = 45) (h2 : ¬ lk T N (p + k) = 45) (h3 : Der T N .atom d (p + k) ok p1 c v), M .atom d (p + k) ok p1 c v → M .thing d p ok p1 (c ++ if k % 2 = 1 then [-18] else []) (fun lt => if k % 2 = 1 then -(v lt) else v lt))
  (case_prF : ∀ (d p p1 : Nat) (c : List Int32) (v : (Nat → Int32) → Int32) (h : Der T N .thing d p false p1 c v), M .thing d p false p1 c v → M .prod d p false p1 c v)
  (case_pr : ∀ (d p p1 p2 : Nat) (ok : Bool) (c1 c2 : List Int32) (v1 v2 : (Nat → Int32) → Int32) (h : Der T N .thing d p true p1 c1 v1) (h2 : Der T N (.prodL v1) d p1 ok p2 c2 v2), M .thing d p true p1 c1 v1 → M (.prodL v1) d p1 ok p2 c2 v2 → M .prod d p ok p2 (c1 ++ c2) v2)
  (case_plS : ∀ (d p : Nat) (v0 : (Nat → Int32) → Int32) (h : ¬ lk T N p = 42) (h2 : ¬ lk T N p = 47), M (.prodL v0) d p true p [] v0)
  (case_plT : ∀ (d p p1 p2 : Nat) (w : Int32) (ok : Bool) (c1 c2 : List Int32) (v0 v1 v2 : (Nat → Int32) → Int32) (hw : w = 42 ∨ w = 47) (h : lk T N p = w) (h1 : Der T N .thing d (p + 1) true p1 c1 v1) (h2 : Der T N (.prodL (fun lt => rk (gop w) (v0 lt) (v1 lt))) d p1 ok p2 c2 v2), M .thing d (p + 1) true p1 c1 v1 → M (.prodL (fun lt => rk (gop w) (v0 lt) (v1 lt))) d p1 ok p2 c2 v2 → M (.prodL v0) d p ok p2 (c1 ++ gop w :: c2) v2)
  (case_plF : ∀ (d p p1 : Nat) (w : Int32) (c1 : List Int32) (v0 v1 : (Nat → Int32) → Int32) (hw : w = 42 ∨ w = 47) (h : lk T N p = w) (h1 : Der T N .thing d (p + 1) false p1 c1 v1), M .thing d (p + 1) false p1 c1 v1 → M (.prodL v0) d p false p1 (c1 ++ [gop w]) v0)
  (case_suF : ∀ (d p p1 : Nat) (c : List Int32) (v : (Nat → Int32) → Int32) (h : Der T N .prod d p false p1 c v), M .prod d p false p1 c v → M .sum d p false p1 c v)
  (case_su : ∀ (d p p1 p2 : Nat) (ok : Bool) (c1 c2 : List Int32) (v1 v2 : (Nat → Int32) → Int32) (h : Der T N .prod d p true p1 c1 v1) (h2 : Der T N (.sumL v1) d p1 ok p2 c2 v2), M .prod d p true p1 c1 v1 → M (.sumL v1) d p1 ok p2 c2 v2 → M .sum d p ok p2 (c1 ++ c2) v2)
  (case_slS : ∀ (d p : Nat) (v0 : (Nat → Int32) → Int32) (h : ¬ lk T N p = 43) (h2 : ¬ lk T N p = 45), M (.sumL v0) d p true p [] v0)
  (case_slT : ∀ (d p p1 p2 : Nat) (w : Int32) (ok : Bool) (c1 c2 : List Int32) (v0 v1 v2 : (Nat → Int32) → Int32) (hw : w = 43 ∨ w = 45) (h : lk T N p = w) (h1 : Der T N .prod d (p + 1) true p1 c1 v1) (h2 : Der T N (.sumL (fun lt => rk (gop w) (v0 lt) (v1 lt))) d p1 ok p2 c2 v2), M .prod d (p + 1) true p1 c1 v1 → M (.sumL (fun lt => rk (gop w) (v0 lt) (v1 lt))) d p1 ok p2 c2 v2 → M (.sumL v0) d p ok p2 (c1 ++ gop w :: c2) v2)
  (case_slF : ∀ (d p p1 : Nat) (w : Int32) (c1 : List Int32) (v0 v1 : (Nat → Int32) → Int32) (hw : w = 43 ∨ w = 45) (h : lk T N p = w) (h1 : Der T N .prod d (p + 1) false p1 c1 v1), M .prod d (p + 1) false p1 c1 v1 → M (.sumL v0) d p false p1 (c1 ++ [gop w]) v0)
  (case_heF : ∀ (d p p1 : Nat) (c : List Int32) (v : (Nat → Int32) → Int32) (h : Der T N .sum d p false p1 c v), M .sum d p false p1 c v → M .held d p false p1 c v)
  (case_he0 : ∀ (d p p1 : Nat) (c : List Int32) (v : (Nat → Int32) → Int32) (h : Der T N .sum d p true p1 c v) (h1 : ¬ lk T N p1 = 60) (h2 : ¬ lk T N p1 = 62) (h3 : ¬ lk T N p1 = 61), M .sum d p true p1 c v → M .held d p true p1 c v)
  (case_heS : ∀ (d p p1 p2 : Nat) (w : Int32) (c1 c2 : List Int32) (v1 v2 : (Nat → Int32) → Int32) (hw : w = 60 ∨ w = 62 ∨ w = 61) (h : Der T N .sum d p true p1 c1 v1) (h1 : lk T N p1 = w) (h2 : Der T N .sum d (p1 + 1) false p2 c2 v2), M .sum d p true p1 c1 v1 → M .sum d (p1 + 1) false p2 c2 v2 → M .held d p false p2 (c1 ++ c2) v2)
  (case_he2 : ∀ (d p p1 p2 : Nat) (w : Int32) (c1 c2 : List Int32) (v1 v2 : (Nat → Int32) → Int32) (hw : w = 60 ∨ w = 62 ∨ w = 61) (h : Der T N .sum d p true p1 c1 v1) (h1 : lk T N p1 = w) (h2 : Der T N .sum d (p1 + 1) true p2 c2 v2), M .sum d p true p1 c1 v1 → M .sum d (p1 + 1) true p2 c2 v2 → M .held d p true p2 (c1 ++ c2 ++ [gop w]) (fun lt => rk (gop w) (v1 lt) (v2 lt)))
  {k : GK} {d p : Nat} {ok : Bool} {p1 : Nat} {c : List Int32} {v : (Nat → Int32) → Int32} (h : Der T N k d p ok p1 c v) : M k d p ok p1 c v :=
  (h (fun k d p ok p1 c v => Der T N k d p ok p1 c v ∧ M k d p ok p1 c v) ⟨fun d p h => ⟨Der.num h, case_num d p h ⟩,
    fun d p p1 c v h hd h1 h2 => ⟨Der.grp h hd h1.1 h2, case_grp d p p1 c v h hd h1.1 h2 h1.2⟩,
    fun d p h hd => ⟨Der.grpD h hd, case_grpD d p h hd ⟩,
    fun d p p1 c v h hd h1 => ⟨Der.grpF h hd h1.1, case_grpF d p p1 c v h hd h1.1 h1.2⟩,
    fun d p p1 c v h hd h1 h2 => ⟨Der.grpC h hd h1.1 h2, case_grpC d p p1 c v h hd h1.1 h2 h1.2⟩,
    fun d p j h h2 hj h3 => ⟨Der.lett h h2 hj h3, case_lett d p j h h2 hj h3 ⟩,
    fun d p h h2 h3 => ⟨Der.letF h h2 h3, case_letF d p h h2 h3 ⟩,
    fun d p p1 k ok c v h h2 h3 => ⟨Der.thg h h2 h3.1, case_thg d p p1 k ok c v h h2 h3.1 h3.2⟩,
    fun d p p1 c v h => ⟨Der.prF h.1, case_prF d p p1 c v h.1 h.2⟩,
    fun d p p1 p2 ok c1 c2 v1 v2 h h2 => ⟨Der.pr h.1 h2.1, case_pr d p p1 p2 ok c1 c2 v1 v2 h.1 h2.1 h.2 h2.2⟩,
    fun d p v0 h h2 => ⟨Der.plS h h2, case_plS d p v0 h h2 ⟩,
    fun d p p1 p2 w ok c1 c2 v0 v1 v2 hw h h1 h2 => ⟨Der.plT hw h h1.1 h2.1, case_plT d p p1 p2 w ok c1 c2 v0 v1 v2 hw h h1.1 h2.1 h1.2 h2.2⟩,
    fun d p p1 w c1 v0 v1 hw h h1 => ⟨Der.plF hw h h1.1, case_plF d p p1 w c1 v0 v1 hw h h1.1 h1.2⟩,
    fun d p p1 c v h => ⟨Der.suF h.1, case_suF d p p1 c v h.1 h.2⟩,
    fun d p p1 p2 ok c1 c2 v1 v2 h h2 => ⟨Der.su h.1 h2.1, case_su d p p1 p2 ok c1 c2 v1 v2 h.1 h2.1 h.2 h2.2⟩,
    fun d p v0 h h2 => ⟨Der.slS h h2, case_slS d p v0 h h2 ⟩,
    fun d p p1 p2 w ok c1 c2 v0 v1 v2 hw h h1 h2 => ⟨Der.slT hw h h1.1 h2.1, case_slT d p p1 p2 w ok c1 c2 v0 v1 v2 hw h h1.1 h2.1 h1.2 h2.2⟩,
    fun d p p1 w c1 v0 v1 hw h h1 => ⟨Der.slF hw h h1.1, case_slF d p p1 w c1 v0 v1 hw h h1.1 h1.2⟩,
    fun d p p1 c v h => ⟨Der.heF h.1, case_heF d p p1 c v h.1 h.2⟩,
    fun d p p1 c v h h1 h2 h3 => ⟨Der.he0 h.1 h1 h2 h3, case_he0 d p p1 c v h.1 h1 h2 h3 h.2⟩,
    fun d p p1 p2 w c1 c2 v1 v2 hw h h1 h2 => ⟨Der.heS hw h.1 h1 h2.1, case_heS d p p1 p2 w c1 c2 v1 v2 hw h.1 h1 h2.1 h.2 h2.2⟩,
    fun d p p1 p2 w c1 c2 v1 v2 hw h h1 h2 => ⟨Der.he2 hw h.1 h1 h2.1, case_he2 d p p1 p2 w c1 c2 v1 v2 hw h.1 h1 h2.1 h.2 h2.2⟩⟩).2
theorem lk_lt {T : Nat → Int32} {N p : Nat} {w : Int32} (h : lk T N p = w) (hw : ¬ w = -1) : p < 40 ∧ p < N := by
  unfold lk at h
  split at h
  · split at h
    · exact ⟨by assumption, by assumption⟩
    · exact absurd h.symm hw
  · exact absurd h.symm hw
theorem tisd_n1 : tisd (-1) = 0 := by decide
theorem gnum_le {T : Nat → Int32} {N : Nat} (k : Nat) : ∀ p v, p ≤ 40 → p ≤ (gnum T N k p v).1 ∧ (gnum T N k p v).1 ≤ 40 ∧ (p ≤ N → (gnum T N k p v).1 ≤ N) := by
  induction k with
  | zero => intro p v hp; exact ⟨Nat.le_refl _, hp, id⟩
  | succ k ih =>
    intro p v hp
    unfold gnum
    by_cases z : tisd (lk T N p) = 0
    · rw [if_pos z]; exact ⟨Nat.le_refl _, hp, id⟩
    · rw [if_neg z]
      have hl : p < 40 ∧ p < N := by
        by_cases e : lk T N p = -1
        · rw [e, tisd_n1] at z; exact absurd rfl z
        · exact lk_lt rfl e
      have := ih (p + 1) (10 * v + lk T N p - 48) (by omega)
      exact ⟨by omega, this.2.1, fun h => this.2.2 (by omega)⟩
theorem gnum_lt {T : Nat → Int32} {N k p : Nat} {v : Int32} (hp : p ≤ 40) (h : ¬ tisd (lk T N p) = 0) : p < (gnum T N (k + 1) p v).1 := by
  have hl : p < 40 ∧ p < N := by
    by_cases e : lk T N p = -1
    · rw [e, tisd_n1] at h; exact absurd rfl h
    · exact lk_lt rfl e
  unfold gnum
  rw [if_neg h]
  have := (gnum_le (T := T) (N := N) k (p + 1) (10 * v + lk T N p - 48) (by omega)).1
  omega
theorem ylof_or (s : Int32) : ylof s < 0 ∨ ∃ j, j < 7 ∧ ylof s = nI j := by
  unfold ylof
  split
  · exact Or.inr ⟨2, by decide, by decide⟩
  split
  · exact Or.inr ⟨5, by decide, by decide⟩
  split
  · exact Or.inr ⟨3, by decide, by decide⟩
  split
  · exact Or.inr ⟨6, by decide, by decide⟩
  split
  · exact Or.inr ⟨4, by decide, by decide⟩
  split
  · exact Or.inr ⟨0, by decide, by decide⟩
  split
  · exact Or.inr ⟨1, by decide, by decide⟩
  · exact Or.inl (by decide)
theorem ylof_n1 : ylof (-1) < 0 := by decide
section DER
variable {T : Nat → Int32} {N : Nat}
/-- no more is emitted than is read, and nothing is read behind the end -/
theorem Der_len {k : GK} {d p p1 : Nat} {ok : Bool} {c : List Int32} {v : (Nat → Int32) → Int32} (h : Der T N k d p ok p1 c v) : p ≤ 40 → c.length + p ≤ p1 ∧ p1 ≤ 40 ∧ (p ≤ N → p1 ≤ N) := by
  refine Der_ind (M := fun k d p ok p1 c v => p ≤ 40 → c.length + p ≤ p1 ∧ p1 ≤ 40 ∧ (p ≤ N → p1 ≤ N)) ?num ?grp ?grpD ?grpF ?grpC ?lett ?letF ?thg ?prF ?pr ?plS ?plT ?plF ?suF ?su ?slS ?slT ?slF ?heF ?he0 ?heS ?he2 h
  case num =>
    intro d p h
    intro hp
    have h1 : p < (gnum T N 3 p 0).1 := gnum_lt (k := 2) hp h
    have h2 := gnum_le (T := T) (N := N) 3 p 0 hp
    simp only [List.length_cons, List.length_nil]
    exact ⟨by omega, h2.2.1, h2.2.2⟩
  case grp =>
    intro _ _ _ _ _ h hd h1 h2 ih
    intro hp
    have := lk_lt h (by decide)
    have z := lk_lt h2 (by decide)
    have := ih (by omega)
    exact ⟨by omega, by omega, fun q => by omega⟩
  case grpD =>
    intro _ _ h hd
    intro hp; exact ⟨by simp, hp, id⟩
  case grpF =>
    intro _ _ _ _ _ h hd h1 ih
    intro hp
    have := lk_lt h (by decide)
    have := ih (by omega)
    exact ⟨by omega, by omega, fun q => by omega⟩
  case grpC =>
    intro _ _ _ _ _ h hd h1 h2 ih
    intro hp
    have := lk_lt h (by decide)
    have := ih (by omega)
    exact ⟨by omega, by omega, fun q => by omega⟩
  case lett =>
    intro d p j h h2 hj h3
    intro hp
    have : ¬ lk T N p = -1 := by
      intro e
      rw [e] at h3
      have e2 : ylof (-1) = -1 := by decide
      rw [e2] at h3
      exact nI_pos (show j < 2 ^ 31 by omega) (by rw [← h3]; decide)
    have := lk_lt rfl this
    simp only [List.length_cons, List.length_nil]
    exact ⟨by omega, by omega, fun q => by omega⟩
  case letF =>
    intro _ _ h h2 h3
    intro hp; exact ⟨by simp, hp, id⟩
  case thg =>
    intro d p p1 k ok c v h h2 h3 ih
    intro hp
    have hk : p + k ≤ 40 ∧ (p ≤ N → p + k ≤ N) := by
      cases k with
      | zero => exact ⟨by omega, fun q => by omega⟩
      | succ k =>
        have := lk_lt (h k (by omega)) (by decide)
        exact ⟨by omega, fun q => by omega⟩
    have := ih hk.1
    rw [List.length_append]
    by_cases e : k % 2 = 1
    · rw [if_pos e]
      simp only [List.length_cons, List.length_nil]
      exact ⟨by omega, by omega, fun q => by have := hk.2 q; omega⟩
    · rw [if_neg e]
      simp only [List.length_nil]
      exact ⟨by omega, by omega, fun q => by have := hk.2 q; omega⟩
  case prF =>
    intro _ _ _ _ _ h ih
    exact ih
  case pr =>
    intro _ _ _ _ _ _ _ _ _ h h2 ih ih2
    intro hp
    have a := ih hp
    have b := ih2 a.2.1
    rw [List.length_append]
    exact ⟨by omega, by omega, fun q => by omega⟩
  case plS =>
    intro _ _ _ h h2
    intro hp; exact ⟨by simp, hp, id⟩
  case plT =>
    intro _ _ _ _ _ _ _ _ _ _ _ hw h h1 h2 ih ih2
    intro hp
    have := lk_lt h (by rcases hw with rfl | rfl <;> decide)
    have a := ih (by omega)
    have b := ih2 a.2.1
    simp only [List.length_append, List.length_cons]
    exact ⟨by omega, by omega, fun q => by omega⟩
  case plF =>
    intro _ _ _ _ _ _ _ hw h h1 ih
    intro hp
    have := lk_lt h (by rcases hw with rfl | rfl <;> decide)
    have a := ih (by omega)
    simp only [List.length_append, List.length_cons, List.length_nil]
    exact ⟨by omega, by omega, fun q => by omega⟩
  case suF =>
    intro _ _ _ _ _ h ih
    exact ih
  case su =>
    intro _ _ _ _ _ _ _ _ _ h h2 ih ih2
    intro hp
    have a := ih hp
    have b := ih2 a.2.1
    rw [List.length_append]
    exact ⟨by omega, by omega, fun q => by omega⟩
  case slS =>
    intro _ _ _ h h2
    intro hp; exact ⟨by simp, hp, id⟩
  case slT =>
    intro _ _ _ _ _ _ _ _ _ _ _ hw h h1 h2 ih ih2
    intro hp
    have := lk_lt h (by rcases hw with rfl | rfl <;> decide)
    have a := ih (by omega)
    have b := ih2 a.2.1
    simp only [List.length_append, List.length_cons]
    exact ⟨by omega, by omega, fun q => by omega⟩
  case slF =>
    intro _ _ _ _ _ _ _ hw h h1 ih
    intro hp
    have := lk_lt h (by rcases hw with rfl | rfl <;> decide)
    have a := ih (by omega)
    simp only [List.length_append, List.length_cons, List.length_nil]
    exact ⟨by omega, by omega, fun q => by omega⟩
  case heF =>
    intro _ _ _ _ _ h ih
    exact ih
  case he0 =>
    intro _ _ _ _ _ h h1 h2 h3 ih
    exact ih
  case heS =>
    intro _ _ _ _ _ _ _ _ _ hw h h1 h2 ih ih2
    intro hp
    have a := ih hp
    have := lk_lt h1 (by rcases hw with rfl | rfl | rfl <;> decide)
    have b := ih2 (by omega)
    rw [List.length_append]
    exact ⟨by omega, by omega, fun q => by omega⟩
  case he2 =>
    intro _ _ _ _ _ _ _ _ _ hw h h1 h2 ih ih2
    intro hp
    have a := ih hp
    have := lk_lt h1 (by rcases hw with rfl | rfl | rfl <;> decide)
    have b := ih2 (by omega)
    simp only [List.length_append, List.length_cons, List.length_nil]
    exact ⟨by omega, by omega, fun q => by omega⟩
/-- something of the kind stands there, good or bad -/
def DE (T : Nat → Int32) (N : Nat) (k : GK) (d p : Nat) : Prop := ∃ ok p1 c v, Der T N k d p ok p1 c v
theorem DE_atom {d p : Nat} (hH : lk T N p = 40 → DE T N .held (d + 1) (p + 1)) : DE T N .atom d p := by
  by_cases h1 : tisd (lk T N p) = 0
  · by_cases h2 : lk T N p = 40
    · by_cases hd : d < 4
      · obtain ⟨ok, p1, c, v, h⟩ := hH h2
        cases ok with
        | true =>
          by_cases h3 : lk T N p1 = 41
          · exact ⟨_, _, _, _, .grp h2 hd h h3⟩
          · exact ⟨_, _, _, _, .grpC h2 hd h h3⟩
        | false => exact ⟨_, _, _, _, .grpF h2 hd h⟩
      · exact ⟨_, _, _, _, .grpD h2 hd⟩
    · rcases ylof_or (lk T N p) with h3 | ⟨j, hj, h3⟩
      · exact ⟨_, _, _, _, .letF h1 h2 h3⟩
      · exact ⟨_, _, _, _, .lett h1 h2 hj h3⟩
  · exact ⟨_, _, _, _, .num h1⟩
theorem DE_thing {d p : Nat} (hA : ∀ q, p ≤ q → DE T N .atom d q) : DE T N .thing d p := by
  have key : ∀ m k, 41 - (p + k) ≤ m → (∀ i, i < k → lk T N (p + i) = 45) → ∃ k2, (∀ i, i < k2 → lk T N (p + i) = 45) ∧ ¬ lk T N (p + k2) = 45 := by
    intro m
    induction m with
    | zero =>
      intro k hk h
      exact ⟨k, h, fun e => by have := lk_lt e (by decide); omega⟩
    | succ m ih =>
      intro k hk h
      by_cases e : lk T N (p + k) = 45
      · have := lk_lt e (by decide)
        refine ih (k + 1) (by omega) fun i hi => ?_
        by_cases e2 : i = k
        · rw [e2]; exact e
        · exact h i (by omega)
      · exact ⟨k, h, e⟩
  obtain ⟨k, h, h2⟩ := key 41 0 (by omega) (fun i hi => absurd hi (by omega))
  obtain ⟨ok, p1, c, v, h3⟩ := hA (p + k) (by omega)
  exact ⟨_, _, _, _, .thg h h2 h3⟩
theorem DE_prodL {d p : Nat} (hT : ∀ q, p ≤ q → DE T N .thing d q) : ∀ m q, p ≤ q → 40 - q ≤ m → ∀ v0, DE T N (.prodL v0) d q := by
  intro m
  induction m with
  | zero =>
    intro q hq hm v0
    exact ⟨_, _, _, _, .plS (fun e => by have := lk_lt e (by decide); omega) (fun e => by have := lk_lt e (by decide); omega)⟩
  | succ m ih =>
    intro q hq hm v0
    by_cases e : lk T N q = 42 ∨ lk T N q = 47
    · have hw : ¬ lk T N q = -1 := by rcases e with e | e <;> rw [e] <;> decide
      have hl := lk_lt rfl hw
      obtain ⟨ok, p1, c, v, h⟩ := hT (q + 1) (by omega)
      have hlen := Der_len h (by omega)
      cases ok with
      | true =>
        obtain ⟨ok2, p2, c2, v2, h2⟩ := ih p1 (by omega) (by omega) (fun lt => rk (gop (lk T N q)) (v0 lt) (v lt))
        exact ⟨_, _, _, _, .plT e rfl h h2⟩
      | false => exact ⟨_, _, _, _, .plF e rfl h⟩
    · exact ⟨_, _, _, _, .plS (fun z => e (Or.inl z)) (fun z => e (Or.inr z))⟩
theorem DE_prod {d p : Nat} (hT : ∀ q, p ≤ q → DE T N .thing d q) (hp : p ≤ 40) : DE T N .prod d p := by
  obtain ⟨ok, p1, c, v, h⟩ := hT p (Nat.le_refl p)
  have hlen := Der_len h hp
  cases ok with
  | true =>
    obtain ⟨ok2, p2, c2, v2, h2⟩ := DE_prodL hT 40 p1 (by omega) (by omega) v
    exact ⟨_, _, _, _, .pr h h2⟩
  | false => exact ⟨_, _, _, _, .prF h⟩
theorem DE_sumL {d p : Nat} (hT : ∀ q, p ≤ q → q ≤ 40 → DE T N .prod d q) : ∀ m q, p ≤ q → 40 - q ≤ m → ∀ v0, DE T N (.sumL v0) d q := by
  intro m
  induction m with
  | zero =>
    intro q hq hm v0
    exact ⟨_, _, _, _, .slS (fun e => by have := lk_lt e (by decide); omega) (fun e => by have := lk_lt e (by decide); omega)⟩
  | succ m ih =>
    intro q hq hm v0
    by_cases e : lk T N q = 43 ∨ lk T N q = 45
    · have hw : ¬ lk T N q = -1 := by rcases e with e | e <;> rw [e] <;> decide
      have hl := lk_lt rfl hw
      obtain ⟨ok, p1, c, v, h⟩ := hT (q + 1) (by omega) (by omega)
      have hlen := Der_len h (by omega)
      cases ok with
      | true =>
        obtain ⟨ok2, p2, c2, v2, h2⟩ := ih p1 (by omega) (by omega) (fun lt => rk (gop (lk T N q)) (v0 lt) (v lt))
        exact ⟨_, _, _, _, .slT e rfl h h2⟩
      | false => exact ⟨_, _, _, _, .slF e rfl h⟩
    · exact ⟨_, _, _, _, .slS (fun z => e (Or.inl z)) (fun z => e (Or.inr z))⟩
theorem DE_sum {d p : Nat} (hT : ∀ q, p ≤ q → q ≤ 40 → DE T N .prod d q) (hp : p ≤ 40) : DE T N .sum d p := by
  obtain ⟨ok, p1, c, v, h⟩ := hT p (Nat.le_refl p) hp
  have hlen := Der_len h hp
  cases ok with
  | true =>
    obtain ⟨ok2, p2, c2, v2, h2⟩ := DE_sumL hT 40 p1 (by omega) (by omega) v
    exact ⟨_, _, _, _, .su h h2⟩
  | false => exact ⟨_, _, _, _, .suF h⟩
theorem DE_held1 {d p : Nat} (hT : ∀ q, p ≤ q → q ≤ 40 → DE T N .sum d q) (hp : p ≤ 40) : DE T N .held d p := by
  obtain ⟨ok, p1, c, v, h⟩ := hT p (Nat.le_refl p) hp
  have hlen := Der_len h hp
  cases ok with
  | true =>
    by_cases e : lk T N p1 = 60 ∨ lk T N p1 = 62 ∨ lk T N p1 = 61
    · have hw : ¬ lk T N p1 = -1 := by rcases e with e | e | e <;> rw [e] <;> decide
      have hl := lk_lt rfl hw
      obtain ⟨ok2, p2, c2, v2, h2⟩ := hT (p1 + 1) (by omega) (by omega)
      cases ok2 with
      | true => exact ⟨_, _, _, _, .he2 e h rfl h2⟩
      | false => exact ⟨_, _, _, _, .heS e h rfl h2⟩
    · exact ⟨_, _, _, _, .he0 h (fun z => e (Or.inl z)) (fun z => e (Or.inr (Or.inl z))) (fun z => e (Or.inr (Or.inr z)))⟩
  | false => exact ⟨_, _, _, _, .heF h⟩
theorem DE_held (m : Nat) : ∀ d p, p ≤ 40 → 40 - p ≤ m → DE T N .held d p := by
  induction m with
  | zero =>
    intro d p hp hm
    have hA : ∀ q, p ≤ q → DE T N .atom d q := fun q hq => DE_atom (fun e => by have := lk_lt e (by decide); omega)
    have hT : ∀ q, p ≤ q → DE T N .thing d q := fun q hq => DE_thing (fun r hr => hA r (by omega))
    have hP : ∀ q, p ≤ q → q ≤ 40 → DE T N .prod d q := fun q hq h40 => DE_prod (fun r hr => hT r (by omega)) h40
    have hS : ∀ q, p ≤ q → q ≤ 40 → DE T N .sum d q := fun q hq h40 => DE_sum (fun r hr h => hP r (by omega) h) h40
    exact DE_held1 hS hp
  | succ m ih =>
    intro d p hp hm
    have hA : ∀ q, p ≤ q → DE T N .atom d q := fun q hq => DE_atom (fun e => by have := lk_lt e (by decide); exact ih (d + 1) (q + 1) (by omega) (by omega))
    have hT : ∀ q, p ≤ q → DE T N .thing d q := fun q hq => DE_thing (fun r hr => hA r (by omega))
    have hP : ∀ q, p ≤ q → q ≤ 40 → DE T N .prod d q := fun q hq h40 => DE_prod (fun r hr => hT r (by omega)) h40
    have hS : ∀ q, p ≤ q → q ≤ 40 → DE T N .sum d q := fun q hq h40 => DE_sum (fun r hr h => hP r (by omega) h) h40
    exact DE_held1 hS hp
end DER
