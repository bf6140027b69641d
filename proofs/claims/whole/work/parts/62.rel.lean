/-! PURE: what the class's cells and the reference's cells have to do with each other -/
/-- a world (its 13 cells) and the reference's row now, whose, due; np, nc, nt: how many persons, cloths, things; ks c: the knots of cloth c -/
def RW (W : Bk) (nw ow du : List Int32) (np nc nt : Nat) (ks : Nat → List Nat) : Prop :=
  ((W 0).length = 19 ∧ (W 1).length = 12 ∧ (W 2).length = 12 ∧ (W 3).length = 12 ∧ (W 4).length = 14 ∧ (W 5).length = 14 ∧ (W 6).length = 14 ∧ (W 7).length = 56 ∧ (W 8).length = 20 ∧ (W 9).length = 20 ∧ (W 10).length = 20 ∧ (W 11).length = 20 ∧ (W 12).length = 20) ∧
  (nw.length = 183 ∧ ow.length = 20 ∧ du.length = 20 ∧ np ≤ 12 ∧ nc ≤ 14 ∧ nt ≤ 20) ∧
  ((W 0).getD 1 0 = nw.getD 1 0 ∧ (W 0).getD 2 0 = nw.getD 0 0 ∧ (W 0).getD 3 0 = nw.getD 2 0 ∧ (W 0).getD 4 0 = nI np ∧ (W 0).getD 5 0 = nI nc ∧ (W 0).getD 6 0 = nI nt) ∧
  ((∃ dy : Nat, dy ≤ 20000 ∧ nw.getD 0 0 = nI dy) ∧ ∃ ln : Nat, ln ≤ 150 ∧ nw.getD 2 0 = nI ln) ∧
  (∀ i, i < 12 → (W 1).getD i 0 = nw.getD (3 + i) 0 ∧ (W 2).getD i 0 = nw.getD (15 + i) 0 ∧ (W 3).getD i 0 = nw.getD (27 + i) 0) ∧
  (∀ c, c < 14 → (W 4).getD c 0 = nw.getD (39 + c) 0 ∧ (W 5).getD c 0 = nw.getD (53 + c) 0) ∧
  (∀ t, t < 20 → (W 8).getD t 0 = ow.getD t 0 ∧ (W 9).getD t 0 = du.getD t 0 ∧ (W 11).getD t 0 = nw.getD (143 + t) 0 ∧ (W 12).getD t 0 = nw.getD (163 + t) 0) ∧
  (∀ t, t < nt → ∃ o : Nat, o < np ∧ ow.getD t 0 = nI o) ∧
  (∀ t, t < nt → nw.getD (163 + t) 0 = 0 ∨ nw.getD (163 + t) 0 = 1 ∨ nw.getD (163 + t) 0 = 2) ∧
  (∀ c, c < nc → ∃ w : Nat, w < np ∧ nw.getD (39 + c) 0 = nI w) ∧
  (∀ c, c < nc → ∃ w : Nat, w ≤ 99 ∧ nw.getD (53 + c) 0 = nI w) ∧
  (∀ c, c < nc → (ks c).length ≤ 4 ∧ (ks c).Nodup ∧ (∀ t ∈ ks c, t < nt) ∧ (W 6).getD c 0 = nI (ks c).length ∧ (∀ i, i < (ks c).length → (W 7).getD (4 * c + i) 0 = nI ((ks c).getD i 0)) ∧ ∀ i, i < 4 → nw.getD (67 + 4 * c + i) 0 = if i < (ks c).length then nI ((ks c).getD i 0 + 1) else 0) ∧
  (∀ c c' t, c < nc → c' < nc → t ∈ ks c → t ∈ ks c' → c = c') ∧
  (∀ t, t < nt → (∃ c : Nat, c < nc ∧ t ∈ ks c ∧ (W 10).getD t 0 = nI c ∧ nw.getD (123 + t) 0 = nI (c + 1)) ∨ ((∀ c, c < nc → t ∉ ks c) ∧ (W 10).getD t 0 = -1 ∧ nw.getD (123 + t) 0 = 0))
/-- one code of the law: in the class a number, in the reference two -/
def RCode (c op arg : Int32) : Prop :=
  (∃ n : Nat, n < 10000 ∧ c = nI n ∧ op = 0 ∧ arg = nI n) ∨ (∃ q : Nat, q < 9 ∧ c = nI (10000 + q) ∧ op = 1 ∧ arg = nI q) ∨
  (c = 10010 ∧ op = 2) ∨ (c = 10011 ∧ op = 3) ∨ (c = 10012 ∧ op = 4) ∨ (c = 10013 ∧ op = 5) ∨ (c = 10014 ∧ op = 6) ∨ (c = 10015 ∧ op = 7) ∨ (c = 10016 ∧ op = 8) ∨ (c = 10017 ∧ op = 10) ∨ (c = 10018 ∧ op = 11) ∨ (c = 10019 ∧ op = 9)
/-- what codes leave on the stack: 0 an int, 1 a truth, 2 a number that is not 0 -/
def tcs : Int32 → List Nat → Option (List Nat)
  | c, st =>
    if c < 10000 then some ((if c = 0 then 0 else 2) :: st)
    else if c < 10010 then some (0 :: st)
    else if c = 10019 then match st with
      | 1 :: r => some (1 :: r)
      | _ => none
    else match st with
      | b :: a :: r =>
        if c = 10013 then (if b = 2 ∧ a ≠ 1 then some (0 :: r) else none)
        else if c < 10013 then (if b ≠ 1 ∧ a ≠ 1 then some (0 :: r) else none)
        else if c < 10017 then (if b ≠ 1 ∧ a ≠ 1 then some (1 :: r) else none)
        else (if b = 1 ∧ a = 1 then some (1 :: r) else none)
      | _ => none
def tcl : List Int32 → List Nat → Option (List Nat)
  | [], st => some st
  | c :: r, st => match tcs c st with
    | some s2 => tcl r s2
    | none => none
/-- the part of a row from a place on up to another -/
def seg (l : List Int32) (a b : Nat) : List Int32 := (l.take b).drop a
/-- a law: its 7 cells, and the reference's six rows of it -/
def RLaw (V : Bk) (lm lw lf lh lt op ar : List Int32) : Prop :=
  ((V 0).length = 8 ∧ (V 1).length = 16 ∧ (V 2).length = 16 ∧ (V 3).length = 16 ∧ (V 4).length = 16 ∧ (V 5).length = 400 ∧ (V 6).length = 400) ∧
  (lm.length = 2 ∧ lw.length = 48 ∧ lf.length = 48 ∧ lh.length = 48 ∧ lt.length = 48 ∧ op.length = 1200 ∧ ar.length = 1200) ∧
  ∃ n cd : Nat, n ≤ 16 ∧ cd ≤ 400 ∧ (V 0).getD 0 0 = nI n ∧ lm.getD 0 0 = nI n ∧
    (∀ i, i < cd → RCode ((V 5).getD i 0) (op.getD i 0) (ar.getD i 0)) ∧
    ∀ i, i < n → (V 1).getD i 0 = lw.getD i 0 ∧ ∃ a b c : Nat, a ≤ b ∧ b ≤ c ∧ c ≤ cd ∧ (V 2).getD i 0 = nI a ∧ (V 3).getD i 0 = nI b ∧ (V 4).getD i 0 = nI c ∧ lf.getD i 0 = nI a ∧ lh.getD i 0 = nI b ∧ lt.getD i 0 = nI c ∧
      (∃ y, y ≠ 1 ∧ tcl (seg (V 5) a b) [] = some [y]) ∧ (b = c ∨ tcl (seg (V 5) b c) [] = some [1])
/-- the lines of deeds, of minds, of friends -/
def RDeeds (V : Bk) (m : Int32) (ds : List Int32) (np nc nt : Nat) : Prop :=
  ((V 0).length = 5 ∧ (V 1).length = 16 ∧ (V 2).length = 16 ∧ (V 3).length = 16 ∧ (V 4).length = 16 ∧ ds.length = 128) ∧ ∃ n : Nat, n ≤ 16 ∧ (V 0).getD 0 0 = nI n ∧ m = nI n ∧
    ∀ i, i < n → (V 1).getD i 0 = ds.getD (4 * i) 0 ∧ (V 2).getD i 0 = ds.getD (4 * i + 1) 0 ∧ (V 3).getD i 0 = ds.getD (4 * i + 2) 0 ∧ (V 4).getD i 0 = ds.getD (4 * i + 3) 0 ∧ (∃ w a b : Nat, w < 4 ∧ ds.getD (4 * i + 1) 0 = nI w ∧ ds.getD (4 * i + 2) 0 = nI a ∧ ds.getD (4 * i + 3) 0 = nI b ∧ (w = 0 → a < nt ∧ b < nc) ∧ (w = 1 → a < nc ∧ b < np) ∧ (2 ≤ w → a < nc))
def RMinds (V : Bk) (m : Int32) (ms : List Int32) (np : Nat) : Prop :=
  ((V 0).length = 5 ∧ (V 1).length = 16 ∧ (V 2).length = 16 ∧ (V 3).length = 16 ∧ (V 4).length = 16 ∧ ms.length = 96) ∧ ∃ n : Nat, n ≤ 16 ∧ (V 0).getD 0 0 = nI n ∧ m = nI n ∧
    ∀ i, i < n → (V 1).getD i 0 = ms.getD (3 * i) 0 ∧ (V 3).getD i 0 = ms.getD (3 * i + 1) 0 ∧ (V 4).getD i 0 = ms.getD (3 * i + 2) 0 ∧ ∃ a : Nat, a < np ∧ ms.getD (3 * i + 1) 0 = nI a
def RFriends (V : Bk) (m : Int32) (fr : List Int32) (np : Nat) : Prop :=
  ((V 0).length = 5 ∧ (V 1).length = 16 ∧ (V 2).length = 16 ∧ (V 3).length = 16 ∧ (V 4).length = 16 ∧ fr.length = 24) ∧ ∃ n : Nat, n ≤ 16 ∧ (V 0).getD 0 0 = nI n ∧ m = nI n ∧ ∃ pa pb : Nat → Nat,
    (∀ i, i < n → (V 3).getD i 0 = nI (pa i) ∧ (V 4).getD i 0 = nI (pb i) ∧ pa i < np ∧ pb i < np ∧ pa i ≠ pb i) ∧
    ∀ q, q < 12 → ∃ s : Nat, s < 4096 ∧ fr.getD q 0 = nI s ∧ ∀ j, j < 12 → (s.testBit j = true ↔ ∃ i, i < n ∧ ((pa i = q ∧ pb i = j) ∨ (pb i = q ∧ pa i = j)))
