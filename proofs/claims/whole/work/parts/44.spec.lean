/-! THE GRAMMAR, as pure functions of the bytes B (−1 behind the last) and the facts fc -/
abbrev PR : Type := Option Bool × Int
def rnS (B : Int → Int) (j : Int) : Option Int × Int :=
  if 48 ≤ B j ∧ B j ≤ 57 then
    if B j ≠ 48 ∧ 48 ≤ B (j + 1) ∧ B (j + 1) ≤ 57 then
      if 48 ≤ B (j + 2) ∧ B (j + 2) ≤ 57 then (some (10 * (10 * (B j - 48) + (B (j + 1) - 48)) + (B (j + 2) - 48)), j + 3)
      else (some (10 * (B j - 48) + (B (j + 1) - 48)), j + 2)
    else (some (B j - 48), j + 1)
  else (none, j)
def facS (c : Int) : Int := if c = 121 then 0 else if c = 116 then 1 else if c = 119 then 2 else if c = 114 then 3 else if c = 99 then 4 else if c = 103 then 5 else -1
def cmpS (B fc : Int → Int) (j : Int) : PR :=
  if facS (B j) = -1 then (none, j) else
  if facS (B j) = 5 then
    if B (j + 1) = 61 then
      if B (j + 2) = 48 ∨ B (j + 2) = 49 then (some (decide (fc 5 = B (j + 2) - 48)), j + 3) else (none, j + 2)
    else (none, j + 1)
  else
  if B (j + 1) = 60 ∨ B (j + 1) = 62 then
    match rnS B (j + 2) with
    | (none, p) => (none, p)
    | (some v, p) => (some (if B (j + 1) = 60 then decide (fc (facS (B j)) < v) else decide (v < fc (facS (B j)))), p)
  else (none, j + 1)
def eitS (B : Int → Int) (S : Int → PR) : Nat → Bool → Bool → Int → PR
  | 0, _, _, j => (none, j)
  | m + 1, any, all, j => match S j with
    | (none, p) => (none, p)
    | (some v, p) => if B p = 38 then eitS B S m any (all && v) (p + 1) else
      if B p = 124 then eitS B S m (any || (all && v)) true (p + 1) else (some (any || (all && v)), p)
def sinS (B fc : Int → Int) (F : Nat) : Nat → Int → PR
  | 0, j => if B j = 33 ∨ B j = 40 then (none, j) else cmpS B fc j
  | r + 1, j => if B j = 33 then (match sinS B fc F r (j + 1) with
      | (none, p) => (none, p)
      | (some v, p) => (some (!v), p))
    else if B j = 40 then (match eitS B (sinS B fc F r) F false true (j + 1) with
      | (none, p) => (none, p)
      | (some v, p) => if B p = 41 then (some v, p + 1) else (none, p))
    else cmpS B fc j
def exF (B fc : Int → Int) (F r : Nat) (j : Int) : PR := eitS B (sinS B fc F r) F false true j
def exS (B fc : Int → Int) (r : Nat) (j : Int) : PR := exF B fc 141 r j
def wrdL : List (List Int) := [[115, 108, 111, 112, 101, 32], [99, 108, 111, 115, 101, 32], [115, 116, 114, 111, 107, 101, 32], [99, 97, 108, 108, 32], [103, 97, 112, 32], [112, 97, 114, 107, 32], [108, 101, 116, 32]]
def fit (B : Int → Int) : List Int → Int → Int
  | [], _ => 0
  | c :: cs, j => if B j = c then fit B cs (j + 1) + 1 else 0
/-- word k: from the front on, with the longest fit so far -/
def wdS (B : Int → Int) (j : Int) : List (List Int) → Int → Int → Int × Int
  | [], _, m => (-1, j + m)
  | w :: ws, k, m => if fit B w j = (w.length : Int) then (k, j + fit B w j) else wdS B j ws (k + 1) (if m < fit B w j then fit B w j else m)
/-- one clause: (word, value, fault or not, the place behind); value of a LET is the place where its E begins -/
def clS (B : Int → Int) (j : Int) : Option (Int × Int) × Int :=
  match wdS B j wrdL 0 0 with
  | (w, p) => if w = -1 then (none, p) else
    if w = 6 then (match exS B (fun _ => 0) 5 p with
      | (none, q) => (none, q)
      | (some _, q) => (some (w, p), q))
    else if w = 5 then (if B p = 121 ∨ B p = 110 then (some (w, if B p = 121 then 1 else 0), p + 1) else (none, p))
    else (match rnS B p with
      | (none, q) => (none, q)
      | (some v, q) => (some (w, v), q))
/-- the bytes of an order in the model's array -/
def oB (s : Int) (h : MM) (a : Int) : Int → Int := fun j => if 0 ≤ j ∧ j < mv h s (9630 + a) then mv h s (9640 + 140 * a + j) else -1
/-- the last clause of a word, or −1 -/
def lcI (s : Int) (h : MM) (a w : Int) : Nat → Int
  | 0 => -1
  | k + 1 => if mv h s (10910 + 8 * a + (k : Int)) = w then (k : Int) else lcI s h a w k
def lastc (s : Int) (h : MM) (a w : Int) : Int := lcI s h a w (mv h s (10900 + a)).toNat
/-- the clauses of an order in the model's array -/
def OClk (s : Int) (h : MM) (a : Int) : Prop := (0 ≤ mv h s (9620 + a) ∧ mv h s (9620 + a) ≤ 999) ∧ (0 ≤ mv h s (9630 + a) ∧ mv h s (9630 + a) ≤ 140) ∧ (∀ j : Int, 0 ≤ j → j < mv h s (9630 + a) → 0 ≤ mv h s (9640 + 140 * a + j) ∧ mv h s (9640 + 140 * a + j) ≤ 255) ∧ (0 ≤ mv h s (10900 + a) ∧ mv h s (10900 + a) ≤ 8) ∧ ∀ k : Int, 0 ≤ k → k < mv h s (10900 + a) → 0 ≤ mv h s (10910 + 8 * a + k) ∧ mv h s (10910 + 8 * a + k) ≤ 6 ∧ (mv h s (10910 + 8 * a + k) ≠ 6 → 0 ≤ mv h s (10990 + 8 * a + k) ∧ mv h s (10990 + 8 * a + k) ≤ 999) ∧ (mv h s (10910 + 8 * a + k) = 5 → mv h s (10990 + 8 * a + k) ≤ 1) ∧ (mv h s (10910 + 8 * a + k) = 6 → mv h s (10990 + 8 * a + k) = 1 ∧ 0 ≤ mv h s (11070 + 8 * a + k) ∧ mv h s (11070 + 8 * a + k) ≤ mv h s (9630 + a) ∧ (exS (oB s h a) (fun _ => 0) 5 (mv h s (11070 + 8 * a + k))).1 ≠ none)
/-- an order's object -/
def OObj (h : MM) (o : Int) : Prop := 212 ≤ o ∧ o + 4 < nx h ∧ tg h o = 3 ∧ mv h o 1 = o + 4 ∧ mv h o 2 = o + 1 ∧ mv h o 3 = o + 2 ∧ mv h o 4 = o + 3 ∧ tg h (o + 1) = 100 ∧ ln h (o + 1) = 7 ∧ tg h (o + 2) = 100 ∧ ln h (o + 2) = 7 ∧ tg h (o + 3) = 100 ∧ ln h (o + 3) = 6 ∧ tg h (o + 4) = 102
def OTx (s : Int) (h : MM) (o a : Int) : Prop := mv h o 0 = mv h s (9620 + a) ∧ ln h (o + 4) = mv h s (9630 + a) ∧ ∀ j : Int, 0 ≤ j → j < mv h s (9630 + a) → mv h (o + 4) j = sb (mv h s (9640 + 140 * a + j))
def OWd (s : Int) (h : MM) (o a : Int) : Prop := ∀ w : Int, 0 ≤ w → w < 7 → mv h (o + 2) w = lastc s h a w ∧ (lastc s h a w ≠ -1 → mv h (o + 1) w = if w = 6 then mv h s (11070 + 8 * a + lastc s h a w) else mv h s (10990 + 8 * a + lastc s h a w))
def ROrd (b s : Int) (h : MM) : Prop := ∀ a : Int, 0 ≤ a → a < mv h s 3 → OClk s h a ∧ OObj h (mv h (131 + b) a) ∧ OTx s h (mv h (131 + b) a) a ∧ OWd s h (mv h (131 + b) a) a
/-! what was known -/
def past1 (s : Int) (h : MM) (d p : Int) (v : Int) : Prop := (mv h s (370 + p) = 1 → ∀ i : Int, 0 ≤ i → i < mv h s 9 → mv h s (11490 + i) = p → v = mv h s (11840 + 1000 * i + d)) ∧ (mv h s (370 + p) = 3 → v = mv h s (23840 + 1000 * p + d)) ∧ (mv h s (370 + p) ≠ 1 → mv h s (370 + p) ≠ 3 → v = -1)
def RPast (s : Int) (h : MM) : Prop := ∀ d : Int, 0 ≤ d → d < mv h s 0 → mv h 179 d ≠ 0 ∧ (∀ p : Int, 0 ≤ p → p < mv h s 2 → past1 s h d p (mv h (mv h 179 d) p)) ∧ (∀ p : Int, mv h s 2 ≤ p → p < 60 → mv h (mv h 179 d) p = -1 ∧ mv h s (23840 + 1000 * p + d) = -1) ∧ (∀ i : Int, mv h s 9 ≤ i → i < 12 → mv h s (11840 + 1000 * i + d) = -1)
def PastI (h : MM) : Prop := (∀ d : Int, 0 ≤ d → d < 1000 → mv h 179 d = 0 ∨ (212 ≤ mv h 179 d ∧ mv h 179 d < nx h ∧ tg h (mv h 179 d) = 100 ∧ ln h (mv h 179 d) = 60 ∧ tg h (mv h 179 d - 3) ≠ 3)) ∧ ∀ d e : Int, 0 ≤ d → d < e → e < 1000 → mv h 179 d ≠ 0 → mv h 179 d ≠ mv h 179 e
/-- orders are made with their four arrays right behind them -/
def OInv (h : MM) : Prop := ∀ a : Int, 0 ≤ a → a < nx h → tg h a = 3 → a + 4 < nx h ∧ 212 ≤ a ∧ tg h (a + 1) = 100 ∧ tg h (a + 2) = 100 ∧ tg h (a + 3) = 100 ∧ ln h (a + 3) = 6 ∧ tg h (a + 4) = 102
def RW (M b s : Int) (h : MM) : Prop := (RSc b s h ∧ RBd s h ∧ RLand b s h ∧ RTown b s h ∧ RClaim b s h ∧ RPap b s h ∧ RDay s h ∧ RMark b s h ∧ RBar b s h ∧ RLeft b s h) ∧ (RVote b s h ∧ RPress b s h ∧ RSch b s h ∧ RCoin M b s h ∧ ROff b s h ∧ RSheet b s h ∧ RTape b s h ∧ ROrd b s h ∧ RPast s h)
