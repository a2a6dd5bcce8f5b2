/-! THE RELATION between a World of the class (base 101 + b) and an array of the model (s) -/
def RSc (b s : Int) (h : MM) : Prop := mv h (101 + b) 9 = mv h s 0 ∧ mv h (102 + b) 5 = mv h s 1 ∧ mv h (108 + b) 7 = mv h s 2 ∧ mv h (101 + b) 8 = mv h s 3 ∧ mv h (101 + b) 7 = mv h s 4 ∧ mv h (101 + b) 10 = mv h s 5 ∧ mv h (108 + b) 9 = mv h s 6 ∧ mv h (124 + b) 2 = mv h s 7 ∧ mv h (115 + b) 8 = mv h s 8 ∧ mv h (108 + b) 8 = mv h s 9
def RBd (s : Int) (h : MM) : Prop := (0 ≤ mv h s 0 ∧ mv h s 0 ≤ 999) ∧ (0 ≤ mv h s 1 ∧ mv h s 1 ≤ 6) ∧ (0 ≤ mv h s 2 ∧ mv h s 2 ≤ 60) ∧ (0 ≤ mv h s 3 ∧ mv h s 3 ≤ 9) ∧ (0 ≤ mv h s 4 ∧ mv h s 4 ≤ 140) ∧ (0 ≤ mv h s 5 ∧ mv h s 5 ≤ 99) ∧ (0 ≤ mv h s 6 ∧ mv h s 6 ≤ 60) ∧ (0 ≤ mv h s 7 ∧ mv h s 7 ≤ 7) ∧ (0 ≤ mv h s 8 ∧ mv h s 8 ≤ 40) ∧ (0 ≤ mv h s 9 ∧ mv h s 9 ≤ 12)
def RLand (b s : Int) (h : MM) : Prop := ∀ c : Int, 0 ≤ c → c < 80 → mv h (103 + b) c = mv h s (20 + c) ∧ mv h (104 + b) c = mv h s (100 + c) ∧ 0 ≤ mv h s (20 + c) ∧ mv h s (20 + c) ≤ 99 ∧ 0 ≤ mv h s (100 + c) ∧ mv h s (100 + c) ≤ 2
def RTown (b s : Int) (h : MM) : Prop := (∀ t : Int, 0 ≤ t → t < mv h s 1 → mv h (106 + b) t = mv h s (180 + t) ∧ mv h (107 + b) t = mv h s (186 + t) ∧ 0 ≤ mv h s (180 + t) ∧ mv h s (180 + t) ≤ 79 ∧ 0 ≤ mv h s (186 + t) ∧ mv h s (186 + t) ≤ 99) ∧ ∀ t u : Int, 0 ≤ t → t < u → u < mv h s 1 → mv h s (180 + t) ≠ mv h s (180 + u)
def clm (s : Int) (h : MM) (c : Int) : Int := sumI (fun p => if mv h s (370 + p) = 6 ∧ mv h s (550 + p) = c then mv h s (730 + p) else 0) (mv h s 2).toNat
def RClaim (b s : Int) (h : MM) : Prop := ∀ c : Int, 0 ≤ c → c < 80 → mv h (105 + b) c = clm s h c
/-- an array of ints of a paper: never written behind its making -/
def AArr (h : MM) (a : Int) : Prop := (a = 3 ∨ (212 ≤ a ∧ tg h (a - 3) ≠ 3)) ∧ a < nx h ∧ tg h a = 100 ∧ 0 ≤ ln h a ∧ ln h a ≤ 41
def KOk (s : Int) (h : MM) (p : Int) : Prop :=
  (mv h s (370 + p) = 1 ∧ mv h s (430 + p) = -1 ∧ 1 ≤ mv h s (730 + p) ∧ mv h s (730 + p) ≤ 99 ∧ 0 ≤ mv h s (790 + p) ∧ mv h s (790 + p) ≤ 1) ∨
  (mv h s (370 + p) = 2 ∧ 0 ≤ mv h s (430 + p) ∧ mv h s (430 + p) < p ∧ mv h s (370 + mv h s (430 + p)) = 1 ∧ mv h s (730 + p) = -1 ∧ mv h s (790 + p) = 0) ∨
  (mv h s (370 + p) = 3 ∧ 0 ≤ mv h s (430 + p) ∧ mv h s (430 + p) < p ∧ mv h s (370 + mv h s (430 + p)) = 2 ∧ mv h s (730 + p) = -1 ∧ 0 ≤ mv h s (790 + p) ∧ mv h s (790 + p) ≤ 1 ∧ mv h s (910 + mv h s (430 + p)) = -5) ∨
  (mv h s (370 + p) = 4 ∧ 0 ≤ mv h s (430 + p) ∧ mv h s (430 + p) < p ∧ mv h s (370 + mv h s (430 + p)) = 1 ∧ 1 ≤ mv h s (730 + p) ∧ mv h s (730 + p) ≤ 999 ∧ 0 ≤ mv h s (790 + p) ∧ mv h s (790 + p) ≤ 1) ∨
  (mv h s (370 + p) = 5 ∧ 0 ≤ mv h s (430 + p) ∧ mv h s (430 + p) < p ∧ mv h s (370 + mv h s (430 + p)) = 1 ∧ 1 ≤ mv h s (730 + p) ∧ mv h s (730 + p) ≤ 9999 ∧ 0 ≤ mv h s (550 + p) ∧ mv h s (550 + p) ≤ 7 ∧ 0 ≤ mv h s (790 + p) ∧ mv h s (790 + p) ≤ 1) ∨
  (mv h s (370 + p) = 6 ∧ mv h s (430 + p) = -1 ∧ 1 ≤ mv h s (730 + p) ∧ mv h s (730 + p) ≤ 9999 ∧ 0 ≤ mv h s (550 + p) ∧ mv h s (550 + p) ≤ 79 ∧ mv h s (790 + p) = 0)
/-- ends and gauge of a scheme, plan or bill -/
def EOk (s : Int) (h : MM) (p : Int) : Prop := 1 ≤ mv h s (370 + p) ∧ mv h s (370 + p) ≤ 3 → (0 ≤ mv h s (550 + p) ∧ mv h s (550 + p) < mv h s 1) ∧ (0 ≤ mv h s (610 + p) ∧ mv h s (610 + p) < mv h s 1) ∧ mv h s (550 + p) ≠ mv h s (610 + p) ∧ (0 ≤ mv h s (670 + p) ∧ mv h s (670 + p) ≤ 1)
/-- the way of a plan in the model -/
def WOk (s : Int) (h : MM) (p : Int) : Prop := mv h s (370 + p) = 2 → 0 ≤ mv h s (850 + p) ∧ mv h s (850 + p) ≤ 40 ∧ (∀ k : Int, 0 ≤ k → k < mv h s (850 + p) → 0 ≤ mv h s (4700 + 41 * p + k) ∧ mv h s (4700 + 41 * p + k) ≤ 79) ∧ (∀ k m : Int, 0 ≤ k → k < m → m < mv h s (850 + p) → mv h s (4700 + 41 * p + k) ≠ mv h s (4700 + 41 * p + m)) ∧ (mv h s (910 + p) = -5 ∨ (0 ≤ mv h s (910 + p) ∧ mv h s (910 + p) ≤ 40)) ∧ (mv h s (910 + p) = -5 → 2 ≤ mv h s (850 + p))
/-- the object of a paper -/
def POk (s : Int) (h : MM) (r p : Int) : Prop := 212 ≤ r ∧ r < nx h ∧ tg h r = 4 ∧ mv h r 0 = mv h s (370 + p) ∧ mv h r 1 = mv h s (430 + p) ∧ mv h r 2 = mv h s (490 + p) ∧ AArr h (mv h r 3) ∧ AArr h (mv h r 4) ∧ mv h r 5 = mv h s (550 + p) ∧ mv h r 6 = mv h s (610 + p) ∧ mv h r 7 = mv h s (670 + p) ∧ mv h r 8 = mv h s (730 + p)
/-- its slot: that of the scheme -/
def SlOk (s : Int) (h : MM) (r p : Int) : Prop :=
  (mv h s (370 + p) = 1 → 0 ≤ mv h r 9 ∧ mv h r 9 < mv h s 9 ∧ mv h s (11490 + mv h r 9) = p) ∧
  (mv h s (370 + p) = 2 → 0 ≤ mv h r 9 ∧ mv h r 9 < mv h s 9 ∧ mv h s (11490 + mv h r 9) = mv h s (430 + p)) ∧
  (mv h s (370 + p) = 3 → 0 ≤ mv h r 9 ∧ mv h r 9 < mv h s 9 ∧ mv h s (11490 + mv h r 9) = mv h s (430 + mv h s (430 + p)))
/-- cells and levels of an object that is a plan, or a bill of that plan -/
def CLk (s : Int) (h : MM) (r p : Int) : Prop := ln h (mv h r 3) = mv h s (850 + p) ∧ ln h (mv h r 4) ≤ mv h s (850 + p) ∧ (∀ k : Int, 0 ≤ k → k < mv h s (850 + p) → mv h (mv h r 3) k = mv h s (4700 + 41 * p + k)) ∧ (∀ k : Int, 0 ≤ k → k < ln h (mv h r 4) → mv h (mv h r 4) k = mv h s (7160 + 41 * p + k) ∧ -500000 ≤ mv h (mv h r 4) k ∧ mv h (mv h r 4) k ≤ 500000) ∧ (∀ k : Int, ln h (mv h r 4) ≤ k → k < mv h s (850 + p) → mv h s (7160 + 41 * p + k) = -1000000)
def PlOk (s : Int) (h : MM) (r p : Int) : Prop :=
  (mv h s (370 + p) = 2 → CLk s h r p ∧ mv h r 10 = mv h s (910 + p)) ∧
  (mv h s (370 + p) = 3 → CLk s h r (mv h s (430 + p)))
def RPap (b s : Int) (h : MM) : Prop := ∀ p : Int, 0 ≤ p → p < mv h s 2 → KOk s h p ∧ EOk s h p ∧ WOk s h p ∧ 0 ≤ mv h s (490 + p) ∧ mv h s (490 + p) ≤ mv h s 0 ∧ POk s h (mv h (109 + b) p) p ∧ SlOk s h (mv h (109 + b) p) p ∧ PlOk s h (mv h (109 + b) p) p
def RDay (s : Int) (h : MM) : Prop := ∀ p q : Int, 0 ≤ p → p < q → q < mv h s 2 → mv h s (490 + p) ≤ mv h s (490 + q)
/-- marks, bars, what is left to dig -/
def RMark (b s : Int) (h : MM) : Prop := in64 (mv h (108 + b) 6) ∧ ∀ p : Int, 0 ≤ p → p < 64 → (bt (mv h (108 + b) 6) p = true ↔ p < mv h s 2 ∧ mv h s (790 + p) = 1)
def RBar (b s : Int) (h : MM) : Prop := (∀ p q : Int, 0 ≤ p → p < 60 → 0 ≤ q → q < 60 → (mv h s (1100 + 60 * p + q) = 0 ∨ mv h s (1100 + 60 * p + q) = 1) ∧ mv h s (1100 + 60 * p + q) = mv h s (1100 + 60 * q + p) ∧ (mv h s (1100 + 60 * p + q) = 1 → p < mv h s 2 ∧ q < mv h s 2 ∧ mv h s (370 + p) = 3 ∧ mv h s (370 + q) = 3)) ∧ ∀ p q : Int, 0 ≤ p → p < mv h s 2 → 0 ≤ q → q < 64 → (bt (mv h (110 + b) p) q = true ↔ q < 60 ∧ mv h s (1100 + 60 * p + q) = 1)
def RLeft (b s : Int) (h : MM) : Prop := ∀ p : Int, 0 ≤ p → p < mv h s 2 → (¬ (mv h s (370 + p) = 3 ∧ mv h s (790 + p) = 1) → mv h (112 + b) p = -5) ∧ (mv h s (370 + p) = 3 ∧ mv h s (790 + p) = 1 → mv h (111 + b) p = mv h s (970 + p) ∧ mv h (112 + b) p = mv h s (1030 + p) ∧ 0 ≤ mv h s (970 + p) ∧ mv h s (970 + p) ≤ 20000 ∧ (mv h s (1030 + p) = -5 ∨ (0 ≤ mv h s (1030 + p) ∧ mv h s (1030 + p) ≤ 999)) ∧ (mv h s (970 + p) = 0 ↔ mv h s (1030 + p) ≠ -5))
/-- votes -/
def orI (f : Int → Int) : Nat → Int
  | 0 => 0
  | k + 1 => bor (orI f k) (f (k : Int))
def vts (s : Int) (h : MM) (p y : Int) : Int := orI (fun v => if mv h s (11350 + v) = p ∧ mv h s (11410 + v) = y then shl 1 (mv h s (11290 + v)) else 0) (mv h s 6).toNat
def RVote (b s : Int) (h : MM) : Prop := (∀ v : Int, 0 ≤ v → v < mv h s 6 → 0 ≤ mv h s (11290 + v) ∧ mv h s (11290 + v) ≤ 7 ∧ 0 ≤ mv h s (11350 + v) ∧ mv h s (11350 + v) < mv h s 2 ∧ 0 ≤ mv h s (11410 + v) ∧ mv h s (11410 + v) ≤ 1) ∧ ∀ p : Int, 0 ≤ p → p < mv h s 2 → mv h (113 + b) p = vts s h p 1 ∧ mv h (114 + b) p = vts s h p 0
def RPress (b s : Int) (h : MM) : Prop := ∀ j : Int, 0 ≤ j → j < mv h s 7 → mv h (125 + b) j = mv h s (11470 + j) ∧ mv h (126 + b) j = mv h s (11480 + j) ∧ 1 ≤ mv h s (11470 + j) ∧ mv h s (11470 + j) ≤ 30 ∧ 1 ≤ mv h s (11480 + j) ∧ mv h s (11480 + j) ≤ 30
/-- schemes, scrip -/
def RSch (b s : Int) (h : MM) : Prop := (∀ i : Int, 0 ≤ i → i < mv h s 9 → 0 ≤ mv h s (11490 + i) ∧ mv h s (11490 + i) < mv h s 2 ∧ mv h s (370 + mv h s (11490 + i)) = 1 ∧ mv h (116 + b) (8 + i) = mv h s (11502 + i) ∧ mv h (118 + b) i = mv h s (11514 + i) ∧ (∀ k : Int, 0 ≤ k → k < 9 → mv h (117 + b) (9 * i + k) = mv h s (11530 + 9 * i + k) ∧ 0 ≤ mv h s (11530 + 9 * i + k)) ∧ sumI (fun k => mv h s (11530 + 9 * i + k)) 9 = mv h s (730 + mv h s (11490 + i))) ∧ ∀ i k : Int, 0 ≤ i → i < k → k < mv h s 9 → mv h s (11490 + i) ≠ mv h s (11490 + k)
def RCoin (M b s : Int) (h : MM) : Prop := (∀ k : Int, 0 ≤ k → k < 8 → mv h (116 + b) k = mv h s (192 + k)) ∧ (∀ k : Int, 0 ≤ k → k < 20 → 0 ≤ mv h (116 + b) k) ∧ sumI (mv h (116 + b)) 20 ≤ M
def ROff (b s : Int) (h : MM) : Prop := ∀ f : Int, 0 ≤ f → f < mv h s 8 → 0 ≤ mv h (119 + b) f ∧ mv h (119 + b) f < mv h s 9 ∧ mv h s (11640 + f) = mv h s (11490 + mv h (119 + b) f) ∧ mv h (120 + b) f = mv h s (11680 + f) ∧ 0 ≤ mv h s (11680 + f) ∧ mv h s (11680 + f) ≤ 7 ∧ mv h (121 + b) f = mv h s (11720 + f) ∧ 0 ≤ mv h s (11720 + f) ∧ mv h s (11720 + f) ≤ 99 ∧ mv h (122 + b) f = mv h s (11760 + f) ∧ 1 ≤ mv h s (11760 + f) ∧ mv h s (11760 + f) ≤ 999 ∧ mv h (123 + b) f = mv h s (11800 + f) ∧ 0 ≤ mv h s (11800 + f) ∧ mv h s (11800 + f) ≤ 1
def RSheet (b s : Int) (h : MM) : Prop := ∀ k : Int, 0 ≤ k → k < 4 → mv h (132 + b + 2 * k) 1 = mv h s (200 + k) ∧ -1 ≤ mv h s (200 + k) ∧ mv h s (200 + k) ≤ 2 ∧ mv h (132 + b + 2 * k) 2 = mv h s (204 + k) ∧ 0 ≤ mv h s (204 + k) ∧ mv h s (204 + k) ≤ 40 ∧ ∀ i : Int, 0 ≤ i → i < 40 → mv h (133 + b + 2 * k) i = mv h s (208 + 40 * k + i) ∧ J (mv h s (208 + 40 * k + i))
def sb (x : Int) : Int := if 128 ≤ x then x - 256 else x
/-- the rows of references: null, or what belongs there -/
def RFil (b : Int) (h : MM) : Prop := (∀ p : Int, 0 ≤ p → p < 60 → mv h (109 + b) p = 0 ∨ (212 ≤ mv h (109 + b) p ∧ mv h (109 + b) p < nx h ∧ tg h (mv h (109 + b) p) = 4)) ∧ ∀ a : Int, 0 ≤ a → a < 9 → mv h (131 + b) a = 0 ∨ (212 ≤ mv h (131 + b) a ∧ mv h (131 + b) a < nx h ∧ tg h (mv h (131 + b) a) = 3)
def RTape (b s : Int) (h : MM) : Prop := (∀ i : Int, 0 ≤ i → i < mv h s 4 → mv h (130 + b) i = sb (mv h s (11150 + i)) ∧ 0 ≤ mv h s (11150 + i) ∧ mv h s (11150 + i) ≤ 255) ∧ (∀ i : Int, 0 ≤ i → i < 140 → -128 ≤ mv h (130 + b) i ∧ mv h (130 + b) i ≤ 127) ∧ RFil b h
