/-! What each call answers and does, in whole numbers: a.. the answer, s.. the world behind it. -/
def aPerson (W : Int → Int → Int) (p l : Int) : Int := if 0 ≤ p ∧ p ≤ 9 ∧ 0 ≤ l ∧ l ≤ 9 ∧ W 3 3 < 6 then W 3 3 else -1
def sPerson (W : Int → Int → Int) (p l : Int) : Int → Int → Int := if 0 ≤ p ∧ p ≤ 9 ∧ 0 ≤ l ∧ l ≤ 9 ∧ W 3 3 < 6 then wSh W (W 3 3 + 1) (fset (W 0) (W 3 3) p) (fset (W 5) (W 3 3) l) (W 6) else W
def aCurrent (t p q : Int) : Int := if 0 ≤ t ∧ t ≤ 2 ∧ 0 ≤ p ∧ p ≤ 9 ∧ 0 ≤ q ∧ q ≤ 9 then 1 else 0
def sCurrent (W : Int → Int → Int) (t p q : Int) : Int → Int → Int := if 0 ≤ t ∧ t ≤ 2 ∧ 0 ≤ p ∧ p ≤ 9 ∧ 0 ≤ q ∧ q ≤ 9 then wSh W (W 3 3) (W 0) (W 5) (fset (W 6) (t * 10 + p) q) else W
def aEnd (F : Int → Int) (n : Int) : Int := if 0 ≤ n ∧ n ≤ F 2 then n else -1
def sEnd (F : Int → Int) (n : Int) : Int → Int := if 0 ≤ n ∧ n ≤ F 2 then fset F 2 n else F
def aFault (F : Int → Int) (w : Int) : Int := if w = 0 then F 0 else if w = 1 then F 1 else -1
def aBy (W : Int → Int → Int) (t : Int) : Int := if -1 ≤ t ∧ t ≤ W 3 1 - 1 then 1 else 0
def sBy (W : Int → Int → Int) (t : Int) : Int → Int → Int := if -1 ≤ t ∧ t ≤ W 3 1 - 1 then fset W 3 (fset (W 3) 2 t) else W
def tossS (S : Int → Int) (fr to pl co : Int) : Int → Int := fset (fset (fset (fset (fset (fset (fset S 72 (S 72 + 1)) (S 72 * 6 + 0) fr) (S 72 * 6 + 1) to) (S 72 * 6 + 2) pl) (S 72 * 6 + 3) co) (S 72 * 6 + 4) 0) (S 72 * 6 + 5) (S 73)
def tossW (W : Int → Int → Int) (fr to co : Int) : Int → Int → Int := fset W 1 (tossS (W 1) fr to (atP (W 3 3) (W 0) fr) co)
def fishW (W : Int → Int → Int) (b p : Int) : Int → Int → Int := fset W 1 (wrM (fset (W 1) (b * 6 + 4) (3 + p)) b 2)
def againW (W : Int → Int → Int) (b : Int) : Int → Int → Int := fset W 1 (fset (fset (W 1) (b * 6 + 2) (atP (W 3 3) (W 0) (W 1 (b * 6 + 4) - 3))) (b * 6 + 4) 0)
def tossB (W : Int → Int → Int) (fr to co : Int) : Bool := decide ((0 ≤ fr ∧ fr < W 3 3) ∧ (0 ≤ to ∧ to < W 3 3) ∧ fr ≠ to ∧ (1 ≤ co ∧ co ≤ 99) ∧ W 1 72 < 12)
def fishB (W : Int → Int → Int) (b p : Int) : Bool := decide ((0 ≤ b ∧ b < W 1 72) ∧ W 1 (b * 6 + 4) = 0 ∧ (0 ≤ p ∧ p < W 3 3) ∧ W 1 (b * 6 + 0) ≠ p ∧ W 1 (b * 6 + 2) = atP (W 3 3) (W 0) p)
def againB (W : Int → Int → Int) (b : Int) : Bool := decide ((0 ≤ b ∧ b < W 1 72) ∧ 3 ≤ W 1 (b * 6 + 4))
/-- whether what is done is a step of its own -/
def stepM (c : Int) (W : Int → Int → Int) : Int → Int → Int := if c = 0 then W else keepM W
def aToss (W : Int → Int → Int) (fr to co : Int) : Int := if tossB W fr to co = true then W 1 72 else -1
def sToss (c : Int) (W : Int → Int → Int) (fr to co : Int) : Int → Int → Int := if tossB W fr to co = true then tossW (stepM c W) fr to co else W
def aFish (W : Int → Int → Int) (b p : Int) : Int := if fishB W b p = true then 1 else 0
def sFish (c : Int) (W : Int → Int → Int) (b p : Int) : Int → Int → Int := if fishB W b p = true then fishW (stepM c W) b p else W
def aAgain (W : Int → Int → Int) (b : Int) : Int := if againB W b = true then 1 else 0
def sAgain (c : Int) (W : Int → Int → Int) (b : Int) : Int → Int → Int := if againB W b = true then againW (stepM c W) b else W
def aUndo (W : Int → Int → Int) : Int := if W 3 0 = 0 then -1 else W 3 0 - 1
def sUndo (W : Int → Int → Int) : Int → Int → Int := if W 3 0 = 0 then W else fset (wSt W (W 3 0 - 1) (fun j => W (10 + j))) 1 (W (10 + (W 3 0 - 1)))
def comeN (S : Int → Int) (p : Int) : Int := cnt (fun b => S (b * 6 + 4) = 1 ∧ S (b * 6 + 1) = p) (S 72).toNat
def howN (S : Int → Int) (p : Int) : Int := bits (fun b => S (b * 6 + 4) = p) (S 72).toNat
def floN (S : Int → Int) (p : Int) : Int := cnt (fun b => S (b * 6 + 4) = 0 ∧ S (b * 6 + 2) = p) (S 72).toNat
def aOf (W : Int → Int → Int) (p w : Int) : Int := if 0 ≤ p ∧ p < W 3 3 then (if w = 0 then W 0 p else if w = 1 then W 5 p else if w = 2 then comeN (W 1) p else if w = 3 then howN (W 1) (3 + p) else -1) else -1
def aOfBottle (W : Int → Int → Int) (X : Int → Tx) (b w : Int) : Int := if 0 ≤ b ∧ b < W 1 72 then (if 0 ≤ w ∧ w ≤ 5 then W 1 (b * 6 + w) else if w = 6 then comesM (coOf (ruX W X)) (W 1) (W 3 3) (W 0) (W 5) b else if w = 7 then wearsM (weOf (ruX W X)) (W 1) (W 3 3) (W 0) (W 5) b else -2) else -2
def aTold (W : Int → Int → Int) (t p : Int) : Int := if 0 ≤ t ∧ t ≤ 2 ∧ 0 ≤ p ∧ p ≤ 9 then W 6 (t * 10 + p) else -1
def aIs (W : Int → Int → Int) (w : Int) : Int := if w = 0 then W 1 73 else if w = 1 then W 1 74 else if w = 2 then howN (W 1) 0 else if w = 3 then W 1 72 else -2
def aBook (W : Int → Int → Int) (i w : Int) : Int := if i = -1 then W 1 75 else if 0 ≤ i ∧ i ≤ W 1 75 - 1 ∧ 0 ≤ w ∧ w ≤ 3 then bk (W 1) (i * 4 + w) else -2
def aLedger (W : Int → Int → Int) (w : Int) : Int := if 0 ≤ w ∧ w ≤ 2 then cnt (fun l => bk (W 1) (l * 4 + 2) = w) (W 1 75).toNat else -2
def aDrift (W : Int → Int → Int) (p n : Int) : Int := if 0 ≤ p ∧ p ≤ 9 ∧ 0 ≤ n ∧ n ≤ 60 then drift (W 6) (W 1 73) n.toNat p else -1
def aFound (W : Int → Int → Int) (p n : Int) : Int := if p = -1 then 0 else if 0 ≤ p ∧ p ≤ 9 ∧ 1 ≤ n ∧ n ≤ 60 ∧ W 2 52 < 6 then W 2 52 + 1 else -2
def sFound (W : Int → Int → Int) (p n : Int) : Int → Int → Int := if p = -1 then fset W 2 (fset (W 2) 52 0) else if 0 ≤ p ∧ p ≤ 9 ∧ 1 ≤ n ∧ n ≤ 60 ∧ W 2 52 < 6 then fset W 2 (fset (fset (fset (W 2) (W 2 52) p) (6 + W 2 52) n) 52 (W 2 52 + 1)) else W
def aOdds (c s : Int) : Int := if 0 ≤ c ∧ c ≤ 10 ∧ 0 ≤ s ∧ s ≤ 10 - c then 1 else 0
def sOdds (W : Int → Int → Int) (c s : Int) : Int → Int → Int := if 0 ≤ c ∧ c ≤ 10 ∧ 0 ≤ s ∧ s ≤ 10 - c then fset W 2 (fset (fset (W 2) 55 c) 56 s) else W
def aSaid (W : Int → Int → Int) (b c : Int) : Int := if b = -1 then 0 else if 0 ≤ b ∧ b < W 1 72 ∧ 0 ≤ c ∧ c ≤ 10 ∧ W 2 54 < 8 then W 2 54 + 1 else -2
def sSaid (W : Int → Int → Int) (b c : Int) : Int → Int → Int := if b = -1 then fset W 2 (fset (W 2) 54 0) else if 0 ≤ b ∧ b < W 1 72 ∧ 0 ≤ c ∧ c ≤ 10 ∧ W 2 54 < 8 then fset W 2 (fset (fset (fset (W 2) (36 + W 2 54) b) (44 + W 2 54) c) 54 (W 2 54 + 1)) else W
def aAbout (W : Int → Int → Int) (F : Int → Int) (w : Int) : Int := if w = 0 then W 3 3 else if w = 1 then W 3 1 else if w = 2 then W 3 2 else if w = 3 then W 3 0 else if w = 4 then W 2 52 else if w = 5 then W 2 53 else if w = 6 then W 2 54 else if w = 7 then F 2 else -2
/-- the first of the greatest, and how great -/
def topN (f : Int → Int) : Nat → Int × Int
  | 0 => (-1, 0)
  | k + 1 => if (topN f k).2 < f k then ((k : Int), f k) else topN f k
def aLuckiest (W : Int → Int → Int) : Int := (topN (comeN (W 1)) (W 3 3).toNat).1
def aCrowd (W : Int → Int → Int) : Int := (topN (floN (W 1)) 10).1
def eldN (S : Int → Int) : Nat → Int
  | 0 => -1
  | k + 1 => if S ((k : Int) * 6 + 4) = 0 ∧ (eldN S k = -1 ∨ S ((k : Int) * 6 + 5) < S (eldN S k * 6 + 5)) then (k : Int) else eldN S k
def aEldest (W : Int → Int → Int) : Int := eldN (W 1) (W 1 72).toNat
def livesB (W : Int → Int → Int) (p : Int) : Bool := decide (cnt (fun i => W 0 i = p) (W 3 3).toNat = 0)
def aEmpty (W : Int → Int → Int) : Int := bits (fun p => livesB W p && decide (floN (W 1) p = 0)) 10
