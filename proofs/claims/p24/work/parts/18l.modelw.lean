/-- what an element tells -/
def elP (F : Nat → Int) (A : Nat → Int → Int) (B : Int → Int → Int) (h : Int → Int) (v e w : Int) : Int := if w = 0 then bgM B v e else if w = 1 then mTk B v e else if w = 2 then B v (10 * e + 0) else if w = 3 then B v (10 * e + 1) else if w = 4 then mTn B v e else if w = 5 then B v (10 * e + 6) else if w = 6 then bgM B v e / (F 1 * 384 / F 2) else if w = 7 then shM F A B v h e else bmN (gM F A B v) e
/-- what a voice tells -/
def vpS (A : Nat → Int → Int) (B : Int → Int → Int) (s8 : Int → Int) (v w : Int) (k a : Int) : Int :=
  if mTn B v k = -1 then a else if w = 2 then (if jmM A B v (k - 1) then a + 0 else a + 1) else if w = 4 then a + s8 k else if w = 5 then max a (mTn B v k) else if a = -1 then mTn B v k else min a (mTn B v k)
def vpM (F : Nat → Int) (A : Nat → Int → Int) (B : Int → Int → Int) (h : Int → Int) (v w : Int) : Int := if w = 0 then A 0 v else if w = 1 then bgM B v (A 0 v) else if w = 3 then stC (gM F A B v) (A 0 v) else pf (if 4 < w then -1 else 0) (vpS A B (shM F A B v h) v w) (A 0 v)
