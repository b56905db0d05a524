def barsM (F : Nat → Int) (A : Nat → Int → Int) (B : Int → Int → Int) : Int → Int := pf 0 (fun v a => if 0 < A 0 v then max a (bgM B v (A 0 v - 1) / (F 1 * 384 / F 2) + 1) else a)
def endM (A : Nat → Int → Int) (B : Int → Int → Int) : Int → Int := pf 0 (fun v a => max a (bgM B v (A 0 v)))
def scM (F : Nat → Int) (A : Nat → Int → Int) (B : Int → Int → Int) (w : Int) : Int := if w = 0 then F 4 else if w = 1 then F 1 * 384 / F 2 else if w < 3 then F 3 else if w = 3 then barsM F A B (F 4) else endM A B (F 4)
abbrev jmM (A : Nat → Int → Int) (B : Int → Int → Int) (v e : Int) : Prop := 0 ≤ e ∧ e + 1 < A 0 v ∧ B v (10 * e + 6) = 1 ∧ ¬ mTn B v e = -1 ∧ mTn B v e = mTn B v (e + 1)
