def mnE (B : Int → Int → Int) (v e : Int) : Int := if B v (10 * e + 2) = 0 then 0 else mTn B v e * mTk B v e
def mtE (B : Int → Int → Int) (v e : Int) : Int := if B v (10 * e + 2) = 0 then 0 else mTk B v e
def mnV (B : Int → Int → Int) (v : Int) : Int → Int := pf 0 (fun e a => a + mnE B v e)
def mtV (B : Int → Int → Int) (v : Int) : Int → Int := pf 0 (fun e a => a + mtE B v e)
def mnT (A : Nat → Int → Int) (B : Int → Int → Int) : Int → Int := pf 0 (fun v a => a + mnV B v (A 0 v))
def mtT (A : Nat → Int → Int) (B : Int → Int → Int) : Int → Int := pf 0 (fun v a => a + mtV B v (A 0 v))
