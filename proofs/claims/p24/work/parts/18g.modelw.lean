/-- the note that begins at x -/
def beP (B : Int → Int → Int) (v n x : Int) : Int := if fp (fun k => bgM B v k = x ∧ B v (10 * k + 2) = 1) n < n then fp (fun k => bgM B v k = x ∧ B v (10 * k + 2) = 1) n else -1
def oT (A : Nat → Int → Int) (B : Int → Int → Int) (a b e : Int) : Int := if B a (10 * e + 2) = 0 then -1 else beP B b (A 0 b) (bgM B a e)
def plS (A : Nat → Int → Int) (B : Int → Int → Int) (a b e : Int) (z : Int × Int × Int) : Int × Int × Int :=
  if oT A B a b e = -1 then z else (if ¬ z.2.1 = -1 ∧ ((mTn B b (oT A B a b e) - mTn B a e) % 12 = 0 ∨ (mTn B b (oT A B a b e) - mTn B a e) % 12 = 7) ∧ (mTn B b (oT A B a b e) - mTn B a e) % 12 = (z.2.2 - z.2.1) % 12 ∧ ((z.2.1 < mTn B a e ∧ z.2.2 < mTn B b (oT A B a b e)) ∨ (mTn B a e < z.2.1 ∧ mTn B b (oT A B a b e) < z.2.2)) then z.1 + 1 else z.1, mTn B a e, mTn B b (oT A B a b e))
def plF (A : Nat → Int → Int) (B : Int → Int → Int) (a b : Int) : Int → Int × Int × Int := pf (0, -1, -1) (plS A B a b)
def parM (A : Nat → Int → Int) (B : Int → Int → Int) (a b : Int) : Int := (plF A B a b (A 0 a)).1
def lzM (A : Nat → Int → Int) (B : Int → Int → Int) (v : Int) : Int → Int := pf 0 (fun e a => a + if B v (10 * e + 6) = 1 ∧ ¬ jmM A B v e then 1 else 0)
def psM (A : Nat → Int → Int) (B : Int → Int → Int) (v : Int) : Int → Int := pf 0 (fun k a => if v < k then a + parM A B v k else a)
def fauM (F : Nat → Int) (A : Nat → Int → Int) (B : Int → Int → Int) : Int → Int := pf 0 (fun v a => a + max 0 (barsM F A B (F 4) - bgM B v (A 0 v) / (F 1 * 384 / F 2)) + lzM A B v (A 0 v) + psM A B v (F 4))
