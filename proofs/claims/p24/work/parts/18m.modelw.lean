theorem KP.tA {A A' : Nat → Int → Int} {B B' : Int → Int → Int} (h : KP A B A' B') (v x : Int) : tAt (bgM B' v) (mTk B' v) (mTn B' v) (A' 0 v) x = tAt (bgM B v) (mTk B v) (mTn B v) (A 0 v) x := by
  rw [h.bg' v, h.1, show mTk B' v = mTk B v from funext fun e => h.tk v e, show mTn B' v = mTn B v from funext fun e => h.tn v e]
