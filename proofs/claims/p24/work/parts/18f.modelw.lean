/-! signs -/
def hfil (h : Int → Int) (key n : Int) : Int → Int := fun k => if 0 ≤ k ∧ k < n then sgM key (k % 7) else h k
def barP (F : Nat → Int) (B : Int → Int → Int) (v e : Int) : Int := if e = 0 then -1 else bgM B v (e - 1) / (F 1 * 384 / F 2)
def hoR (F : Nat → Int) (B : Int → Int → Int) (v e : Int) (h : Int → Int) : Int → Int := if bgM B v e / (F 1 * 384 / F 2) = barP F B v e then h else hfil h (F 3) 63
abbrev plM (B : Int → Int → Int) (v e : Int) : Int := 7 * B v (10 * e + 5) + B v (10 * e + 3)
def hoS (F : Nat → Int) (B : Int → Int → Int) (v e : Int) (h : Int → Int) : Int → Int := if B v (10 * e + 2) = 0 then hoR F B v e h else zU (hoR F B v e h) (plM B v e) (B v (10 * e + 4))
def hoF (F : Nat → Int) (B : Int → Int → Int) (v : Int) (h : Int → Int) : Int → Int → Int := pf h (hoS F B v)
def shM (F : Nat → Int) (A : Nat → Int → Int) (B : Int → Int → Int) (v : Int) (h : Int → Int) (e : Int) : Int := if B v (10 * e + 2) = 0 then 0 else if ¬ hoR F B v e (hoF F B v h e) (plM B v e) = B v (10 * e + 4) ∧ ¬ jmM A B v (e - 1) then 1 else 0
/-! beams -/
abbrev cbM (B : Int → Int → Int) (v e : Int) : Prop := B v (10 * e + 2) = 1 ∧ 8 ≤ B v (10 * e + 0)
theorem KP.cb {A A' : Nat → Int → Int} {B B' : Int → Int → Int} (h : KP A B A' B') (v e : Int) : cbM B' v e = cbM B v e := by
  unfold cbM
  rw [h.2 v e 2 (by omega) (by omega), h.2 v e 0 (by omega) (by omega)]
abbrev gM (F : Nat → Int) (A : Nat → Int → Int) (B : Int → Int → Int) (v e : Int) : Prop := 0 ≤ e ∧ e + 1 < A 0 v ∧ cbM B v e ∧ cbM B v (e + 1) ∧ bgM B v e / (384 / F 2) = bgM B v (e + 1) / (384 / F 2)
def stC (g : Int → Prop) [DecidablePred g] : Int → Int := pf 0 (fun k a => a + (if ¬ g (k - 1) ∧ g k then 1 else 0))
def bmN (g : Int → Prop) [DecidablePred g] (e : Int) : Int := if g (e - 1) ∨ g e then stC g (e + 1) - 1 else -1
