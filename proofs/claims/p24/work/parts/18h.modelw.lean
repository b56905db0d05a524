theorem zite {α : Type} {b d : Prop} [Decidable b] [Decidable d] {x y : α} (h : b ↔ d) : (if b then x else y) = if d then x else y := by
  by_cases q : b
  · rw [if_pos q, if_pos (h.mp q)]
  · rw [if_neg q, if_neg (fun z => q (h.mpr z))]
def plT (B : Int → Int → Int) (v e st : Int) : Int := 7 * B v (10 * e + 5) + B v (10 * e + 3) + st
def sgT (B : Int → Int → Int) (v e st se : Int) : Int := mTn B v e + se - toneF (plT B v e st % 7) 0 (plT B v e st / 7)
abbrev okT (B : Int → Int → Int) (v e st se : Int) : Prop := 0 ≤ plT B v e st % 7 ∧ plT B v e st % 7 < 7 ∧ 0 ≤ plT B v e st / 7 ∧ plT B v e st / 7 < 9 ∧ -2 ≤ sgT B v e st se ∧ sgT B v e st se ≤ 2 ∧ 0 ≤ toneF (plT B v e st % 7) (sgT B v e st se) (plT B v e st / 7)
def okP9 (A : Nat → Int → Int) (B : Int → Int → Int) (st se i j : Int) : Prop := ∀ u e, 0 ≤ u → (u < i ∨ u = i ∧ e < j) → 0 ≤ e → e < A 0 u → ¬ B u (10 * e + 2) = 0 → okT B u e st se
def mvB (A : Nat → Int → Int) (B : Int → Int → Int) (st se i j : Int) : Int → Int → Int := fun u k =>
  if 0 ≤ u ∧ (u < i ∨ u = i ∧ k / 10 < j) ∧ 0 ≤ k / 10 ∧ k / 10 < A 0 u ∧ ¬ B u (10 * (k / 10) + 2) = 0 then (if k % 10 = 3 then plT B u (k / 10) st % 7 else if k % 10 = 4 then sgT B u (k / 10) st se else if k % 10 = 5 then plT B u (k / 10) st / 7 else B u k) else B u k
