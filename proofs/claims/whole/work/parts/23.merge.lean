theorem feF_spec {Fv : Int → Nat → Int} {S : Int → Nat → Int → Int} {dn : Int → Int} {n : Int} (hn : 0 ≤ n) : (feF Fv S dn n).1 = -1 ∨ (0 ≤ (feF Fv S dn n).1 ∧ (feF Fv S dn n).1 < n ∧ dn (feF Fv S dn n).1 < 2 * Fv (feF Fv S dn n).1 2) := by
  obtain ⟨k, rfl⟩ : ∃ k : Nat, n = (k : Int) := ⟨n.toNat, by omega⟩
  induction k with
  | zero => exact Or.inl rfl
  | succ k ih =>
    have q := ih (by omega)
    rw [show ((k + 1 : Nat) : Int) = (k : Int) + 1 by omega, feF_s Fv S dn (by omega)]
    generalize feF Fv S dn (k : Int) = z at q
    unfold feS
    by_cases h1 : dn (k : Int) < 2 * Fv (k : Int) 2
    · rw [if_pos h1]
      by_cases h2 : z.1 < 0 ∨ rkE S dn (k : Int) < z.2
      · rw [if_pos h2]
        exact Or.inr ⟨(by show 0 ≤ (k : Int); omega), (by show (k : Int) < (k : Int) + 1; omega), h1⟩
      · rw [if_neg h2]
        rcases q with q | q
        · exact Or.inl q
        · exact Or.inr ⟨q.1, by omega, q.2.2⟩
    · rw [if_neg h1]
      rcases q with q | q
      · exact Or.inl q
      · exact Or.inr ⟨q.1, by omega, q.2.2⟩
def dnZ (dn : Int → Int) (n : Int) : Int → Int := fun k => if 0 ≤ k ∧ k < n then 0 else dn k
theorem dnZ_0 (dn : Int → Int) : dnZ dn 0 = dn := by
  funext k
  unfold dnZ
  rw [if_neg (by omega)]
theorem zite9 {α : Type} {b d : Prop} [Decidable b] [Decidable d] {x y : α} (h : b ↔ d) : (if b then x else y) = if d then x else y := by
  by_cases q : b
  · rw [if_pos q, if_pos (h.mp q)]
  · rw [if_neg q, if_neg (fun z => q (h.mpr z))]
theorem dnZ_s (dn : Int → Int) {n : Int} (hn : 0 ≤ n) : zU (dnZ dn n) n 0 = dnZ dn (n + 1) := by
  funext k
  unfold zU dnZ
  by_cases e : k = n
  · rw [if_pos e, if_pos (by omega)]
  · rw [if_neg e]
    exact zite9 (by omega)
abbrev mgT : Type := (Nat → Int → Int) × (Int → Int)
def mgS (Fv : Int → Nat → Int) (S : Int → Nat → Int → Int) (n i : Int) (z : mgT) : mgT := if 0 ≤ (feF Fv S z.2 n).1 then (evPut z.1 (S (feF Fv S z.2 n).1) i (feF Fv S z.2 n).1 (z.2 (feF Fv S z.2 n).1), zU z.2 (feF Fv S z.2 n).1 (z.2 (feF Fv S z.2 n).1 + 1)) else z
def mgF (Fv : Int → Nat → Int) (S : Int → Nat → Int → Int) (n : Int) (E : Nat → Int → Int) (dn : Int → Int) : Int → mgT := pf (E, dnZ dn n) (mgS Fv S n)
theorem mgF_s (Fv : Int → Nat → Int) (S : Int → Nat → Int → Int) (n : Int) (E : Nat → Int → Int) (dn : Int → Int) {i : Int} (h : 0 ≤ i) : mgF Fv S n E dn (i + 1) = mgS Fv S n i (mgF Fv S n E dn i) := pf_s _ _ h
