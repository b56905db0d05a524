section ZD
variable {p : Program} {l : Launch} {e : Env} {R : Room} {s : State} {m : MethodId} {args : Array Value} {below : List Frame} {meth : Method} {c : Code} {H : Heap} {locs : List Loc} {cells slots : Nat} {Q : State → Prop}
variable {cc : ByteArray} {pc : Nat} {ls : Array Slot} {rest : List Value} {D : Nat → Prop} {H0 : Heap}
variable {G : zG} {ad : Nat → Nat} {F : Nat → Int} {A : Nat → Int → Int} {B : Int → Int → Int}
end ZD
/-- downward: the greatest place whose lower neighbour isn't p -/
def pdN (p : Int → Prop) [DecidablePred p] : Nat → Nat
  | 0 => 0
  | k + 1 => if p (k : Int) then pdN p k else k + 1
def pd (p : Int → Prop) [DecidablePred p] (m : Int) : Int := (pdN p m.toNat : Int)
theorem pd_s {p : Int → Prop} [DecidablePred p] {m : Int} (h : 0 < m) : pd p m = if p (m - 1) then pd p (m - 1) else m := by
  unfold pd
  obtain ⟨k, rfl⟩ : ∃ k : Nat, m = ((k + 1 : Nat) : Int) := ⟨(m - 1).toNat, by omega⟩
  rw [Int.toNat_natCast, show ((k + 1 : Nat) : Int) - 1 = (k : Int) by omega, Int.toNat_natCast]
  show ((if p (k : Int) then pdN p k else k + 1 : Nat) : Int) = _
  split <;> rfl
theorem pd_le {p : Int → Prop} [DecidablePred p] {m : Int} (h : 0 ≤ m) : 0 ≤ pd p m ∧ pd p m ≤ m := by
  obtain ⟨k, rfl⟩ : ∃ k : Nat, m = (k : Int) := ⟨m.toNat, by omega⟩
  induction k with
  | zero => exact ⟨Int.le_refl 0, Int.le_refl 0⟩
  | succ k ih =>
    rw [pd_s (by omega), show ((k + 1 : Nat) : Int) - 1 = (k : Int) by omega]
    have := ih (by omega)
    split <;> omega
abbrev laE (g : Int → Int) (x v b i : Int) : Prop := if ¬ g i = x then x < g i else if ¬ g (i + 3) = b then b < g (i + 3) else v < g (i + 1)
def ptQ (g : Int → Int) (x v b m : Int) : Int := pd (fun k => laE g x v b (4 * k)) m
def n4 (x v t b : Int) : Int → Int := zU (zU (zU (zU (fun _ => 0) 0 x) 1 v) 2 t) 3 b
def ptE (g : Int → Int) (m x v t b : Int) : Int → Int := zcp (n4 x v t b) (zcp g g (4 * ptQ g x v b m) (4 * (ptQ g x v b m + 1)) (4 * (m - ptQ g x v b m))) 0 (4 * ptQ g x v b m) 4
