theorem bgM_12 {F : Nat → Int} {A : Nat → Int → Int} {B : Int → Int → Int} (hM : MOK F A B) {v : Int} (hv : 0 ≤ v ∧ v < 4) {e : Int} (he : 0 ≤ e ∧ e ≤ A 0 v) : bgM B v e % 12 = 0 := by
  obtain ⟨k, rfl⟩ : ∃ k : Nat, e = (k : Int) := ⟨e.toNat, by omega⟩
  induction k with
  | zero => rfl
  | succ k ih =>
    have q := ih (by omega)
    have r := VK_12 ((hM.2.2.2.2 v hv.1 hv.2).2 (k : Int) (by omega) (by omega)).1
    have t : bgM B v ((k + 1 : Nat) : Int) = bgM B v k + tkO (B v (10 * (k : Int) + 0)) (B v (10 * (k : Int) + 1)) := bgM_s B v (e := (k : Int)) (by omega)
    rw [t]
    omega
