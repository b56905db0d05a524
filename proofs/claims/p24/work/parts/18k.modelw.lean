theorem isV_VK {pa d n : Int} (hn : 0 ≤ n ∧ n ≤ 15) (h : isV pa d n = 1) : VK pa d := by
  obtain ⟨k, rfl⟩ : ∃ k : Nat, n = (k : Int) := ⟨n.toNat, by omega⟩
  induction k with
  | zero =>
    have h9 : (0 : Int) = 1 := h
    omega
  | succ k ih =>
    have q : isV pa d ((k : Int) + 1) = if isV pa d (k : Int) = 0 then bI (valP (k : Int) = pa ∧ valD (k : Int) = d) else 1 := pf_s _ _ (by omega)
    rw [show ((k + 1 : Nat) : Int) = (k : Int) + 1 by omega, q] at h
    rcases isV_01 (pa := pa) (d := d) (n := (k : Int)) (by omega) with z | z
    · rw [if_pos z] at h
      have : ¬ bI (valP (k : Int) = pa ∧ valD (k : Int) = d) = 0 := by omega
      exact ⟨k, by omega, Decidable.byContradiction (fun c9 => this (bI_e0.mpr c9))⟩
    · exact ih (by omega) z
