/-! the sounds: J joined to the next one -/
section SO9
variable {J : Int → Prop} {tn bg tk : Int → Int} {n : Int}
def soG (J : Int → Prop) [DecidablePred J] (tn bg tk : Int → Int) (k : Int) (a : Int × (Nat → Int → Int)) : Int × (Nat → Int → Int) :=
  if tn k = -1 then a
  else if J (k - 1) ∧ 0 < a.1 then (a.1, zR a.2 1 (a.1 - 1) (bg k + tk k))
  else (a.1 + 1, zR (zR (zR a.2 0 a.1 (bg k)) 2 a.1 (tn k)) 1 a.1 (bg k + tk k))
def SI (J : Int → Prop) (tn bg tk : Int → Int) (k c : Int) (S : Nat → Int → Int) : Prop :=
  (0 ≤ c ∧ c ≤ k) ∧
  (∀ j, 0 ≤ j → j < c → ∃ b l, (0 ≤ b ∧ b ≤ l ∧ l < k) ∧ ¬ tn b = -1 ∧ ¬ tn l = -1 ∧ ¬ J (b - 1) ∧ (¬ J l ∨ (l = k - 1 ∧ j = c - 1)) ∧ S 0 j = bg b ∧ S 2 j = tn b ∧ tn l = tn b ∧ S 1 j = bg l + tk l) ∧
  (∀ e, 0 ≤ e → e < k → ¬ tn e = -1 → ¬ J (e - 1) → ∃ j, (0 ≤ j ∧ j < c) ∧ S 0 j = bg e ∧ S 2 j = tn e) ∧
  (∀ e, 0 ≤ e → e < k → ¬ tn e = -1 → (¬ J e ∨ e = k - 1) → ∃ j, (0 ≤ j ∧ j < c) ∧ S 1 j = bg e + tk e ∧ S 2 j = tn e) ∧
  (∀ j, 0 ≤ j → j + 1 < c → S 1 j ≤ S 0 (j + 1)) ∧ (∀ j, 0 ≤ j → j < c → S 0 j < S 1 j ∧ S 1 j ≤ bg k) ∧
  (0 < k → ¬ tn (k - 1) = -1 → 0 < c ∧ S 1 (c - 1) = bg k ∧ S 2 (c - 1) = tn (k - 1))
theorem SI_step [DecidablePred J] (hJ : ∀ i, J i → 0 ≤ i ∧ i + 1 < n ∧ ¬ tn i = -1 ∧ tn i = tn (i + 1)) (hbg : ∀ i, 0 ≤ i → i < n → bg (i + 1) = bg i + tk i ∧ 0 < tk i) (hmo : ∀ i j, 0 ≤ i → i < j → j ≤ n → bg i < bg j) {k c : Int} {S : Nat → Int → Int} (hk : 0 ≤ k ∧ k < n) (h : SI J tn bg tk k c S) : SI J tn bg tk (k + 1) (soG J tn bg tk k (c, S)).1 (soG J tn bg tk k (c, S)).2 := by
  obtain ⟨h1, h2, h3, h4, h5, h6, h7⟩ := h
  have hb := hbg k hk.1 hk.2
  unfold soG
  by_cases hr : tn k = -1
  · rw [if_pos hr]
    refine ⟨⟨h1.1, by show c ≤ k + 1; omega⟩, fun j q0 q1 => ?_, fun e q0 q1 q2 q3 => ?_, fun e q0 q1 q2 q3 => ?_, h5, fun j q0 q1 => ⟨(h6 j q0 q1).1, by have := (h6 j q0 q1).2; show S 1 j ≤ bg (k + 1); omega⟩, fun q0 q1 => absurd hr (by rw [show k + 1 - 1 = k by omega] at q1; exact q1)⟩
    · obtain ⟨b, l, a1, a2, a3, a4, a5, a6, a7, a8, a9⟩ := h2 j q0 q1
      refine ⟨b, l, ⟨a1.1, a1.2.1, by omega⟩, a2, a3, a4, Or.inl ?_, a6, a7, a8, a9⟩
      rcases a5 with a5 | a5
      · exact a5
      · intro z
        have y := (hJ l z).2.2.2
        rw [show l + 1 = k by omega] at y
        exact a3 (y.trans hr)
    · rcases (by omega : e < k ∨ e = k) with z | z
      · exact h3 e q0 z q2 q3
      · exact absurd (by rw [z]; exact hr) q2
    · rcases (by omega : e < k ∨ e = k) with z | z
      · exact h4 e q0 z q2 (Or.inl (q3.elim id (fun w => absurd w (by omega))))
      · exact absurd (by rw [z]; exact hr) q2
  · rw [if_neg hr]
    by_cases hj : J (k - 1) ∧ 0 < c
    · rw [if_pos hj]
      have hJk := hJ _ hj.1
      rw [show k - 1 + 1 = k by omega] at hJk
      have h7' := h7 (by omega) hJk.2.2.1
      have e0 : ∀ j, zR S 1 (c - 1) (bg k + tk k) 0 j = S 0 j := fun j => zR_n (Or.inl (by decide))
      have e2 : ∀ j, zR S 1 (c - 1) (bg k + tk k) 2 j = S 2 j := fun j => zR_n (Or.inl (by decide))
      have e1 : ∀ j, j ≠ c - 1 → zR S 1 (c - 1) (bg k + tk k) 1 j = S 1 j := fun j q => zR_n (Or.inr q)
      have e1' : zR S 1 (c - 1) (bg k + tk k) 1 (c - 1) = bg k + tk k := zR_s _ _ _ _
      refine ⟨⟨h1.1, by show c ≤ k + 1; omega⟩, fun j q0 q1 => ?_, fun e q0 q1 q2 q3 => ?_, fun e q0 q1 q2 q3 => ?_, fun j q0 q1 => ?_, fun j q0 q1 => ?_, fun q0 q1 => ?_⟩
      · have q1 : j < c := q1
        obtain ⟨b, l, a1, a2, a3, a4, a5, a6, a7, a8, a9⟩ := h2 j q0 q1
        by_cases z : j = c - 1
        · refine ⟨b, k, ⟨a1.1, by omega, by omega⟩, a2, hr, a4, Or.inr ⟨by omega, z⟩, (e0 j).trans a6, (e2 j).trans a7, ?_, by rw [z]; exact e1'⟩
          rw [← a7, z, h7'.2.2]
          exact hJk.2.2.2.symm
        · exact ⟨b, l, ⟨a1.1, a1.2.1, by omega⟩, a2, a3, a4, Or.inl (a5.elim id (fun w => absurd w.2 z)), (e0 j).trans a6, (e2 j).trans a7, a8, (e1 j z).trans a9⟩
      · rcases (by omega : e < k ∨ e = k) with z | z
        · obtain ⟨j, a1, a2, a3⟩ := h3 e q0 z q2 q3
          exact ⟨j, a1, (e0 j).trans a2, (e2 j).trans a3⟩
        · rw [z] at q3; exact absurd hj.1 q3
      · rcases (by omega : e < k ∨ e = k) with z | z
        · have q3' : ¬ J e := q3.elim id (fun w => absurd w (by omega))
          obtain ⟨j, a1, a2, a3⟩ := h4 e q0 z q2 (Or.inl q3')
          refine ⟨j, a1, (e1 j fun y => ?_).trans a2, (e2 j).trans a3⟩
          rw [y, h7'.2.1] at a2
          have hbe := hbg e q0 (by omega)
          rw [← hbe.1] at a2
          have : e + 1 = k := by
            rcases (by omega : e + 1 < k ∨ e + 1 = k) with w | w
            · have := hmo (e + 1) k (by omega) w (by omega); omega
            · exact w
          rw [show k - 1 = e by omega] at hj
          exact q3' hj.1
        · exact ⟨c - 1, ⟨by omega, by show c - 1 < c; omega⟩, by rw [z]; exact e1', by rw [z]; exact (e2 _).trans (h7'.2.2.trans hJk.2.2.2)⟩
      · have q1 : j + 1 < c := q1
        show zR S 1 (c - 1) (bg k + tk k) 1 j ≤ zR S 1 (c - 1) (bg k + tk k) 0 (j + 1)
        rw [e1 j (by omega), e0]
        exact h5 j q0 q1
      · have q1 : j < c := q1
        have a := h6 j q0 q1
        show zR S 1 (c - 1) (bg k + tk k) 0 j < zR S 1 (c - 1) (bg k + tk k) 1 j ∧ zR S 1 (c - 1) (bg k + tk k) 1 j ≤ bg (k + 1)
        rw [e0]
        by_cases z : j = c - 1
        · rw [z, e1', hb.1]; rw [z] at a; omega
        · rw [e1 j z, hb.1]; omega
      · show 0 < c ∧ zR S 1 (c - 1) (bg k + tk k) 1 (c - 1) = bg (k + 1) ∧ zR S 1 (c - 1) (bg k + tk k) 2 (c - 1) = tn (k + 1 - 1)
        rw [e1', e2, h7'.2.2, hb.1, show k + 1 - 1 = k by omega]
        exact ⟨hj.2, rfl, hJk.2.2.2⟩
    · rw [if_neg hj]
      have hnj : ¬ J (k - 1) := fun z => hj ⟨z, (h7 (by have := (hJ _ z).1; omega) (hJ _ z).2.2.1).1⟩
      have g : ∀ w j, j ≠ c → zR (zR (zR S 0 c (bg k)) 2 c (tn k)) 1 c (bg k + tk k) w j = S w j := fun w j q => (zR_n (Or.inr q)).trans ((zR_n (Or.inr q)).trans (zR_n (Or.inr q)))
      have g0 : zR (zR (zR S 0 c (bg k)) 2 c (tn k)) 1 c (bg k + tk k) 0 c = bg k := (zR_n (Or.inl (by decide))).trans ((zR_n (Or.inl (by decide))).trans (zR_s _ _ _ _))
      have g2 : zR (zR (zR S 0 c (bg k)) 2 c (tn k)) 1 c (bg k + tk k) 2 c = tn k := (zR_n (Or.inl (by decide))).trans (zR_s _ _ _ _)
      have g1 : zR (zR (zR S 0 c (bg k)) 2 c (tn k)) 1 c (bg k + tk k) 1 c = bg k + tk k := zR_s _ _ _ _
      generalize zR (zR (zR S 0 c (bg k)) 2 c (tn k)) 1 c (bg k + tk k) = S' at g g0 g1 g2
      refine ⟨⟨by show 0 ≤ c + 1; omega, by show c + 1 ≤ k + 1; omega⟩, fun j q0 q1 => ?_, fun e q0 q1 q2 q3 => ?_, fun e q0 q1 q2 q3 => ?_, fun j q0 q1 => ?_, fun j q0 q1 => ?_, fun q0 q1 => ?_⟩
      · have q1 : j < c + 1 := q1
        by_cases z : j = c
        · subst z
          exact ⟨k, k, ⟨hk.1, Int.le_refl k, by omega⟩, hr, hr, hnj, Or.inr ⟨by omega, by show j = j + 1 - 1; omega⟩, g0, g2, rfl, g1⟩
        · obtain ⟨b, l, a1, a2, a3, a4, a5, a6, a7, a8, a9⟩ := h2 j q0 (by omega)
          refine ⟨b, l, ⟨a1.1, a1.2.1, by omega⟩, a2, a3, a4, Or.inl ?_, (g 0 j z).trans a6, (g 2 j z).trans a7, a8, (g 1 j z).trans a9⟩
          rcases a5 with a5 | a5
          · exact a5
          · rw [a5.1]; exact hnj
      · rcases (by omega : e < k ∨ e = k) with z | z
        · obtain ⟨j, a1, a2, a3⟩ := h3 e q0 z q2 q3
          exact ⟨j, ⟨a1.1, by show j < c + 1; omega⟩, (g 0 j (by omega)).trans a2, (g 2 j (by omega)).trans a3⟩
        · subst z
          exact ⟨c, ⟨h1.1, by show c < c + 1; omega⟩, g0, g2⟩
      · rcases (by omega : e < k ∨ e = k) with z | z
        · obtain ⟨j, a1, a2, a3⟩ := h4 e q0 z q2 (Or.inl (q3.elim id (fun w => absurd w (by omega))))
          exact ⟨j, ⟨a1.1, by show j < c + 1; omega⟩, (g 1 j (by omega)).trans a2, (g 2 j (by omega)).trans a3⟩
        · subst z
          exact ⟨c, ⟨h1.1, by show c < c + 1; omega⟩, g1, g2⟩
      · have q1 : j + 1 < c + 1 := q1
        show S' 1 j ≤ S' 0 (j + 1)
        rw [g 1 j (by omega)]
        by_cases z : j + 1 = c
        · rw [z, g0]; exact (h6 j q0 (by omega)).2
        · rw [g 0 _ z]; exact h5 j q0 (by omega)
      · have q1 : j < c + 1 := q1
        show S' 0 j < S' 1 j ∧ S' 1 j ≤ bg (k + 1)
        rw [hb.1]
        by_cases z : j = c
        · subst z; rw [g0, g1]; omega
        · rw [g 0 j z, g 1 j z]; have := h6 j q0 (by omega); omega
      · show 0 < c + 1 ∧ S' 1 (c + 1 - 1) = bg (k + 1) ∧ S' 2 (c + 1 - 1) = tn (k + 1 - 1)
        rw [show c + 1 - 1 = c by omega, show k + 1 - 1 = k by omega, g1, g2, hb.1]
        exact ⟨by omega, rfl, rfl⟩
theorem SI_all [DecidablePred J] (hJ : ∀ i, J i → 0 ≤ i ∧ i + 1 < n ∧ ¬ tn i = -1 ∧ tn i = tn (i + 1)) (hbg : ∀ i, 0 ≤ i → i < n → bg (i + 1) = bg i + tk i ∧ 0 < tk i) (hmo : ∀ i j, 0 ≤ i → i < j → j ≤ n → bg i < bg j) (S : Nat → Int → Int) : ∀ k : Nat, (k : Int) ≤ n → SI J tn bg tk k (pf (0, S) (soG J tn bg tk) k).1 (pf (0, S) (soG J tn bg tk) k).2 := by
  intro k
  induction k with
  | zero =>
    intro _
    exact ⟨⟨Int.le_refl 0, Int.le_refl 0⟩, fun j q0 q1 => absurd (show j < 0 from q1) (by omega), fun e q0 q1 => absurd q1 (by omega), fun e q0 q1 => absurd q1 (by omega), fun j q0 q1 => absurd (show j + 1 < 0 from q1) (by omega), fun j q0 q1 => absurd (show j < 0 from q1) (by omega), fun q0 => absurd q0 (by decide)⟩
  | succ k ih =>
    intro hk
    have q := ih (by omega)
    rw [show ((k + 1 : Nat) : Int) = (k : Int) + 1 by omega, show pf (0, S) (soG J tn bg tk) ((k : Int) + 1) = soG J tn bg tk k (pf (0, S) (soG J tn bg tk) k) from pf_s _ _ (by omega)]
    exact SI_step hJ hbg hmo ⟨by omega, by omega⟩ q
/-- what a voice's sounds are, at its end -/
def SD (J : Int → Prop) (tn bg tk : Int → Int) (n c : Int) (S : Nat → Int → Int) : Prop :=
  (0 ≤ c ∧ c ≤ n) ∧
  (∀ j, 0 ≤ j → j < c → (∃ b, (0 ≤ b ∧ b < n) ∧ ¬ tn b = -1 ∧ ¬ J (b - 1) ∧ S 0 j = bg b ∧ S 2 j = tn b) ∧ ∃ l, (0 ≤ l ∧ l < n) ∧ ¬ tn l = -1 ∧ ¬ J l ∧ S 1 j = bg l + tk l ∧ S 2 j = tn l) ∧
  (∀ e, 0 ≤ e → e < n → ¬ tn e = -1 → ¬ J (e - 1) → ∃ j, (0 ≤ j ∧ j < c) ∧ S 0 j = bg e ∧ S 2 j = tn e) ∧
  (∀ e, 0 ≤ e → e < n → ¬ tn e = -1 → ¬ J e → ∃ j, (0 ≤ j ∧ j < c) ∧ S 1 j = bg e + tk e ∧ S 2 j = tn e) ∧
  (∀ j, 0 ≤ j → j + 1 < c → S 1 j ≤ S 0 (j + 1)) ∧ (∀ j, 0 ≤ j → j < c → S 0 j < S 1 j ∧ S 1 j ≤ bg n)
theorem SD_of [DecidablePred J] (hJ : ∀ i, J i → 0 ≤ i ∧ i + 1 < n ∧ ¬ tn i = -1 ∧ tn i = tn (i + 1)) (hbg : ∀ i, 0 ≤ i → i < n → bg (i + 1) = bg i + tk i ∧ 0 < tk i) (hmo : ∀ i j, 0 ≤ i → i < j → j ≤ n → bg i < bg j) (hn : 0 ≤ n) (S : Nat → Int → Int) : SD J tn bg tk n (pf (0, S) (soG J tn bg tk) n).1 (pf (0, S) (soG J tn bg tk) n).2 := by
  have h := SI_all hJ hbg hmo S n.toNat (by omega)
  rw [Int.toNat_of_nonneg hn] at h
  obtain ⟨h1, h2, h3, h4, h5, h6, -⟩ := h
  refine ⟨h1, fun j q0 q1 => ?_, h3, fun e q0 q1 q2 q3 => h4 e q0 q1 q2 (Or.inl q3), h5, h6⟩
  obtain ⟨b, l, a1, a2, a3, a4, a5, a6, a7, a8, a9⟩ := h2 j q0 q1
  refine ⟨⟨b, ⟨a1.1, by omega⟩, a2, a4, a6, a7⟩, l, ⟨by omega, a1.2.2⟩, a3, ?_, a9, a7.trans a8.symm⟩
  rcases a5 with a5 | a5
  · exact a5
  · intro z; have := (hJ l z).2.1; omega
end SO9
