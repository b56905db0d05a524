/-! the relation stays: what is added -/
section RA9
variable {F : Nat → Int} {E : Nat → Int → Int} {T P S Av : Int → Nat → Int → Int} {Fv : Int → Nat → Int} {FM : Nat → Int} {A A' : Nat → Int → Int} {B B' : Int → Int → Int}
theorem ap_row {bar K : Int} {pc ce : Int → Int} {T : Nat → Int → Int} {Fq : Nat → Int} (h0 : ce 0 = Fq 1) (hs : ∀ j, 0 ≤ j → j < K → ce (j + 1) = ce j + valT (pc j)) : ∀ k : Nat, (k : Int) ≤ K →
    ((apF bar pc T Fq k).2 0 = Fq 0 + k ∧ (apF bar pc T Fq k).2 1 = ce k) ∧ (∀ i w, i < Fq 0 → (apF bar pc T Fq k).1 w i = T w i) ∧
    ∀ j, 0 ≤ j → j < (k : Int) → (apF bar pc T Fq k).1 0 (Fq 0 + j) = ce j ∧ (apF bar pc T Fq k).1 1 (Fq 0 + j) = valT (pc j) ∧ (apF bar pc T Fq k).1 2 (Fq 0 + j) = valP (pc j) ∧ (apF bar pc T Fq k).1 3 (Fq 0 + j) = valD (pc j) ∧ (apF bar pc T Fq k).1 4 (Fq 0 + j) = -1 ∧ (apF bar pc T Fq k).1 5 (Fq 0 + j) = 0 ∧ (apF bar pc T Fq k).1 6 (Fq 0 + j) = ce j / bar := by
  intro k
  induction k with
  | zero =>
    intro _
    exact ⟨⟨(Int.add_zero _).symm, h0.symm⟩, fun i w _ => rfl, fun j j0 j1 => absurd j1 (by omega)⟩
  | succ k ih =>
    intro hk
    have q := ih (by omega)
    have sk := hs (k : Int) (by omega) (by omega)
    rw [show ((k + 1 : Nat) : Int) = (k : Int) + 1 by omega, apF_s bar pc T Fq (i := (k : Int)) (by omega)]
    generalize apF bar pc T Fq (k : Int) = z at q
    obtain ⟨T1, F1⟩ := z
    obtain ⟨⟨q1, q2⟩, q3, q4⟩ := q
    dsimp only at q1 q2 q3 q4
    have off : ∀ w i, i ≠ F1 0 → (apS bar (pc (k : Int)) (T1, F1)).1 w i = T1 w i := fun w i c => by simp [apS, zR, c]
    refine ⟨⟨?_, ?_⟩, fun i w hi => ?_, fun j j0 j1 => ?_⟩
    · show F1 0 + 1 = _; omega
    · show F1 1 + valT (pc (k : Int)) = _; rw [sk, q2]
    · rw [off w i (by omega)]; exact q3 i w hi
    · by_cases c : j = (k : Int)
      · rw [c, ← q1]
        refine ⟨?_, ?_, ?_, ?_, ?_, ?_, ?_⟩
        · rw [← q2]; simp [apS, zR]
        · simp [apS, zR]
        · simp [apS, zR]
        · simp [apS, zR]
        · simp [apS, zR]
        · simp [apS, zR]
        · rw [← q2]; simp [apS, zR]
      · have ne : Fq 0 + j ≠ F1 0 := by omega
        rw [off 0 _ ne, off 1 _ ne, off 2 _ ne, off 3 _ ne, off 4 _ ne, off 5 _ ne, off 6 _ ne]
        exact q4 j j0 (by omega)
theorem an_row {n0 n1 st sg oc t : Int} {T P : Nat → Int → Int} : ∀ k : Nat, (∀ i w, (i < n0 ∨ (k : Int) ≤ i) → (anF n0 n1 st sg oc t T P k).1 w i = T w i ∧ (anF n0 n1 st sg oc t T P k).2 w i = P w i) ∧
    ∀ i, n0 ≤ i → i < (k : Int) → 0 ≤ i → (anF n0 n1 st sg oc t T P k).1 4 i = toneF st sg oc ∧ (anF n0 n1 st sg oc t T P k).1 5 i = (if t = 0 ∧ i = n1 - 1 then 0 else 1) ∧ (∀ w, w ≠ 4 → w ≠ 5 → (anF n0 n1 st sg oc t T P k).1 w i = T w i) ∧ (anF n0 n1 st sg oc t T P k).2 0 i = st ∧ (anF n0 n1 st sg oc t T P k).2 1 i = sg ∧ (anF n0 n1 st sg oc t T P k).2 2 i = oc := by
  intro k
  induction k with
  | zero => exact ⟨fun i w _ => ⟨rfl, rfl⟩, fun i i0 i1 i2 => absurd i1 (by omega)⟩
  | succ k ih =>
    rw [show ((k + 1 : Nat) : Int) = (k : Int) + 1 by omega, anF_s n0 n1 st sg oc t T P (i := (k : Int)) (by omega)]
    generalize anF n0 n1 st sg oc t T P (k : Int) = z at ih
    obtain ⟨T1, P1⟩ := z
    obtain ⟨q1, q2⟩ := ih
    dsimp only at q1 q2
    unfold anS
    by_cases c : (k : Int) < n0
    · rw [if_pos c]
      refine ⟨fun i w hi => q1 i w (by omega), fun i i0 i1 i2 => q2 i i0 (by omega) i2⟩
    · rw [if_neg c]
      generalize hx9 : (if t = 0 ∧ (k : Int) = n1 - 1 then (0 : Int) else 1) = x9
      have o1 : ∀ w i, i ≠ (k : Int) → zR (zR T1 4 (k : Int) (toneF st sg oc)) 5 (k : Int) x9 w i = T1 w i := fun w i d => by rw [zR_n (Or.inr d), zR_n (Or.inr d)]
      have o2 : ∀ w i, i ≠ (k : Int) → zR (zR (zR P1 0 (k : Int) st) 1 (k : Int) sg) 2 (k : Int) oc w i = P1 w i := fun w i d => by rw [zR_n (Or.inr d), zR_n (Or.inr d), zR_n (Or.inr d)]
      refine ⟨fun i w hi => ?_, fun i i0 i1 i2 => ?_⟩
      · have d : i ≠ (k : Int) := by omega
        show zR (zR T1 4 (k : Int) (toneF st sg oc)) 5 (k : Int) x9 w i = T w i ∧ zR (zR (zR P1 0 (k : Int) st) 1 (k : Int) sg) 2 (k : Int) oc w i = P w i
        rw [o1 w i d, o2 w i d]
        exact q1 i w (by omega)
      · show zR (zR T1 4 (k : Int) (toneF st sg oc)) 5 (k : Int) x9 4 i = _ ∧ zR (zR T1 4 (k : Int) (toneF st sg oc)) 5 (k : Int) x9 5 i = _ ∧ (∀ w, w ≠ 4 → w ≠ 5 → zR (zR T1 4 (k : Int) (toneF st sg oc)) 5 (k : Int) x9 w i = T w i) ∧ zR (zR (zR P1 0 (k : Int) st) 1 (k : Int) sg) 2 (k : Int) oc 0 i = st ∧ zR (zR (zR P1 0 (k : Int) st) 1 (k : Int) sg) 2 (k : Int) oc 1 i = sg ∧ zR (zR (zR P1 0 (k : Int) st) 1 (k : Int) sg) 2 (k : Int) oc 2 i = oc
        by_cases d : i = (k : Int)
        · rw [d]
          refine ⟨?_, ?_, fun w w4 w5 => ?_, ?_, ?_, ?_⟩
          · rw [zR_n (Or.inl (by decide)), zR_s]
          · rw [zR_s]; exact hx9.symm
          · rw [zR_n (Or.inl w5), zR_n (Or.inl w4)]; exact (q1 (k : Int) w (Or.inr (Int.le_refl _))).1
          · rw [zR_n (Or.inl (by decide)), zR_n (Or.inl (by decide)), zR_s]
          · rw [zR_n (Or.inl (by decide)), zR_s]
          · rw [zR_s]
        · simp only [o1 _ i d, o2 _ i d]
          exact q2 i i0 (by omega) i2
/-- a voice with N new elements: pc their values' numbers, ce their beginnings -/
theorem add_BR {bar v N en : Int} {T P T' P' : Nat → Int → Int} {Fq F' : Nat → Int} {pc ce : Int → Int} (h : BR bar T P Fq A B v) (hn : 0 ≤ A 0 v) (hN : 1 ≤ N) (hA : A' 0 v = A 0 v + N)
    (hold : ∀ e, 0 ≤ e → e < A 0 v → ∀ w, 0 ≤ w → w < 7 → B' v (10 * e + w) = B v (10 * e + w)) (hT : ∀ e, 0 ≤ e → e < A 0 v → ∀ w, T' w e = T w e ∧ P' w e = P w e)
    (hF0 : F' 0 = A 0 v + N) (hF1 : F' 1 = en) (hen : en ≤ 100 * bar) (hc0 : ce 0 = bgM B v (A 0 v)) (hcN : ce N = en)
    (hpc : ∀ j, 0 ≤ j → j < N → (0 ≤ pc j ∧ pc j < 15) ∧ ce (j + 1) = ce j + valT (pc j) ∧ ce j / bar = (ce (j + 1) - 1) / bar)
    (hrow : ∀ j, 0 ≤ j → j < N → T' 0 (A 0 v + j) = ce j ∧ T' 1 (A 0 v + j) = valT (pc j) ∧ T' 2 (A 0 v + j) = valP (pc j) ∧ T' 3 (A 0 v + j) = valD (pc j) ∧ T' 6 (A 0 v + j) = ce j / bar)
    (hB : ∀ j, 0 ≤ j → j < N → B' v (10 * (A 0 v + j) + 0) = valP (pc j) ∧ B' v (10 * (A 0 v + j) + 1) = valD (pc j))
    (hk : ∀ j, 0 ≤ j → j < N → T' 4 (A 0 v + j) = mTn B' v (A 0 v + j) ∧ T' 5 (A 0 v + j) = B' v (10 * (A 0 v + j) + 6) ∧ (¬ B' v (10 * (A 0 v + j) + 2) = 0 → (P' 0 (A 0 v + j) = B' v (10 * (A 0 v + j) + 3) ∧ P' 1 (A 0 v + j) = B' v (10 * (A 0 v + j) + 4) ∧ P' 2 (A 0 v + j) = B' v (10 * (A 0 v + j) + 5)) ∧ 0 ≤ mTn B' v (A 0 v + j)) ∧ (B' v (10 * (A 0 v + j) + 2) = 0 → B' v (10 * (A 0 v + j) + 6) = 0)) : BR bar T' P' F' A' B' v := by
  have hbs := bg_same hold
  have tk : ∀ j, 0 ≤ j → j < N → mTk B' v (A 0 v + j) = valT (pc j) := fun j j0 j1 => by
    unfold mTk
    rw [(hB j j0 j1).1, (hB j j0 j1).2]
    exact tkO_val (hpc j j0 j1).1
  have bgn : ∀ k : Nat, (k : Int) ≤ N → bgM B' v (A 0 v + k) = ce k := by
    intro k
    induction k with
    | zero => intro _; rw [show A 0 v + ((0 : Nat) : Int) = A 0 v by omega, hbs _ (Int.le_refl _)]; exact hc0.symm
    | succ k ih =>
      intro hk9
      have q := ih (by omega)
      rw [show A 0 v + ((k + 1 : Nat) : Int) = A 0 v + (k : Int) + 1 by omega, bgM_s B' v (by omega), q, tk (k : Int) (by omega) (by omega), show ((k + 1 : Nat) : Int) = (k : Int) + 1 by omega]
      exact (hpc (k : Int) (by omega) (by omega)).2.1.symm
  have bgN := bgn N.toNat (by omega)
  rw [Int.toNat_of_nonneg (by omega)] at bgN
  refine ⟨by rw [hA]; exact hF0, by rw [hA, bgN, hcN]; exact hF1, by rw [hA, bgN, hcN]; exact hen, fun e e0 e1 => ?_⟩
  rw [hA] at e1
  rcases (by omega : e < A 0 v ∨ A 0 v ≤ e) with c | c
  · have s := hold e e0 c
    obtain ⟨⟨t0, t1, t2, t3, t4, t5, t6⟩, hn9, hr, hb9⟩ := h.2.2.2 e e0 c
    unfold BRe
    rw [hbs e (by omega), hbs (e + 1) (by omega), tk_same s, tn_same s, s 0 (by decide) (by decide), s 1 (by decide) (by decide), s 2 (by decide) (by decide), s 3 (by decide) (by decide), s 4 (by decide) (by decide), s 5 (by decide) (by decide), s 6 (by decide) (by decide), (hT e e0 c 0).1, (hT e e0 c 1).1, (hT e e0 c 2).1, (hT e e0 c 3).1, (hT e e0 c 4).1, (hT e e0 c 5).1, (hT e e0 c 6).1, (hT e e0 c 0).2, (hT e e0 c 1).2, (hT e e0 c 2).2]
    exact ⟨⟨t0, t1, t2, t3, t4, t5, t6⟩, hn9, hr, hb9⟩
  · obtain ⟨j, rfl⟩ : ∃ j, e = A 0 v + j := ⟨e - A 0 v, by omega⟩
    have j0 : 0 ≤ j := by omega
    have j1 : j < N := by omega
    have b0 := bgn j.toNat (by omega)
    have b1 := bgn (j + 1).toNat (by omega)
    rw [Int.toNat_of_nonneg j0] at b0
    rw [Int.toNat_of_nonneg (by omega), ← Int.add_assoc] at b1
    obtain ⟨r0, r1, r2, r3, r6⟩ := hrow j j0 j1
    obtain ⟨k4, k5, k6, k7⟩ := hk j j0 j1
    refine ⟨⟨by rw [b0]; exact r0, by rw [tk j j0 j1]; exact r1, by rw [(hB j j0 j1).1]; exact r2, by rw [(hB j j0 j1).2]; exact r3, k4, k5, by rw [b0]; exact r6⟩, k6, k7, ?_⟩
    rw [b0, b1]
    exact (hpc j j0 j1).2.2
/-- the model's table with N new elements -/
theorem add_MOK {v N : Int} {sd pc : Int → Int} (hM : MOK FM A B) (hv : 0 ≤ v ∧ v < 4) (hN : 1 ≤ N) (hful : A 0 v + N ≤ 200) (hA : ∀ u, A' 0 u = if u = v then A 0 v + N else A 0 u)
    (hB : ∀ u e w, 0 ≤ w → w < 7 → (¬ (u = v ∧ A 0 v ≤ e ∧ e < A 0 v + N)) → B' u (10 * e + w) = B u (10 * e + w)) (hpc : ∀ j, 0 ≤ j → j < N → 0 ≤ pc j ∧ pc j < 15)
    (hB0 : ∀ j, 0 ≤ j → j < N → B' v (10 * (A 0 v + j) + 0) = valP (pc j) ∧ B' v (10 * (A 0 v + j) + 1) = valD (pc j) ∧ (0 ≤ B' v (10 * (A 0 v + j) + 2) ∧ B' v (10 * (A 0 v + j) + 2) ≤ 1) ∧ (0 ≤ B' v (10 * (A 0 v + j) + 3) ∧ B' v (10 * (A 0 v + j) + 3) < 7) ∧ (-2 ≤ B' v (10 * (A 0 v + j) + 4) ∧ B' v (10 * (A 0 v + j) + 4) ≤ 2) ∧ (0 ≤ B' v (10 * (A 0 v + j) + 5) ∧ B' v (10 * (A 0 v + j) + 5) < 9) ∧ (0 ≤ B' v (10 * (A 0 v + j) + 6) ∧ B' v (10 * (A 0 v + j) + 6) ≤ 1)) : MOK FM A' B' := by
  obtain ⟨m1, m2, m3, m4, m5⟩ := hM
  refine ⟨m1, m2, m3, m4, fun u u0 u1 => ?_⟩
  obtain ⟨a, b⟩ := m5 u u0 u1
  have g : ∀ e, (¬ (u = v ∧ A 0 v ≤ e ∧ e < A 0 v + N)) → 0 ≤ e → e < A 0 u → VK (B' u (10 * e + 0)) (B' u (10 * e + 1)) ∧ (0 ≤ B' u (10 * e + 2) ∧ B' u (10 * e + 2) ≤ 1) ∧ (0 ≤ B' u (10 * e + 3) ∧ B' u (10 * e + 3) < 7) ∧ (-2 ≤ B' u (10 * e + 4) ∧ B' u (10 * e + 4) ≤ 2) ∧ (0 ≤ B' u (10 * e + 5) ∧ B' u (10 * e + 5) < 9) ∧ (0 ≤ B' u (10 * e + 6) ∧ B' u (10 * e + 6) ≤ 1) := fun e c e0 e1 => by
    rw [hB u e 0 (by decide) (by decide) c, hB u e 1 (by decide) (by decide) c, hB u e 2 (by decide) (by decide) c, hB u e 3 (by decide) (by decide) c, hB u e 4 (by decide) (by decide) c, hB u e 5 (by decide) (by decide) c, hB u e 6 (by decide) (by decide) c]
    exact b e e0 e1
  rw [hA u]
  by_cases c : u = v
  · rw [if_pos c]
    subst c
    refine ⟨by omega, fun e e0 e1 => ?_⟩
    rcases (by omega : e < A 0 u ∨ A 0 u ≤ e) with d | d
    · exact g e (by omega) e0 d
    · obtain ⟨j, rfl⟩ : ∃ j, e = A 0 u + j := ⟨e - A 0 u, by omega⟩
      obtain ⟨q1, q2, q3⟩ := hB0 j (by omega) (by omega)
      exact ⟨⟨pc j, hpc j (by omega) (by omega), q1.symm, q2.symm⟩, q3⟩
  · rw [if_neg c]
    exact ⟨a, fun e e0 e1 => g e (fun z => c z.1) e0 e1⟩
end RA9
