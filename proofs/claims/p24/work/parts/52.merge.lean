/-! events in their order: rows told by four functions -/
def kyE (x v b : Int → Int) (i : Int) : Int := 4 * (2 * x i + b i) + v i
def ENUM (X : Int → Int → Int → Int → Prop) (m : Int) (x v t b : Int → Int) : Prop :=
  (∀ i, 0 ≤ i → i + 1 < m → kyE x v b i < kyE x v b (i + 1)) ∧ (∀ i, 0 ≤ i → i < m → X (x i) (v i) (t i) (b i)) ∧
  (∀ x' v' t' b', X x' v' t' b' → ∃ i, (0 ≤ i ∧ i < m) ∧ x i = x' ∧ v i = v' ∧ t i = t' ∧ b i = b')
theorem inc_lt {f : Int → Int} {m : Int} (h : ∀ i, 0 ≤ i → i + 1 < m → f i < f (i + 1)) : ∀ i j, 0 ≤ i → i < j → j < m → f i < f j := by
  intro i j h0 h1 h2
  obtain ⟨k, rfl⟩ : ∃ k : Nat, j = i + 1 + (k : Int) := ⟨(j - i - 1).toNat, by omega⟩
  induction k with
  | zero =>
    rw [show i + 1 + ((0 : Nat) : Int) = i + 1 by omega]
    exact h i h0 (by omega)
  | succ k ih =>
    have q := ih (by omega) (by omega)
    have r := h (i + 1 + (k : Int)) (by omega) (by omega)
    rw [show i + 1 + ((k + 1 : Nat) : Int) = i + 1 + (k : Int) + 1 by omega]
    omega
theorem inc_eq {f g : Int → Int} {m : Int} (hf : ∀ i, 0 ≤ i → i + 1 < m → f i < f (i + 1)) (hg : ∀ i, 0 ≤ i → i + 1 < m → g i < g (i + 1)) (h1 : ∀ i, 0 ≤ i → i < m → ∃ j, (0 ≤ j ∧ j < m) ∧ f i = g j) (h2 : ∀ i, 0 ≤ i → i < m → ∃ j, (0 ≤ j ∧ j < m) ∧ g i = f j) : ∀ i, 0 ≤ i → i < m → f i = g i := by
  have main : ∀ n : Nat, (n : Int) < m → ∀ k, 0 ≤ k → k ≤ (n : Int) → f k = g k := by
    intro n
    induction n with
    | zero =>
      intro hm k h0 h9
      have hk : k = 0 := by omega
      subst hk
      obtain ⟨j, hj, e1⟩ := h1 0 (by omega) (by omega)
      obtain ⟨l, hl, e2⟩ := h2 0 (by omega) (by omega)
      have a : g 0 ≤ g j := by
        rcases (by omega : j = 0 ∨ 0 < j) with z | z
        · rw [z]; exact Int.le_refl _
        · have := inc_lt hg 0 j (by omega) z hj.2; omega
      have b : f 0 ≤ f l := by
        rcases (by omega : l = 0 ∨ 0 < l) with z | z
        · rw [z]; exact Int.le_refl _
        · have := inc_lt hf 0 l (by omega) z hl.2; omega
      omega
    | succ n ih =>
      intro hm k h0 h9
      rcases (by omega : k ≤ (n : Int) ∨ k = (n : Int) + 1) with z | z
      · exact ih (by omega) k h0 z
      · obtain ⟨j, hj, e1⟩ := h1 k h0 (by omega)
        obtain ⟨l, hl, e2⟩ := h2 k h0 (by omega)
        have a : g k ≤ g j := by
          rcases (by omega : j < k ∨ j = k ∨ k < j) with y | y | y
          · have p := ih (by omega) j hj.1 (by omega)
            have q := inc_lt hf j k hj.1 y (by omega)
            omega
          · rw [y]; exact Int.le_refl _
          · have := inc_lt hg k j h0 y hj.2; omega
        have b : f k ≤ f l := by
          rcases (by omega : l < k ∨ l = k ∨ k < l) with y | y | y
          · have p := ih (by omega) l hl.1 (by omega)
            have q := inc_lt hg l k hl.1 y (by omega)
            omega
          · rw [y]; exact Int.le_refl _
          · have := inc_lt hf k l h0 y hl.2; omega
        omega
  intro i h0 h9
  exact main i.toNat (by omega) i h0 (by omega)
theorem enum_eq {X : Int → Int → Int → Int → Prop} {m : Int} {x v t b x' v' t' b' : Int → Int} (hr : ∀ x v t b, X x v t b → (0 ≤ v ∧ v < 4) ∧ (b = 0 ∨ b = 1)) (hu : ∀ x v t s b, X x v t b → X x v s b → t = s) (h : ENUM X m x v t b) (h' : ENUM X m x' v' t' b') : ∀ i, 0 ≤ i → i < m → x i = x' i ∧ v i = v' i ∧ t i = t' i ∧ b i = b' i := by
  have q := inc_eq h.1 h'.1 (fun i h0 h1 => by
    obtain ⟨j, hj, e1, e2, e3, e4⟩ := h'.2.2 _ _ _ _ (h.2.1 i h0 h1)
    exact ⟨j, hj, by unfold kyE; rw [e1, e2, e4]⟩) (fun i h0 h1 => by
    obtain ⟨j, hj, e1, e2, e3, e4⟩ := h.2.2 _ _ _ _ (h'.2.1 i h0 h1)
    exact ⟨j, hj, by unfold kyE; rw [e1, e2, e4]⟩)
  intro i h0 h1
  have a := h.2.1 i h0 h1
  have c := h'.2.1 i h0 h1
  have ra := hr _ _ _ _ a
  have rc := hr _ _ _ _ c
  have e := q i h0 h1
  unfold kyE at e
  have e1 : x i = x' i := by omega
  have e2 : v i = v' i := by omega
  have e4 : b i = b' i := by omega
  refine ⟨e1, e2, ?_, e4⟩
  rw [e1, e2, e4] at a
  exact hu _ _ _ _ _ a c
section MG9
variable {Fv : Int → Nat → Int} {S : Int → Nat → Int → Int} {n : Int}
/-- the class's merge: what is told of each voice -/
def smE (dn : Int → Int) : Int → Int := pf 0 (fun v a => a + dn v)
theorem smE_s (dn : Int → Int) {v : Int} (h : 0 ≤ v) : smE dn (v + 1) = smE dn v + dn v := pf_s _ _ h
theorem smE_up (dn : Int → Int) {f : Int} : ∀ k : Nat, smE (zU dn f (dn f + 1)) k = smE dn k + (if 0 ≤ f ∧ f < (k : Int) then 1 else 0) := by
  intro k
  induction k with
  | zero => rw [if_neg (by omega)]; rfl
  | succ k ih =>
    rw [show ((k + 1 : Nat) : Int) = (k : Int) + 1 by omega, smE_s _ (by omega), smE_s _ (by omega), ih]
    by_cases e : (k : Int) = f
    · rw [← e, zU_s, if_neg (by omega), if_pos (by omega)]; omega
    · rw [zU_n e]
      by_cases c : 0 ≤ f ∧ f < (k : Int)
      · rw [if_pos c, if_pos (by omega)]; omega
      · rw [if_neg c, if_neg (by omega)]; omega
theorem smE_le {dn : Int → Int} : ∀ k : Nat, (∀ u, 0 ≤ u → u < (k : Int) → 2 * Fv u 2 ≤ dn u) → 2 * nSou Fv k ≤ smE dn k := by
  intro k
  induction k with
  | zero => intro _; exact Int.le_refl _
  | succ k ih =>
    intro h
    have q := ih (fun u h0 h1 => h u h0 (by omega))
    have r := h (k : Int) (by omega) (by omega)
    have s : nSou Fv ((k : Int) + 1) = nSou Fv (k : Int) + Fv (k : Int) 2 := pf_s _ _ (by omega)
    rw [show ((k + 1 : Nat) : Int) = (k : Int) + 1 by omega, smE_s _ (by omega), s]
    omega
theorem smE_full {dn : Int → Int} : ∀ k : Nat, (∀ u, 0 ≤ u → u < (k : Int) → dn u ≤ 2 * Fv u 2) → smE dn k ≤ 2 * nSou Fv k ∧ (smE dn k = 2 * nSou Fv k → ∀ u, 0 ≤ u → u < (k : Int) → dn u = 2 * Fv u 2) := by
  intro k
  induction k with
  | zero => intro _; exact ⟨Int.le_refl _, fun _ u h0 h1 => absurd h1 (by omega)⟩
  | succ k ih =>
    intro h
    obtain ⟨q1, q2⟩ := ih (fun u h0 h1 => h u h0 (by omega))
    have r := h (k : Int) (by omega) (by omega)
    have s : nSou Fv ((k : Int) + 1) = nSou Fv (k : Int) + Fv (k : Int) 2 := pf_s _ _ (by omega)
    rw [show ((k + 1 : Nat) : Int) = (k : Int) + 1 by omega, smE_s _ (by omega), s]
    refine ⟨by omega, fun e u h0 h1 => ?_⟩
    rcases (by omega : u < (k : Int) ∨ u = (k : Int)) with z | z
    · exact q2 (by omega) u h0 z
    · rw [z]; omega
theorem feF_min (dn : Int → Int) : ∀ k : Nat, (∀ u, 0 ≤ u → u < (k : Int) → dn u < 2 * Fv u 2 → 0 ≤ (feF Fv S dn k).1 ∧ ((feF Fv S dn k).2 < rkE S dn u ∨ ((feF Fv S dn k).2 = rkE S dn u ∧ (feF Fv S dn k).1 ≤ u))) ∧ (0 ≤ (feF Fv S dn k).1 → (feF Fv S dn k).1 < (k : Int) ∧ dn (feF Fv S dn k).1 < 2 * Fv (feF Fv S dn k).1 2 ∧ (feF Fv S dn k).2 = rkE S dn (feF Fv S dn k).1) := by
  intro k
  induction k with
  | zero => exact ⟨fun u h0 h1 => absurd h1 (by omega), fun h => absurd (show (0 : Int) ≤ -1 from h) (by decide)⟩
  | succ k ih =>
    rw [show ((k + 1 : Nat) : Int) = (k : Int) + 1 by omega, feF_s Fv S dn (by omega)]
    generalize feF Fv S dn (k : Int) = z at ih
    obtain ⟨i1, i2⟩ := ih
    unfold feS
    by_cases h1 : dn (k : Int) < 2 * Fv (k : Int) 2
    · rw [if_pos h1]
      by_cases h2 : z.1 < 0 ∨ rkE S dn (k : Int) < z.2
      · rw [if_pos h2]
        refine ⟨fun u q0 q1 q2 => ⟨by show 0 ≤ (k : Int); omega, ?_⟩, fun _ => ⟨by show (k : Int) < (k : Int) + 1; omega, h1, rfl⟩⟩
        show rkE S dn (k : Int) < rkE S dn u ∨ (rkE S dn (k : Int) = rkE S dn u ∧ (k : Int) ≤ u)
        rcases (by omega : u < (k : Int) ∨ u = (k : Int)) with y | y
        · have := i1 u q0 y q2; omega
        · rw [y]; exact Or.inr ⟨rfl, Int.le_refl _⟩
      · rw [if_neg h2]
        refine ⟨fun u q0 q1 q2 => ?_, fun q => by have := i2 q; omega⟩
        rcases (by omega : u < (k : Int) ∨ u = (k : Int)) with y | y
        · exact i1 u q0 y q2
        · have := i2 (by omega)
          rw [y]; omega
    · rw [if_neg h1]
      refine ⟨fun u q0 q1 q2 => ?_, fun q => by have := i2 q; omega⟩
      rcases (by omega : u < (k : Int) ∨ u = (k : Int)) with y | y
      · exact i1 u q0 y q2
      · rw [y] at q2; exact absurd q2 h1
/-- the event j of the voice u stands in row k -/
def rowE (S : Int → Nat → Int → Int) (E : Nat → Int → Int) (k u j : Int) : Prop := E 0 k = tkE (S u) j ∧ E 1 k = u ∧ E 2 k = S u 2 (j / 2) ∧ E 3 k = bI (j % 2 = 0)
abbrev kE (E : Nat → Int → Int) : Int → Int := kyE (E 0) (E 1) (E 3)
def MI (Fv : Int → Nat → Int) (S : Int → Nat → Int → Int) (n i : Int) (z : mgT) : Prop :=
  (∀ u, 0 ≤ u → u < n → 0 ≤ z.2 u ∧ z.2 u ≤ 2 * Fv u 2) ∧ smE z.2 n = i ∧ (∀ k, 0 ≤ k → k + 1 < i → kE z.1 k < kE z.1 (k + 1)) ∧
  (∀ k, 0 ≤ k → k < i → ∀ u, 0 ≤ u → u < n → z.2 u < 2 * Fv u 2 → kE z.1 k < 4 * rkE S z.2 u + u) ∧
  (∀ k, 0 ≤ k → k < i → ∃ u j, (0 ≤ u ∧ u < n) ∧ (0 ≤ j ∧ j < z.2 u) ∧ rowE S z.1 k u j) ∧ (∀ u, 0 ≤ u → u < n → ∀ j, 0 ≤ j → j < z.2 u → ∃ k, (0 ≤ k ∧ k < i) ∧ rowE S z.1 k u j)
/-- ranks go up -/
def UPE (S : Nat → Int → Int) (c : Int) : Prop := ∀ j, 0 ≤ j → j + 1 < 2 * c → 2 * tkE S j + bI (j % 2 = 0) < 2 * tkE S (j + 1) + bI ((j + 1) % 2 = 0)
theorem MI_step (hup : ∀ u, 0 ≤ u → u < n → UPE (S u) (Fv u 2)) (hn : 0 ≤ n ∧ n ≤ 4) {i : Int} {z : mgT} (hi : 0 ≤ i ∧ i < 2 * nSou Fv n) (h : MI Fv S n i z) : MI Fv S n (i + 1) (mgS Fv S n i z) := by
  obtain ⟨h1, h2, h3, h4, h5, h6⟩ := h
  have hmin := feF_min (Fv := Fv) (S := S) z.2 n.toNat
  have hle := smE_le (Fv := Fv) (dn := z.2) n.toNat
  have hup1 := fun f => smE_up z.2 (f := f) n.toNat
  rw [Int.toNat_of_nonneg hn.1] at hmin hle
  simp only [Int.toNat_of_nonneg hn.1] at hup1
  have hf : 0 ≤ (feF Fv S z.2 n).1 := Decidable.byContradiction fun c => by
    have := hle (fun u q0 q1 => Decidable.byContradiction fun y => c (hmin.1 u q0 q1 (by omega)).1)
    omega
  unfold mgS
  rw [if_pos hf]
  obtain ⟨f1, f2, f3⟩ := hmin.2 hf
  have hm := hmin.1
  generalize (feF Fv S z.2 n).1 = f at hf f1 f2 f3 hm
  generalize (feF Fv S z.2 n).2 = r at f3 hm
  obtain ⟨E, dn⟩ := z
  dsimp only at h1 h2 h3 h4 h5 h6 hup1 f2 f3 hm ⊢
  have hd := h1 f hf f1
  have g : ∀ w k, k ≠ i → evPut E (S f) i f (dn f) w k = E w k := fun w k q => (zR_n (Or.inr q)).trans ((zR_n (Or.inr q)).trans ((zR_n (Or.inr q)).trans (zR_n (Or.inr q))))
  have g0 : evPut E (S f) i f (dn f) 0 i = tkE (S f) (dn f) := (zR_n (Or.inl (by decide))).trans ((zR_n (Or.inl (by decide))).trans ((zR_n (Or.inl (by decide))).trans (zR_s _ _ _ _)))
  have g1 : evPut E (S f) i f (dn f) 1 i = f := (zR_n (Or.inl (by decide))).trans ((zR_n (Or.inl (by decide))).trans (zR_s _ _ _ _))
  have g2 : evPut E (S f) i f (dn f) 2 i = S f 2 (dn f / 2) := (zR_n (Or.inl (by decide))).trans (zR_s _ _ _ _)
  have g3 : evPut E (S f) i f (dn f) 3 i = bI (dn f % 2 = 0) := zR_s _ _ _ _
  generalize evPut E (S f) i f (dn f) = E' at g g0 g1 g2 g3
  have kk : ∀ k, k ≠ i → kE E' k = kE E k := fun k q => by show 4 * (2 * E' 0 k + E' 3 k) + E' 1 k = 4 * (2 * E 0 k + E 3 k) + E 1 k; rw [g 0 k q, g 1 k q, g 3 k q]
  have ki : kE E' i = 4 * rkE S dn f + f := by show 4 * (2 * E' 0 i + E' 3 i) + E' 1 i = _; rw [g0, g1, g3]; rfl
  have rr : ∀ k u j, k ≠ i → rowE S E k u j → rowE S E' k u j := fun k u j q a => ⟨(g 0 k q).trans a.1, (g 1 k q).trans a.2.1, (g 2 k q).trans a.2.2.1, (g 3 k q).trans a.2.2.2⟩
  have ri : rowE S E' i f (dn f) := ⟨g0, g1, g2, g3⟩
  have e1 : zU dn f (dn f + 1) f = dn f + 1 := zU_s _ _ _
  have e2 : ∀ u, u ≠ f → zU dn f (dn f + 1) u = dn u := fun u q => zU_n q
  have hsum := hup1 f
  rw [if_pos ⟨hf, f1⟩] at hsum
  have hrk : dn f + 1 < 2 * Fv f 2 → rkE S dn f < rkE S (zU dn f (dn f + 1)) f := fun q => by
    have := hup f hf f1 (dn f) hd.1 q
    unfold rkE
    rw [e1]
    exact this
  have hrk2 : ∀ u, u ≠ f → rkE S (zU dn f (dn f + 1)) u = rkE S dn u := fun u q => by unfold rkE; rw [e2 u q]
  generalize zU dn f (dn f + 1) = dn' at e1 e2 hsum hrk hrk2
  refine ⟨fun u q0 q1 => ?_, by show smE dn' n = i + 1; omega, fun k q0 q1 => ?_, fun k q0 q1 u q2 q3 q4 => ?_, fun k q0 q1 => ?_, fun u q0 q1 j q2 q3 => ?_⟩
  · show 0 ≤ dn' u ∧ dn' u ≤ 2 * Fv u 2
    by_cases c : u = f
    · rw [c, e1]; omega
    · rw [e2 u c]; exact h1 u q0 q1
  · show kE E' k < kE E' (k + 1)
    rw [kk k (by omega)]
    by_cases c : k + 1 = i
    · rw [c, ki]; exact h4 k q0 (by omega) f hf f1 f2
    · rw [kk _ c]; exact h3 k q0 (by omega)
  · have q4 : dn' u < 2 * Fv u 2 := q4
    show kE E' k < 4 * rkE S dn' u + u
    by_cases c : u = f
    · subst c
      rw [e1] at q4
      have := hrk q4
      by_cases d : k = i
      · rw [d, ki]; omega
      · rw [kk k d]; have := h4 k q0 (by omega) u q2 q3 f2; omega
    · rw [e2 u c] at q4
      rw [hrk2 u c]
      by_cases d : k = i
      · rw [d, ki]; have := hm u q2 q3 q4; omega
      · rw [kk k d]; exact h4 k q0 (by omega) u q2 q3 q4
  · by_cases d : k = i
    · rw [d]; exact ⟨f, dn f, ⟨hf, f1⟩, ⟨hd.1, by show dn f < dn' f; omega⟩, ri⟩
    · obtain ⟨u, j, a1, a2, a3⟩ := h5 k q0 (by omega)
      refine ⟨u, j, a1, ⟨a2.1, ?_⟩, rr k u j d a3⟩
      show j < dn' u
      by_cases c : u = f
      · rw [c] at a2 ⊢; omega
      · rw [e2 u c]; exact a2.2
  · have q3 : j < dn' u := q3
    by_cases c : u = f
    · subst c
      rcases (by omega : j = dn u ∨ j < dn u) with y | y
      · rw [y]; exact ⟨i, ⟨hi.1, by omega⟩, ri⟩
      · obtain ⟨k, a1, a2⟩ := h6 u q0 q1 j q2 y
        exact ⟨k, ⟨a1.1, by omega⟩, rr k u j (by omega) a2⟩
    · rw [e2 u c] at q3
      obtain ⟨k, a1, a2⟩ := h6 u q0 q1 j q2 q3
      exact ⟨k, ⟨a1.1, by omega⟩, rr k u j (by omega) a2⟩
theorem MI_all (hup : ∀ u, 0 ≤ u → u < n → UPE (S u) (Fv u 2)) (hc : ∀ u, 0 ≤ u → u < n → 0 ≤ Fv u 2) (hn : 0 ≤ n ∧ n ≤ 4) (E : Nat → Int → Int) (dn : Int → Int) : ∀ k : Nat, (k : Int) ≤ 2 * nSou Fv n → MI Fv S n k (mgF Fv S n E dn k) := by
  intro k
  induction k with
  | zero =>
    intro _
    have z : ∀ u, 0 ≤ u → u < n → dnZ dn n u = 0 := fun u q0 q1 => if_pos ⟨q0, q1⟩
    have s : ∀ m : Nat, (m : Int) ≤ n → smE (dnZ dn n) m = 0 := by
      intro m
      induction m with
      | zero => intro _; rfl
      | succ m ih =>
        intro hm
        rw [show ((m + 1 : Nat) : Int) = (m : Int) + 1 by omega, smE_s _ (by omega), ih (by omega), z (m : Int) (by omega) (by omega)]
        rfl
    have s9 := s n.toNat (by omega)
    rw [Int.toNat_of_nonneg hn.1] at s9
    refine ⟨fun u q0 q1 => ?_, s9, fun k q0 q1 => absurd q1 (by omega), fun k q0 q1 => absurd q1 (by omega), fun k q0 q1 => absurd q1 (by omega), fun u q0 q1 j q2 q3 => ?_⟩
    · show 0 ≤ dnZ dn n u ∧ dnZ dn n u ≤ 2 * Fv u 2
      rw [z u q0 q1]; have := hc u q0 q1; omega
    · have q3 : j < dnZ dn n u := q3
      rw [z u q0 q1] at q3; omega
  | succ k ih =>
    intro hk
    have q := ih (by omega)
    rw [show ((k + 1 : Nat) : Int) = (k : Int) + 1 by omega, mgF_s Fv S n E dn (by omega)]
    exact MI_step hup hn ⟨by omega, by omega⟩ q
/-- all events of the voices below n -/
def CEv (Fv : Int → Nat → Int) (S : Int → Nat → Int → Int) (n x u t b : Int) : Prop := (0 ≤ u ∧ u < n) ∧ ∃ j, (0 ≤ j ∧ j < 2 * Fv u 2) ∧ x = tkE (S u) j ∧ t = S u 2 (j / 2) ∧ b = bI (j % 2 = 0)
theorem mg_enum (hup : ∀ u, 0 ≤ u → u < n → UPE (S u) (Fv u 2)) (hc : ∀ u, 0 ≤ u → u < n → 0 ≤ Fv u 2) (hn : 0 ≤ n ∧ n ≤ 4) (hs : 0 ≤ nSou Fv n) (E : Nat → Int → Int) (dn : Int → Int) : ENUM (CEv Fv S n) (2 * nSou Fv n) ((mgF Fv S n E dn (2 * nSou Fv n)).1 0) ((mgF Fv S n E dn (2 * nSou Fv n)).1 1) ((mgF Fv S n E dn (2 * nSou Fv n)).1 2) ((mgF Fv S n E dn (2 * nSou Fv n)).1 3) := by
  have h := MI_all hup hc hn E dn (2 * nSou Fv n).toNat (by omega)
  rw [Int.toNat_of_nonneg (by omega)] at h
  generalize mgF Fv S n E dn (2 * nSou Fv n) = z at h
  obtain ⟨h1, h2, h3, h4, h5, h6⟩ := h
  have hfull := (smE_full (Fv := Fv) (dn := z.2) n.toNat (fun u q0 q1 => (h1 u q0 (by omega)).2)).2
  rw [Int.toNat_of_nonneg hn.1] at hfull
  have hd := hfull h2
  refine ⟨h3, fun i q0 q1 => ?_, fun x u t b q => ?_⟩
  · obtain ⟨u, j, a1, a2, a3⟩ := h5 i q0 q1
    rw [hd u a1.1 a1.2] at a2
    show CEv Fv S n (z.1 0 i) (z.1 1 i) (z.1 2 i) (z.1 3 i)
    rw [a3.2.1]
    exact ⟨a1, j, a2, a3.1, a3.2.2.1, a3.2.2.2⟩
  · obtain ⟨a1, j, a2, a3, a4, a5⟩ := q
    obtain ⟨k, b1, b2⟩ := h6 u a1.1 a1.2 j a2.1 (by rw [hd u a1.1 a1.2]; exact a2.2)
    exact ⟨k, b1, b2.1.trans a3.symm, b2.2.1, b2.2.2.1.trans a4.symm, b2.2.2.2.trans a5.symm⟩
end MG9
