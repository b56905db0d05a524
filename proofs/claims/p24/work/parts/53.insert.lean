/-! the model's events: insertion -/
def ENG (X : Int → Int → Int → Int → Prop) (m : Int) (g : Int → Int) : Prop := ENUM X m (fun i => g (4 * i)) (fun i => g (4 * i + 1)) (fun i => g (4 * i + 2)) (fun i => g (4 * i + 3))
theorem ENUM.congr {X Y : Int → Int → Int → Int → Prop} {m : Int} {x v t b : Int → Int} (hXY : ∀ x v t b, X x v t b ↔ Y x v t b) (h : ENUM X m x v t b) : ENUM Y m x v t b := ⟨h.1, fun i q0 q1 => (hXY _ _ _ _).mp (h.2.1 i q0 q1), fun x' v' t' b' q => h.2.2 _ _ _ _ ((hXY _ _ _ _).mpr q)⟩
theorem ENG.congr {X Y : Int → Int → Int → Int → Prop} {m : Int} {g : Int → Int} (hXY : ∀ x v t b, X x v t b ↔ Y x v t b) (h : ENG X m g) : ENG Y m g := ENUM.congr hXY h
theorem pd_spec {p : Int → Prop} [DecidablePred p] : ∀ m : Nat, (∀ k, pd p m ≤ k → k < (m : Int) → p k) ∧ (0 < pd p m → ¬ p (pd p m - 1)) := by
  intro m
  induction m with
  | zero =>
    refine ⟨fun k q0 q1 => ?_, fun q => ?_⟩
    · have : pd p ((0 : Nat) : Int) = 0 := rfl
      omega
    · exact absurd (show (0 : Int) < 0 from q) (by decide)
  | succ m ih =>
    have s : pd p ((m + 1 : Nat) : Int) = if p (m : Int) then pd p (m : Int) else (m : Int) + 1 := by
      have := pd_s (p := p) (m := ((m + 1 : Nat) : Int)) (by omega)
      rw [show ((m + 1 : Nat) : Int) - 1 = (m : Int) by omega] at this
      rw [this]
      rfl
    rw [s]
    by_cases c : p (m : Int)
    · rw [if_pos c]
      refine ⟨fun k q0 q1 => ?_, ih.2⟩
      rcases (by omega : k < (m : Int) ∨ k = (m : Int)) with z | z
      · exact ih.1 k q0 z
      · rw [z]; exact c
    · rw [if_neg c]
      refine ⟨fun k q0 q1 => absurd q1 (by omega), fun _ => ?_⟩
      rw [show (m : Int) + 1 - 1 = (m : Int) by omega]
      exact c
theorem ptE_lo {g : Int → Int} {m x v t b i w : Int} (h : 0 ≤ i ∧ i < ptQ g x v b m) (hw : 0 ≤ w ∧ w < 4) : ptE g m x v t b (4 * i + w) = g (4 * i + w) := by
  unfold ptE zcp
  rw [if_neg (by omega), if_neg (by omega)]
theorem ptE_at {g : Int → Int} {m x v t b w : Int} (hw : 0 ≤ w ∧ w < 4) : ptE g m x v t b (4 * ptQ g x v b m + w) = n4 x v t b w := by
  unfold ptE
  generalize ptQ g x v b m = p
  show (if 4 * p ≤ 4 * p + w ∧ 4 * p + w < 4 * p + 4 then _ else _) = _
  rw [if_pos (by omega), show 0 + (4 * p + w - 4 * p) = w by omega]
theorem ptE_hi {g : Int → Int} {m x v t b i w : Int} (h : ptQ g x v b m < i ∧ i ≤ m) (hw : 0 ≤ w ∧ w < 4) : ptE g m x v t b (4 * i + w) = g (4 * (i - 1) + w) := by
  unfold ptE
  generalize ptQ g x v b m = p at h
  show (if 4 * p ≤ 4 * i + w ∧ 4 * i + w < 4 * p + 4 then _ else zcp g g (4 * p) (4 * (p + 1)) (4 * (m - p)) (4 * i + w)) = _
  rw [if_neg (by omega)]
  show (if 4 * (p + 1) ≤ 4 * i + w ∧ 4 * i + w < 4 * (p + 1) + 4 * (m - p) then g (4 * p + (4 * i + w - 4 * (p + 1))) else g (4 * i + w)) = _
  rw [if_pos (by omega), show 4 * p + (4 * i + w - 4 * (p + 1)) = 4 * (i - 1) + w by omega]
abbrev kyG (g : Int → Int) : Int → Int := kyE (fun i => g (4 * i)) (fun i => g (4 * i + 1)) (fun i => g (4 * i + 3))
theorem ENG.ins {X : Int → Int → Int → Int → Prop} {m x v t b : Int} {g : Int → Int} (hr : ∀ x v t b, X x v t b → (0 ≤ v ∧ v < 4) ∧ (b = 0 ∨ b = 1)) (hm : 0 ≤ m) (hv : 0 ≤ v ∧ v < 4) (hb : b = 0 ∨ b = 1) (hne : ∀ s, ¬ X x v s b) (h : ENG X m g) : ENG (fun x' v' t' b' => X x' v' t' b' ∨ (x' = x ∧ v' = v ∧ t' = t ∧ b' = b)) (m + 1) (ptE g m x v t b) := by
  obtain ⟨h1, h2, h3⟩ := h
  have hp := pd_le (p := fun k => laE g x v b (4 * k)) hm
  have hs := pd_spec (p := fun k => laE g x v b (4 * k)) m.toNat
  rw [Int.toNat_of_nonneg hm] at hs
  have hla : ∀ k, 0 ≤ k → k < m → (laE g x v b (4 * k) ↔ 4 * (2 * x + b) + v < kyG g k) := by
    intro k q0 q1
    have a := h2 k q0 q1
    have r := hr _ _ _ _ a
    show _ ↔ 4 * (2 * x + b) + v < 4 * (2 * g (4 * k) + g (4 * k + 3)) + g (4 * k + 1)
    have r1 : 0 ≤ g (4 * k + 1) ∧ g (4 * k + 1) < 4 := r.1
    have r2 : g (4 * k + 3) = 0 ∨ g (4 * k + 3) = 1 := r.2
    unfold laE
    by_cases c1 : g (4 * k) = x
    · rw [if_neg (fun z => z c1)]
      by_cases c2 : g (4 * k + 3) = b
      · rw [if_neg (fun z => z c2)]; omega
      · rw [if_pos c2]; omega
    · rw [if_pos c1]; omega
  have hnk : ∀ k, 0 ≤ k → k < m → kyG g k ≠ 4 * (2 * x + b) + v := by
    intro k q0 q1 z
    have a := h2 k q0 q1
    have r := hr _ _ _ _ a
    have z : 4 * (2 * g (4 * k) + g (4 * k + 3)) + g (4 * k + 1) = 4 * (2 * x + b) + v := z
    have r1 : 0 ≤ g (4 * k + 1) ∧ g (4 * k + 1) < 4 := r.1
    have r2 : g (4 * k + 3) = 0 ∨ g (4 * k + 3) = 1 := r.2
    have a : X (g (4 * k)) (g (4 * k + 1)) (g (4 * k + 2)) (g (4 * k + 3)) := a
    rw [show g (4 * k) = x by omega, show g (4 * k + 1) = v by omega, show g (4 * k + 3) = b by omega] at a
    exact hne _ a
  obtain ⟨p, hpe⟩ : ∃ p, p = ptQ g x v b m := ⟨_, rfl⟩
  have hp : 0 ≤ p ∧ p ≤ m := by rw [hpe]; exact hp
  have hs1 : ∀ k, p ≤ k → k < m → laE g x v b (4 * k) := by rw [hpe]; exact hs.1
  have hs2 : 0 < p → ¬ laE g x v b (4 * (p - 1)) := by rw [hpe]; exact hs.2
  have lo : ∀ i w, 0 ≤ i → i < p → 0 ≤ w → w < 4 → ptE g m x v t b (4 * i + w) = g (4 * i + w) := fun i w a1 a2 a3 a4 => ptE_lo ⟨a1, by rw [← hpe]; exact a2⟩ ⟨a3, a4⟩
  have at9 : ∀ w, 0 ≤ w → w < 4 → ptE g m x v t b (4 * p + w) = n4 x v t b w := fun w a3 a4 => by rw [hpe]; exact ptE_at ⟨a3, a4⟩
  have hi : ∀ i w, p < i → i ≤ m → 0 ≤ w → w < 4 → ptE g m x v t b (4 * i + w) = g (4 * (i - 1) + w) := fun i w a1 a2 a3 a4 => ptE_hi ⟨by rw [← hpe]; exact a1, a2⟩ ⟨a3, a4⟩
  generalize ptE g m x v t b = G9 at lo at9 hi
  have lo0 : ∀ i, 0 ≤ i → i < p → G9 (4 * i) = g (4 * i) := fun i a1 a2 => by have := lo i 0 a1 a2 (by omega) (by omega); rw [Int.add_zero] at this; exact this
  have at0 : G9 (4 * p) = x := by have := at9 0 (by omega) (by omega); rw [Int.add_zero] at this; exact this
  have hi0 : ∀ i, p < i → i ≤ m → G9 (4 * i) = g (4 * (i - 1)) := fun i a1 a2 => by have := hi i 0 a1 a2 (by omega) (by omega); rw [Int.add_zero, Int.add_zero] at this; exact this
  have at1 : G9 (4 * p + 1) = v := at9 1 (by omega) (by omega)
  have at2 : G9 (4 * p + 2) = t := at9 2 (by omega) (by omega)
  have at3 : G9 (4 * p + 3) = b := at9 3 (by omega) (by omega)
  have klo : ∀ i, 0 ≤ i → i < p → kyG G9 i = kyG g i := fun i a1 a2 => by
    show 4 * (2 * G9 (4 * i) + G9 (4 * i + 3)) + G9 (4 * i + 1) = _
    rw [lo0 i a1 a2, lo i 3 a1 a2 (by omega) (by omega), lo i 1 a1 a2 (by omega) (by omega)]
    rfl
  have kat : kyG G9 p = 4 * (2 * x + b) + v := by
    show 4 * (2 * G9 (4 * p) + G9 (4 * p + 3)) + G9 (4 * p + 1) = _
    rw [at0, at3, at1]
  have khi : ∀ i, p < i → i ≤ m → kyG G9 i = kyG g (i - 1) := fun i a1 a2 => by
    show 4 * (2 * G9 (4 * i) + G9 (4 * i + 3)) + G9 (4 * i + 1) = _
    rw [hi0 i a1 a2, hi i 3 a1 a2 (by omega) (by omega), hi i 1 a1 a2 (by omega) (by omega)]
    rfl
  refine ⟨fun i q0 q1 => ?_, fun i q0 q1 => ?_, fun x' v' t' b' q => ?_⟩
  · show kyG G9 i < kyG G9 (i + 1)
    rcases (by omega : i + 1 < p ∨ i + 1 = p ∨ i = p ∨ p < i) with c | c | c | c
    · rw [klo i q0 (by omega), klo _ (by omega) c]; exact h1 i q0 (by omega)
    · rw [klo i q0 (by omega), c, kat]
      have a := hs2 (by omega)
      rw [show p - 1 = i by omega, hla i q0 (by omega)] at a
      have := hnk i q0 (by omega)
      omega
    · rw [c, kat, khi _ (by omega) (by omega), show p + 1 - 1 = p by omega]
      exact (hla p hp.1 (by omega)).mp (hs1 p (Int.le_refl _) (by omega))
    · rw [khi i c (by omega), khi _ (by omega) (by omega), show i + 1 - 1 = i - 1 + 1 by omega]
      exact h1 (i - 1) (by omega) (by omega)
  · show X (G9 (4 * i)) (G9 (4 * i + 1)) (G9 (4 * i + 2)) (G9 (4 * i + 3)) ∨ _
    rcases (by omega : i < p ∨ i = p ∨ p < i) with c | c | c
    · rw [lo0 i q0 c, lo i 1 q0 c (by omega) (by omega), lo i 2 q0 c (by omega) (by omega), lo i 3 q0 c (by omega) (by omega)]
      exact Or.inl (h2 i q0 (by omega))
    · rw [c]; exact Or.inr ⟨at0, at1, at2, at3⟩
    · rw [hi0 i c (by omega), hi i 1 c (by omega) (by omega) (by omega), hi i 2 c (by omega) (by omega) (by omega), hi i 3 c (by omega) (by omega) (by omega)]
      exact Or.inl (h2 (i - 1) (by omega) (by omega))
  · rcases q with q | q
    · obtain ⟨i, a1, a2, a3, a4, a5⟩ := h3 _ _ _ _ q
      rcases (by omega : i < p ∨ p ≤ i) with c | c
      · exact ⟨i, ⟨a1.1, by omega⟩, (lo0 i a1.1 c).trans a2, (lo i 1 a1.1 c (by omega) (by omega)).trans a3, (lo i 2 a1.1 c (by omega) (by omega)).trans a4, (lo i 3 a1.1 c (by omega) (by omega)).trans a5⟩
      · have e : i + 1 - 1 = i := by omega
        refine ⟨i + 1, ⟨by omega, by omega⟩, ?_, ?_, ?_, ?_⟩
        · show G9 (4 * (i + 1)) = x'
          rw [hi0 _ (by omega) (by omega), e]; exact a2
        · show G9 (4 * (i + 1) + 1) = v'
          rw [hi _ 1 (by omega) (by omega) (by omega) (by omega), e]; exact a3
        · show G9 (4 * (i + 1) + 2) = t'
          rw [hi _ 2 (by omega) (by omega) (by omega) (by omega), e]; exact a4
        · show G9 (4 * (i + 1) + 3) = b'
          rw [hi _ 3 (by omega) (by omega) (by omega) (by omega), e]; exact a5
    · obtain ⟨a1, a2, a3, a4⟩ := q
      exact ⟨p, ⟨hp.1, by omega⟩, at0.trans a1.symm, at1.trans a2.symm, at2.trans a3.symm, at3.trans a4.symm⟩
section ME9
variable {A : Nat → Int → Int} {B : Int → Int → Int}
/-- the events of an element -/
def MEe (A : Nat → Int → Int) (B : Int → Int → Int) (u e x t b : Int) : Prop := ¬ B u (10 * e + 2) = 0 ∧ t = mTn B u e ∧ ((b = 1 ∧ ¬ jmM A B u (e - 1) ∧ x = bgM B u e) ∨ (b = 0 ∧ ¬ jmM A B u e ∧ x = bgM B u e + mTk B u e))
def MEx (A : Nat → Int → Int) (B : Int → Int → Int) (v e x u t b : Int) : Prop := (0 ≤ u ∧ u < v ∧ ∃ d, (0 ≤ d ∧ d < A 0 u) ∧ MEe A B u d x t b) ∨ (u = v ∧ ∃ d, (0 ≤ d ∧ d < e) ∧ MEe A B v d x t b)
theorem MEx_r {v e x u t b : Int} (hv : 0 ≤ v ∧ v < 4) (h : MEx A B v e x u t b) : (0 ≤ u ∧ u < 4) ∧ (b = 0 ∨ b = 1) := by
  rcases h with ⟨a1, a2, d, -, -, -, h⟩ | ⟨a1, d, -, -, -, h⟩
  · exact ⟨by omega, by rcases h with h | h; exact Or.inr h.1; exact Or.inl h.1⟩
  · exact ⟨by omega, by rcases h with h | h; exact Or.inr h.1; exact Or.inl h.1⟩
theorem ev_step {v e : Int} {g : Int → Int} (hv : 0 ≤ v ∧ v < 4) (he : 0 ≤ e ∧ e < A 0 v) (hmo : ∀ i j, 0 ≤ i → i < j → j ≤ A 0 v → bgM B v i < bgM B v j) (hm0 : 0 ≤ ecT A B v + ec A B v e) (h : ENG (MEx A B v e) (ecT A B v + ec A B v e) g) : ENG (MEx A B v (e + 1)) (ecT A B v + ec A B v (e + 1)) (evS A B v e g) := by
  have hs : ec A B v (e + 1) = ec A B v e + ecS A B v e := ec_s A B v he.1
  have hb := bgM_s B v he.1
  have inj : ∀ d, 0 ≤ d → d < e → bgM B v d ≠ bgM B v e := fun d a1 a2 => by have := hmo d e a1 a2 (by omega); omega
  have inj2 : ∀ d, 0 ≤ d → d < e → bgM B v d + mTk B v d ≠ bgM B v e + mTk B v e := fun d a1 a2 => by
    have q := bgM_s B v a1
    have := hmo (d + 1) (e + 1) (by omega) (by omega) (by omega)
    omega
  have split : ∀ x u t b, MEx A B v (e + 1) x u t b ↔ (MEx A B v e x u t b ∨ (u = v ∧ MEe A B v e x t b)) := by
    intro x u t b
    constructor
    · rintro (a | ⟨a1, d, a2, a3⟩)
      · exact Or.inl (Or.inl a)
      · rcases (by omega : d < e ∨ d = e) with z | z
        · exact Or.inl (Or.inr ⟨a1, d, ⟨a2.1, z⟩, a3⟩)
        · rw [z] at a3; exact Or.inr ⟨a1, a3⟩
    · rintro ((a | ⟨a1, d, a2, a3⟩) | ⟨a1, a2⟩)
      · exact Or.inl a
      · exact Or.inr ⟨a1, d, ⟨a2.1, by omega⟩, a3⟩
      · exact Or.inr ⟨a1, e, ⟨he.1, by omega⟩, a2⟩
  rw [hs]
  unfold evS ecS
  by_cases c : B v (10 * e + 2) = 0
  · rw [if_pos c, if_pos c, Int.add_zero]
    exact h.congr fun x u t b => ⟨fun q => (split x u t b).mpr (Or.inl q), fun q => ((split x u t b).mp q).elim id fun z => absurd c z.2.1⟩
  · rw [if_neg c, if_neg c]
    -- the beginning
    have h1 : ENG (fun x u t b => MEx A B v e x u t b ∨ (u = v ∧ t = mTn B v e ∧ b = 1 ∧ ¬ jmM A B v (e - 1) ∧ x = bgM B v e)) (ecT A B v + ec A B v e + bJ A B v (e - 1)) (if jmM A B v (e - 1) then g else ptE g (ecT A B v + ec A B v e) (bgM B v e) v (mTn B v e) 1) := by
      unfold bJ
      by_cases j : jmM A B v (e - 1)
      · rw [if_pos j, if_pos j, Int.add_zero]
        exact h.congr fun x u t b => ⟨Or.inl, fun q => q.elim id fun z => absurd j z.2.2.2.1⟩
      · rw [if_neg j, if_neg j]
        refine (h.ins (fun x u t b => MEx_r hv) hm0 hv (Or.inr rfl) (x := bgM B v e) (t := mTn B v e) (b := 1) fun s q => ?_).congr fun x u t b => ⟨fun q => q.elim Or.inl fun z => Or.inr ⟨z.2.1, z.2.2.1, z.2.2.2, j, z.1⟩, fun q => q.elim Or.inl fun z => Or.inr ⟨z.2.2.2.2, z.1, z.2.1, z.2.2.1⟩⟩
        rcases q with q | ⟨-, d, q2, -, -, q3⟩
        · exact absurd q.2.1 (by omega)
        · rcases q3 with q3 | q3
          · exact inj d q2.1 q2.2 q3.2.2.symm
          · exact absurd q3.1 (by decide)
    have hj9 : 0 ≤ bJ A B v (e - 1) := by unfold bJ; split <;> decide
    by_cases j : jmM A B v e
    · have e0 : bJ A B v e = 0 := if_pos j
      rw [if_pos j, e0, Int.add_zero, ← Int.add_assoc]
      exact h1.congr fun x u t b => by
        rw [split]
        exact ⟨fun q => q.elim Or.inl fun z => Or.inr ⟨z.1, c, z.2.1, Or.inl z.2.2⟩, fun q => q.elim Or.inl fun z => z.2.2.2.elim (fun w => Or.inr ⟨z.1, z.2.2.1, w⟩) fun w => absurd j w.2.1⟩
    · have e0 : bJ A B v e = 1 := if_neg j
      rw [if_neg j, e0, ← Int.add_assoc, ← Int.add_assoc]
      refine (h1.ins (fun x u t b q => q.elim (fun z => MEx_r hv z) fun z => ⟨by rw [z.1]; exact hv, Or.inr z.2.2.1⟩) (by omega) hv (Or.inl rfl) (x := bgM B v e + mTk B v e) (t := mTn B v e) (b := 0) fun s q => ?_).congr fun x u t b => ?_
      · rcases q with (q | ⟨-, d, q2, -, -, q3⟩) | q
        · exact absurd q.2.1 (by omega)
        · rcases q3 with q3 | q3
          · exact absurd q3.1 (by decide)
          · exact inj2 d q2.1 q2.2 q3.2.2.symm
        · exact absurd q.2.2.1 (by decide)
      · rw [split]
        constructor
        · rintro ((q | z) | z)
          · exact Or.inl q
          · exact Or.inr ⟨z.1, c, z.2.1, Or.inl z.2.2⟩
          · exact Or.inr ⟨z.2.1, c, z.2.2.1, Or.inr ⟨z.2.2.2, j, z.1⟩⟩
        · rintro (q | ⟨z1, z2, z3, z4 | z4⟩)
          · exact Or.inl (Or.inl q)
          · exact Or.inl (Or.inr ⟨z1, z3, z4⟩)
          · exact Or.inr ⟨z4.2.2, z1, z3, z4.1⟩
theorem ev_voice {v : Int} {g : Int → Int} (hv : 0 ≤ v ∧ v < 4) (hmo : ∀ i j, 0 ≤ i → i < j → j ≤ A 0 v → bgM B v i < bgM B v j) (hm0 : 0 ≤ ecT A B v) (h : ENG (MEx A B v 0) (ecT A B v) g) : ∀ k : Nat, (k : Int) ≤ A 0 v → ENG (MEx A B v k) (ecT A B v + ec A B v k) (evF A B v g k) := by
  intro k
  induction k with
  | zero =>
    intro _
    rw [show ec A B v ((0 : Nat) : Int) = 0 from rfl, Int.add_zero]
    exact h
  | succ k ih =>
    intro hk
    rw [show ((k + 1 : Nat) : Int) = (k : Int) + 1 by omega, show evF A B v g ((k : Int) + 1) = evS A B v k (evF A B v g k) from pf_s _ _ (by omega)]
    have := ec_rng A B v (a := 0) (b := (k : Int)) (by omega) (by omega)
    have e0 : ec A B v 0 = 0 := rfl
    exact ev_step hv ⟨by omega, by omega⟩ hmo (by omega) (ih (by omega))
theorem ev_all (hn : ∀ v, 0 ≤ v → v < 4 → 0 ≤ A 0 v) (hmo : ∀ v, 0 ≤ v → v < 4 → ∀ i j, 0 ≤ i → i < j → j ≤ A 0 v → bgM B v i < bgM B v j) (g : Int → Int) : ∀ n : Nat, (n : Int) ≤ 4 → 0 ≤ ecT A B n ∧ ENG (MEx A B n 0) (ecT A B n) (evO A B g n) := by
  intro n
  induction n with
  | zero =>
    intro _
    refine ⟨Int.le_refl 0, fun i q0 q1 => ?_, fun i q0 q1 => ?_, fun x u t b q => ?_⟩
    · have : i + 1 < 0 := q1
      omega
    · have : i < 0 := q1
      omega
    · rcases q with ⟨a1, a2, -⟩ | ⟨a1, d, a2, -⟩
      · exact absurd a2 (by omega)
      · omega
  | succ n ih =>
    intro hk
    obtain ⟨i1, i2⟩ := ih (by omega)
    have q := ev_voice (v := (n : Int)) ⟨by omega, by omega⟩ (hmo _ (by omega) (by omega)) i1 i2 (A 0 (n : Int)).toNat (by have := hn (n : Int) (by omega) (by omega); omega)
    have hn9 := hn (n : Int) (by omega) (by omega)
    rw [Int.toNat_of_nonneg hn9] at q
    have r := ec_rng A B (n : Int) (a := 0) (b := A 0 (n : Int)) (by omega) hn9
    have e0 : ec A B (n : Int) 0 = 0 := rfl
    rw [show ((n + 1 : Nat) : Int) = (n : Int) + 1 by omega, show evO A B g ((n : Int) + 1) = evF A B (n : Int) (evO A B g n) (A 0 (n : Int)) from pf_s _ _ (by omega), ecT_s A B (by omega)]
    refine ⟨by omega, q.congr fun x u t b => ?_⟩
    constructor
    · rintro (⟨a1, a2, a3⟩ | ⟨a1, a3⟩)
      · exact Or.inl ⟨a1, by omega, a3⟩
      · rw [a1]; exact Or.inl ⟨by omega, by omega, a3⟩
    · rintro (⟨a1, a2, a3⟩ | ⟨a1, d, a2, -⟩)
      · rcases (by omega : u < (n : Int) ∨ u = (n : Int)) with z | z
        · exact Or.inl ⟨a1, z, a3⟩
        · rw [z] at a3; exact Or.inr ⟨z, a3⟩
      · omega
end ME9
