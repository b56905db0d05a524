section DG9
variable {F : Nat → Int} {E : Nat → Int → Int} {T P S Av : Int → Nat → Int → Int} {Fv : Int → Nat → Int} {FM : Nat → Int} {A AC : Nat → Int → Int} {B : Int → Int → Int}
theorem REL.DSs (h : REL F E T P S Av Fv FM A B) : ∀ v, 0 ≤ v → v < 4 → DS (T v) (S v) (Fv v) (A 0 v) := fun v v0 v1 => (h.2.2.1 v v0 v1).2.1.1
theorem REL.BRs (h : REL F E T P S Av Fv FM A B) : ∀ v, 0 ≤ v → v < 4 → BR (F 2) (T v) (P v) (Fv v) A B v := fun v v0 v1 => (h.2.2.1 v v0 v1).1
theorem REL.cnt (h : REL F E T P S Av Fv FM A B) {n : Int} (hn : 0 ≤ n ∧ n ≤ 4) : ecT A B n = 2 * nSou Fv n := by
  have q := ecT_so h.1 h.BRs h.DSs n.toNat (by omega)
  rw [Int.toNat_of_nonneg hn.1] at q
  exact q
theorem REL.count (h : REL F E T P S Av Fv FM A B) : 2 * nSou Fv (F 0) = ecT A B (FM 4) := by
  have n := h.2.1.nums h.1
  rw [← h.2.1.1]
  exact (h.cnt n.1).symm
theorem REL.rf (h : REL F E T P S Av Fv FM A B) {F2 : Nat → Int} {A2 E2 : Nat → Int → Int} (hq : rfQ F AC E S Fv F2 A2 E2) : REL F2 E2 T P S Av Fv FM A B ∧ ∀ (g : Int → Int) (i : Int), 0 ≤ i → i < 2 * nSou Fv (F 0) → ∀ w : Nat, w < 4 → E2 w i = evO A B g (FM 4) (4 * i + (w : Int)) := by
  have n := h.2.1.nums h.1
  have hM := h.1
  rcases hq with ⟨q1, q2, q3, q4⟩ | ⟨q1, q2, q3, q4⟩
  · rw [q2, q4]
    refine ⟨h, fun g i i0 i1 w hw => ?_⟩
    rcases h.2.2.2.2 with c | ⟨m, E0, dn, c1, c2, c3⟩
    · exact absurd c q1
    · obtain ⟨m1, m2⟩ := ecT_more hM (A := A) (B := B) (n := m) (m := F 0) ⟨c1.1, c1.2, n.1.2⟩ c2
      have k1 := h.cnt n.1
      have k2 := h.cnt (n := m) ⟨c1.1, by omega⟩
      rw [c3, ← h.2.1.1, m2 g]
      exact ev_eq hM h.BRs h.DSs ⟨c1.1, by omega⟩ E0 dn g i i0 (by omega) w hw
  · rw [q2, q4]
    refine ⟨⟨hM, ⟨h.2.1.1, h.2.1.2.1, h.2.1.2.2.1, h.2.1.2.2.2.1, Or.inr rfl⟩, h.2.2.1, h.2.2.2.1, Or.inr ⟨F 0, E, AC 0, ⟨n.1.1, Int.le_refl _⟩, fun v v0 v1 => absurd (show v < F 0 from v1) (by omega), rfl⟩⟩, fun g i i0 i1 w hw => ?_⟩
    rw [← h.2.1.1]
    exact ev_eq hM h.BRs h.DSs n.1 E (AC 0) g i i0 i1 w hw
theorem deF_eq {E : Nat → Int → Int} {G : Int → Int} {d : Int64} {m : Int} (h : ∀ i, 0 ≤ i → i < m → ∀ w : Nat, w < 4 → E w i = G (4 * i + (w : Int))) : ∀ k : Nat, (k : Int) ≤ m → deF E d k = dgE G d (4 * k) := by
  intro k
  induction k with
  | zero =>
    intro _
    rw [show 4 * ((0 : Nat) : Int) = 0 by omega, show ((0 : Nat) : Int) = 0 from rfl]
    have a : deF E d 0 = d := pf_0 _ _
    have b : dgE G d 0 = d := pf_0 _ _
    rw [a, b]
  | succ k ih =>
    intro hk
    have q := ih (by omega)
    have e := fun w hw => h (k : Int) (by omega) (by omega) w hw
    have s1 : deF E d ((k : Int) + 1) = de4 E k (deF E d k) 4 := pf_s _ _ (by omega)
    have s2 : ∀ D : Int64, de4 E (k : Int) D 4 = dA (dA (dA (dA D (E 0 k)) (E 1 k)) (E 2 k)) (E 3 k) := fun D => by
      have u : ∀ w : Int, 0 ≤ w → de4 E (k : Int) D (w + 1) = dA (de4 E (k : Int) D w) (E w.toNat k) := fun w hw => pf_s _ _ hw
      have u0 : de4 E (k : Int) D 0 = D := pf_0 _ _
      have u1 := u 0 (by decide)
      have u2 := u 1 (by decide)
      have u3 := u 2 (by decide)
      have u4 := u 3 (by decide)
      rw [show (3 : Int) + 1 = 4 by decide, show (3 : Int).toNat = 3 by decide] at u4
      rw [show (2 : Int) + 1 = 3 by decide, show (2 : Int).toNat = 2 by decide] at u3
      rw [show (1 : Int) + 1 = 2 by decide, show (1 : Int).toNat = 1 by decide] at u2
      rw [show (0 : Int) + 1 = 1 by decide, show (0 : Int).toNat = 0 by decide] at u1
      rw [u4, u3, u2, u1, u0]
    have t : ∀ j, 0 ≤ j → dgE G d (j + 1) = dA (dgE G d j) (G j) := fun j hj => pf_s _ _ hj
    rw [show ((k + 1 : Nat) : Int) = (k : Int) + 1 by omega, s1, s2, q, e 0 (by decide), e 1 (by decide), e 2 (by decide), e 3 (by decide), show 4 * ((k : Int) + 1) = 4 * (k : Int) + 1 + 1 + 1 + 1 by omega, t _ (by omega), t _ (by omega), t _ (by omega), t _ (by omega)]
    rw [show ((0 : Nat) : Int) = 0 from rfl, show ((1 : Nat) : Int) = 1 from rfl, show ((2 : Nat) : Int) = 2 from rfl, show ((3 : Nat) : Int) = 3 from rfl, Int.add_zero, show 4 * (k : Int) + 1 + 1 = 4 * (k : Int) + 2 by omega, show 4 * (k : Int) + 2 + 1 = 4 * (k : Int) + 3 by omega]
theorem REL.digV (h : REL F E T P S Av Fv FM A B) : ∀ n : Nat, (n : Int) ≤ 4 → dvC F T Fv n = dgV FM A B n := by
  intro n hn
  have e0 : dsC F T Fv 5 = dgS FM A B 5 := pf_congr fun w d w0 w1 => by rw [h.score w ⟨w0, w1⟩]
  unfold dvC dgV
  rw [e0]
  refine pf_congr fun v d v0 v1 => ?_
  have v4 : v < 4 := by omega
  have r := (h.2.2.1 v v0 v4).1
  have e7 : dc7 (Fv v) d 7 = dg7 FM A B v d 7 := pf_congr fun w d w0 w1 => by rw [h.voice v0 v4 h00 ⟨w0, w1⟩]
  rw [e7, r.1]
  refine pf_congr fun e d e0 e1 => ?_
  exact pf_congr fun w d w0 w1 => by rw [h.element v0 v4 h00 ⟨e0, e1⟩ ⟨w0, w1⟩]
theorem REL.digest (h : REL F E T P S Av Fv FM A B) {F2 : Nat → Int} {A2 E2 : Nat → Int → Int} (hq : rfQ F AC E S Fv F2 A2 E2) (g : Int → Int) : dgC F E2 T Fv = dgM FM A B g := by
  have n := h.2.1.nums h.1
  have q := (h.rf hq).2 g
  have dv := h.digV (F 0).toNat (by omega)
  rw [Int.toNat_of_nonneg n.1.1] at dv
  have c := h.count
  have s0 : 0 ≤ nSou Fv (F 0) := (nSou_rng h.cok n.1).1
  unfold dgC dgM
  rw [h.faults, dv, c, ← h.2.1.1]
  rw [c] at q
  rw [← h.2.1.1] at q
  have d := deF_eq (d := dA (dA (dgV FM A B (F 0)) (fauM FM A B (F 0))) (ecT A B (F 0))) q (ecT A B (F 0)).toNat (by have c0 := h.cnt n.1; omega)
  rw [← h.2.1.1] at c
  have c0 : 0 ≤ ecT A B (F 0) := by rw [h.cnt n.1]; omega
  rw [Int.toNat_of_nonneg c0] at d
  exact d
end DG9
