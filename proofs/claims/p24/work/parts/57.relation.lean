/-! what holds between the class and the model -/
def DV (T P S : Nat → Int → Int) (F : Nat → Int) (n key beat : Int) : Prop :=
  DS T S F n ∧ (∃ (sh : Int → Int) (A0 : Nat → Int → Int), (∀ p, 0 ≤ p → p < 63 → A0 0 p = -1) ∧ T 7 = (sgF (T 5) (T 4) (T 6) (P 0) (P 1) (P 2) n key sh A0 n).1 ∧ F 4 = (sgF (T 5) (T 4) (T 6) (P 0) (P 1) (P 2) n key sh A0 n).2.2) ∧
  (∃ b0 : Int → Int, T 8 = (bmF (T 4) (T 2) (T 0) beat n b0 n).1 ∧ F 3 = (bmF (T 4) (T 2) (T 0) beat n b0 n).2) ∧ F 5 = gTo (T 4) n ∧ F 6 = lTo (T 4) n
def PK (P Av : Nat → Int → Int) : Prop := (∀ i, 0 ≤ i → i < 200 → 0 ≤ P 0 i ∧ P 0 i < 7 ∧ -2 ≤ P 1 i ∧ P 1 i ≤ 2 ∧ 0 ≤ P 2 i ∧ P 2 i < 9) ∧ ∀ p, 0 ≤ p → p < 63 → -2 ≤ Av 1 p ∧ Av 1 p ≤ 2
def RV (key beat bar : Int) (T P S Av : Nat → Int → Int) (F : Nat → Int) (A : Nat → Int → Int) (B : Int → Int → Int) (v : Int) : Prop := BR bar T P F A B v ∧ DV T P S F (A 0 v) key beat ∧ PK P Av
/-- the fields; beyond the voices nothing; the events as they stand -/
def RF (F : Nat → Int) (FM : Nat → Int) : Prop := F 0 = FM 4 ∧ F 1 = 384 / FM 2 ∧ F 2 = FM 1 * 384 / FM 2 ∧ F 3 = FM 3 ∧ (F 4 = 0 ∨ F 4 = 1)
def RE (F : Nat → Int) (E : Nat → Int → Int) (S : Int → Nat → Int → Int) (Fv : Int → Nat → Int) (A : Nat → Int → Int) : Prop := F 4 = 0 ∨ ∃ (n : Int) (E0 : Nat → Int → Int) (dn : Int → Int), (0 ≤ n ∧ n ≤ F 0) ∧ (∀ v, n ≤ v → v < F 0 → A 0 v = 0) ∧ E = (mgF Fv S n E0 dn (2 * nSou Fv n)).1
def REL (F : Nat → Int) (E : Nat → Int → Int) (T P S Av : Int → Nat → Int → Int) (Fv : Int → Nat → Int) (FM : Nat → Int) (A : Nat → Int → Int) (B : Int → Int → Int) : Prop :=
  MOK FM A B ∧ RF F FM ∧ (∀ v, 0 ≤ v → v < 4 → RV (F 3) (F 1) (F 2) (T v) (P v) (S v) (Av v) (Fv v) A B v) ∧ (∀ v, F 0 ≤ v → v < 4 → A 0 v = 0) ∧ RE F E S Fv A
section RR9
variable {F : Nat → Int} {E : Nat → Int → Int} {T P S Av : Int → Nat → Int → Int} {Fv : Int → Nat → Int} {FM : Nat → Int} {A : Nat → Int → Int} {B : Int → Int → Int}
theorem RF.nums (h : RF F FM) (hM : MOK FM A B) : (0 ≤ F 0 ∧ F 0 ≤ 4) ∧ (48 ≤ F 1 ∧ F 1 ≤ 192) ∧ (48 ≤ F 2 ∧ F 2 ≤ 2304 ∧ F 2 % 12 = 0) ∧ (-7 ≤ F 3 ∧ F 3 ≤ 7) := by
  obtain ⟨h0, h1, h2, h3, h4⟩ := h
  have a := hM.1
  have b := hM.2.2.1
  have c := hM.2.2.2.1
  rw [h0, h1, h2, h3]
  rcases hM.2.1 with q | q | q <;> rw [q] <;> omega
theorem REL.sd (h : REL F E T P S Av Fv FM A B) {v : Int} (h0 : 0 ≤ v) (h1 : v < 4) : SD (jmM A B v) (mTn B v) (bgM B v) (mTk B v) (A 0 v) (Fv v 2) (S v) := ((h.2.2.1 v h0 h1).1.sd h.1 ⟨h0, h1⟩ (h.2.2.1 v h0 h1).2.1.1 (fun _ => 0)).1
theorem REL.cok (h : REL F E T P S Av Fv FM A B) : COK F Fv := by
  refine ⟨(h.2.1.nums h.1).1, fun v h0 h1 => ?_⟩
  have b := (h.2.2.1 v h0 h1).1
  have m := h.1.many ⟨h0, h1⟩
  have r := bgM_rng h.1 ⟨h0, h1⟩ (e := A 0 v) ⟨m.1, Int.le_refl _⟩
  have s := (h.sd h0 h1).1
  rw [b.1, b.2.1]
  omega
theorem REL.vok (h : REL F E T P S Av Fv FM A B) : ∀ v, 0 ≤ v → v < 4 → VOK (T v) (P v) (Fv v 0) := by
  intro v h0 h1
  obtain ⟨b, -, pk⟩ := h.2.2.1 v h0 h1
  have m := h.1.many ⟨h0, h1⟩
  have nb := (h.2.1.nums h.1).2.2.1
  rw [b.1]
  refine ⟨m.1, m.2, fun i i0 i1 => ?_, pk.1⟩
  obtain ⟨⟨t0, t1, t2, t3, t4, t5, t6⟩, hn, hr, -⟩ := b.2.2.2 i i0 i1
  have rest := (b.2.2.2 i i0 i1).rest
  have el := h.1.el ⟨h0, h1⟩ ⟨i0, i1⟩
  have r := bgM_rng h.1 ⟨h0, h1⟩ (e := i) ⟨i0, by omega⟩
  have tn := mTn_rng h.1 ⟨h0, h1⟩ ⟨i0, i1⟩
  have lt := bg_lt h.1 ⟨h0, h1⟩ i (A 0 v) i0 i1 (Int.le_refl _)
  have d0 : 0 ≤ bgM B v i / F 2 := Int.ediv_nonneg (by omega) (by omega)
  have d1 : bgM B v i / F 2 < 100 := Int.ediv_lt_of_lt_mul (by omega) (by have := b.2.2.1; omega)
  have hk : mTk B v i = tkO (B v (10 * i + 0)) (B v (10 * i + 1)) := rfl
  have tn1 : -1 ≤ mTn B v i := by
    by_cases c : B v (10 * i + 2) = 0
    · rw [rest.mpr c]; decide
    · have := (hn c).2; omega
  rw [t0, t1, t2, t3, t4, t5, t6, hk]
  omega
theorem REL.hva (h : REL F E T P S Av Fv FM A B) : ∀ v, 0 ≤ v → v < 4 → ∀ p, 0 ≤ p → p < 63 → -2 ≤ Av v 1 p ∧ Av v 1 p ≤ 2 := fun v h0 h1 => (h.2.2.1 v h0 h1).2.2.2
theorem REL.hvt (h : REL F E T P S Av Fv FM A B) : ∀ v, 0 ≤ v → v < 4 → 0 < Fv v 0 → 0 ≤ T v 6 (Fv v 0 - 1) ∧ T v 6 (Fv v 0 - 1) ≤ 1000000 := fun v h0 h1 hp => by
  have q := (h.vok v h0 h1).2.2.1 (Fv v 0 - 1) (by omega) (by omega)
  omega
theorem REL.hvm (h : REL F E T P S Av Fv FM A B) : ∀ v, 0 ≤ v → v < 4 → ∀ i k, 0 ≤ i → i < k → k < Fv v 0 → T v 0 i ≤ T v 0 k := fun v h0 h1 i k i0 ik k1 => by
  have b := (h.2.2.1 v h0 h1).1
  rw [b.1] at k1
  rw [(b.2.2.2 i i0 (by omega)).1.1, (b.2.2.2 k (by omega) k1).1.1]
  exact Int.le_of_lt (bg_lt h.1 ⟨h0, h1⟩ i k i0 ik (by omega))
theorem REL.hvs (h : REL F E T P S Av Fv FM A B) : ∀ v j, 0 ≤ v → v < F 0 → 0 ≤ j → j < Fv v 2 → (0 ≤ S v 0 j ∧ S v 0 j ≤ 1000000) ∧ (0 ≤ S v 1 j ∧ S v 1 j ≤ 1000000) := fun v j h0 h1 j0 j1 => by
  have h4 : v < 4 := by have := (h.2.1.nums h.1).1; omega
  have m := h.1.many ⟨h0, h4⟩
  have r := bgM_rng h.1 ⟨h0, h4⟩ (e := A 0 v) ⟨m.1, Int.le_refl _⟩
  have s := h.sd h0 h4
  obtain ⟨⟨b, b1, -, -, b2, -⟩, -⟩ := s.2.1 j j0 j1
  have r2 := bgM_rng h.1 ⟨h0, h4⟩ (e := b) ⟨b1.1, by omega⟩
  have u := s.2.2.2.2.2 j j0 j1
  rw [b2] at u ⊢
  omega
theorem REL.hen (h : REL F E T P S Av Fv FM A B) : ∀ v, 0 ≤ v → v < 4 → Fv v 1 ≤ 100 * F 2 ∧ Fv v 1 % 12 = 0 := fun v h0 h1 => by
  have b := (h.2.2.1 v h0 h1).1
  rw [b.2.1]
  exact ⟨b.2.2.1, bgM_12 h.1 ⟨h0, h1⟩ ⟨(h.1.many ⟨h0, h1⟩).1, Int.le_refl _⟩⟩
/-! a voice that is arranged anew -/
theorem sg_rng {td tn ba st sg oc : Int → Int} {n key : Int} {sh : Int → Int} {A0 : Nat → Int → Int} (hA : ∀ p, 0 ≤ p → p < 63 → -2 ≤ A0 1 p ∧ A0 1 p ≤ 2) (hs : ∀ i, 0 ≤ i → i < 200 → -2 ≤ sg i ∧ sg i ≤ 2) : ∀ k : Nat, (k : Int) ≤ 200 → ∀ p, 0 ≤ p → p < 63 → -2 ≤ (sgF td tn ba st sg oc n key sh A0 k).2.1 1 p ∧ (sgF td tn ba st sg oc n key sh A0 k).2.1 1 p ≤ 2 := by
  intro k
  induction k with
  | zero => intro _; exact hA
  | succ k ih =>
    intro hk p p0 p1
    have q := ih (by omega) p p0 p1
    have s := hs (k : Int) (by omega) (by omega)
    rw [show ((k + 1 : Nat) : Int) = (k : Int) + 1 by omega, show sgF td tn ba st sg oc n key sh A0 ((k : Int) + 1) = sgS td tn ba st sg oc n key k (sgF td tn ba st sg oc n key sh A0 k) from pf_s _ _ (by omega)]
    generalize sgF td tn ba st sg oc n key sh A0 (k : Int) = z at q
    have w : ∀ pl x, -2 ≤ zR (zR z.2.1 0 pl x) 1 pl (sg (k : Int)) 1 p ∧ zR (zR z.2.1 0 pl x) 1 pl (sg (k : Int)) 1 p ≤ 2 := fun pl x => by
      by_cases c : p = pl
      · rw [c, zR_s]; exact s
      · rw [zR_n (Or.inr c), zR_n (Or.inr c)]; exact q
    unfold sgS
    repeat' split
    all_goals first | exact q | exact w _ _
theorem ar_RV {key beat bar : Int} {T P S Av : Nat → Int → Int} {Fq : Nat → Int} {v : Int} (hn : 0 ≤ A 0 v ∧ A 0 v ≤ 200) (hb : BR bar T P Fq A B v) (hp : PK P Av) : RV key beat bar (arT T P Av (Fq 0) key beat) P (arSo T S (Fq 0)).2 (arSg T P Av (Fq 0) key).2.1 (arF T P S Av Fq (Fq 0) key beat) A B v := by
  rw [hb.1]
  refine ⟨⟨hb.1, hb.2.1, hb.2.2.1, hb.2.2.2⟩, ⟨⟨S, rfl, rfl⟩, ⟨T 7, zW Av 0 (fillM (Av 0) 63), fun p p0 p1 => if_pos ⟨p0, p1⟩, rfl, rfl⟩, ⟨T 8, rfl, rfl⟩, rfl, rfl⟩, hp.1, ?_⟩
  have q := sg_rng (td := T 5) (tn := T 4) (ba := T 6) (st := P 0) (sg := P 1) (oc := P 2) (n := A 0 v) (key := key) (sh := T 7) (A0 := zW Av 0 (fillM (Av 0) 63)) (fun p p0 p1 => hp.2 p p0 p1) (fun i i0 i1 => by have := hp.1 i i0 i1; omega) (A 0 v).toNat (by omega)
  rw [Int.toNat_of_nonneg hn.1] at q
  exact q
/-- a voice without elements may stand under any key and beat -/
theorem RV.any {key beat key' beat' bar : Int} {T P S Av : Nat → Int → Int} {Fq : Nat → Int} {v : Int} (h : RV key beat bar T P S Av Fq A B v) (h0 : A 0 v = 0) : RV key' beat' bar T P S Av Fq A B v := by
  obtain ⟨h1, ⟨d1, ⟨sh, A0, a1, a2, a3⟩, ⟨b0, b1, b2⟩, g1, g2⟩, h3⟩ := h
  rw [h0] at a2 a3 b1 b2
  refine ⟨h1, ⟨d1, ⟨sh, A0, a1, ?_, ?_⟩, ⟨b0, ?_, ?_⟩, g1, g2⟩, h3⟩
  · rw [h0]; exact a2
  · rw [h0]; exact a3
  · rw [h0]; exact b1
  · rw [h0]; exact b2
end RR9
