/-! the answers are the same -/
section AN9
variable {F : Nat → Int} {E : Nat → Int → Int} {T P S Av : Int → Nat → Int → Int} {Fv : Int → Nat → Int} {FM : Nat → Int} {A : Nat → Int → Int} {B : Int → Int → Int}
theorem REL.bars (h : REL F E T P S Av Fv FM A B) : ∀ n : Nat, (n : Int) ≤ 4 → bBeg Fv T n = barsM FM A B n := by
  intro n hn
  refine pf_congr fun v a v0 v1 => ?_
  have r := (h.2.2.1 v v0 (by omega)).1
  rw [r.1]
  by_cases c : 0 < A 0 v
  · rw [if_pos c, if_pos c, (r.2.2.2 (A 0 v - 1) (by omega) (by omega)).1.2.2.2.2.2.2, h.2.1.2.2.1]
  · rw [if_neg c, if_neg c]
theorem REL.score (h : REL F E T P S Av Fv FM A B) (w : Int) (hw : 0 ≤ w ∧ w < 5) : scC F T Fv w = scM FM A B w := by
  have n := h.2.1.nums h.1
  have b := h.bars (F 0).toNat (by omega)
  have g := (gEnd_0 h (F 0).toNat (by omega)).2.2
  rw [Int.toNat_of_nonneg n.1.1] at b g
  rw [h.2.1.1] at b g
  unfold scC scM
  rw [h.2.1.1, h.2.1.2.2.1, h.2.1.2.2.2.1, b, g]
  rcases (by omega : w = 0 ∨ w = 1 ∨ w = 2 ∨ w = 3 ∨ w = 4) with c | c | c | c | c <;> rw [c] <;> rfl
theorem REL.sg (h : REL F E T P S Av Fv FM A B) {v : Int} (v0 : 0 ≤ v) (v1 : v < 4) (hh : Int → Int) : (∀ e, 0 ≤ e → e < A 0 v → T v 7 e = shM FM A B v hh e) ∧ Fv v 4 = pf 0 (vpS A B (shM FM A B v hh) v 4) (A 0 v) := by
  obtain ⟨b, ⟨-, ⟨sh, A0, a1, a2, a3⟩, -⟩, -⟩ := h.2.2.1 v v0 v1
  rw [h.2.1.2.2.1] at b
  rw [h.2.1.2.2.2.1] at a2 a3
  have q := SG_all h.1 ⟨v0, v1⟩ b hh sh A0 a1
  refine ⟨fun e e0 e1 => ?_, ?_⟩
  · rw [a2]; exact q.1 e e0 e1
  · rw [a3]; exact q.2.1
theorem REL.bm (h : REL F E T P S Av Fv FM A B) {v : Int} (v0 : 0 ≤ v) (v1 : v < 4) : (∀ e, 0 ≤ e → e < A 0 v → T v 8 e = bmN (gM FM A B v) e) ∧ Fv v 3 = stC (gM FM A B v) (A 0 v) := by
  obtain ⟨b, ⟨-, -, ⟨b0, b1, b2⟩, -⟩, -⟩ := h.2.2.1 v v0 v1
  rw [h.2.1.2.1] at b1 b2
  have q := BM_eq h.1 ⟨v0, v1⟩ b b0
  refine ⟨fun e e0 e1 => ?_, ?_⟩
  · rw [b1]; exact q.2 e e0 e1
  · rw [b2]; exact q.1
theorem REL.element (h : REL F E T P S Av Fv FM A B) {v : Int} (v0 : 0 ≤ v) (v1 : v < 4) (hh : Int → Int) {e w : Int} (he : 0 ≤ e ∧ e < A 0 v) (hw : 0 ≤ w ∧ w < 9) : T v w.toNat e = elP FM A B hh v e w := by
  obtain ⟨⟨t0, t1, t2, t3, t4, t5, t6⟩, -⟩ := (h.2.2.1 v v0 v1).1.2.2.2 e he.1 he.2
  have t7 := (h.sg v0 v1 hh).1 e he.1 he.2
  have t8 := (h.bm v0 v1).1 e he.1 he.2
  rw [h.2.1.2.2.1] at t6
  rcases (by omega : w = 0 ∨ w = 1 ∨ w = 2 ∨ w = 3 ∨ w = 4 ∨ w = 5 ∨ w = 6 ∨ w = 7 ∨ w = 8) with c | c | c | c | c | c | c | c | c <;> rw [c]
  · exact t0
  · exact t1
  · exact t2
  · exact t3
  · exact t4
  · exact t5
  · exact t6
  · exact t7
  · exact t8
theorem REL.voice (h : REL F E T P S Av Fv FM A B) {v : Int} (v0 : 0 ≤ v) (v1 : v < 4) (hh : Int → Int) {w : Int} (hw : 0 ≤ w ∧ w < 7) : vTell (Fv v) w = vpM FM A B hh v w := by
  have r := h.2.2.1 v v0 v1
  have s := (r.1.sd h.1 ⟨v0, v1⟩ r.2.1.1 (shM FM A B v hh)).2
  have g := h.sg v0 v1 hh
  have b := h.bm v0 v1
  have g5 : Fv v 5 = pf (-1) (vpS A B (shM FM A B v hh) v 5) (A 0 v) := r.2.1.2.2.2.1.trans (r.1.gT _)
  have g6 : Fv v 6 = pf (-1) (vpS A B (shM FM A B v hh) v 6) (A 0 v) := r.2.1.2.2.2.2.trans (r.1.lT _)
  rcases (by omega : w = 0 ∨ w = 1 ∨ w = 2 ∨ w = 3 ∨ w = 4 ∨ w = 5 ∨ w = 6) with c | c | c | c | c | c | c <;> rw [c]
  · exact r.1.1
  · exact r.1.2.1
  · exact s
  · exact b.2
  · exact g.2
  · exact g5
  · exact g6
theorem REL.pitch (h : REL F E T P S Av Fv FM A B) {v : Int} (v0 : 0 ≤ v) (v1 : v < 4) {e w : Int} (he : 0 ≤ e ∧ e < A 0 v) (hw : 0 ≤ w ∧ w < 3) (hb : ¬ B v (10 * e + 2) = 0) : P v w.toNat e = B v (10 * e + (3 + w)) := by
  obtain ⟨-, hn, -⟩ := (h.2.2.1 v v0 v1).1.2.2.2 e he.1 he.2
  obtain ⟨⟨p0, p1, p2⟩, -⟩ := hn hb
  rcases (by omega : w = 0 ∨ w = 1 ∨ w = 2) with c | c | c <;> rw [c]
  · exact p0
  · exact p1
  · exact p2
theorem REL.note (h : REL F E T P S Av Fv FM A B) {v : Int} (v0 : 0 ≤ v) (v1 : v < 4) {e : Int} (he : 0 ≤ e ∧ e < A 0 v) : T v 4 e = -1 ↔ B v (10 * e + 2) = 0 := by
  have q := (h.2.2.1 v v0 v1).1.2.2.2 e he.1 he.2
  rw [q.1.2.2.2.2.1]
  exact q.rest
/-! parallels, faults -/
theorem par_eq (h : REL F E T P S Av Fv FM A B) {a b : Int} (ha : 0 ≤ a ∧ a < 4) (hb : 0 ≤ b ∧ b < 4) : parC T Fv a b = parM A B a b := by
  have ra := (h.2.2.1 a ha.1 ha.2).1
  have rb := (h.2.2.1 b hb.1 hb.2).1
  have mb := h.1.many hb
  unfold parC parM cpF plF
  rw [ra.1]
  refine congrArg Prod.fst (pf_congr fun i z i0 i1 => ?_)
  obtain ⟨⟨ta0, -, -, -, ta4, -, -⟩, -⟩ := ra.2.2.2 i i0 i1
  have resta := (ra.2.2.2 i i0 i1).rest
  have hJ : jxC T Fv a b i = fp (fun k => bgM B a i ≤ bgM B b k) (A 0 b) := by
    unfold jxC
    rw [rb.1]
    refine fp_congr fun k k0 k1 => ?_
    rw [ta0, (rb.2.2.2 k k0 k1).1.1]
  have jl := fp_le (q := fun k => bgM B a i ≤ bgM B b k) mb.1
  have js := fp_spec (q := fun k => bgM B a i ≤ bgM B b k) mb.1
  rw [← hJ] at jl js
  unfold cpS plS
  generalize jxC T Fv a b i = J at hJ jl js ⊢
  rw [rb.1]
  by_cases cA : B a (10 * i + 2) = 0
  · have o : oT A B a b i = -1 := if_pos cA
    rw [if_pos o, if_neg (fun q => q.2.2.1 (ta4.trans (resta.mpr cA)))]
  · have ho : oT A B a b i = beP B b (A 0 b) (bgM B a i) := if_neg cA
    by_cases cJ : J < A 0 b ∧ bgM B b J = bgM B a i ∧ ¬ B b (10 * J + 2) = 0
    · obtain ⟨⟨tb0, -, -, -, tb4, -, -⟩, -⟩ := rb.2.2.2 J jl.1 cJ.1
      have restb := (rb.2.2.2 J jl.1 cJ.1).rest
      have elb := (h.1.el hb (e := J) ⟨jl.1, cJ.1⟩).2.2.2.1
      have bj : oT A B a b i = J := by
        rw [ho]
        have f : fp (fun k => bgM B b k = bgM B a i ∧ B b (10 * k + 2) = 1) (A 0 b) = J := fp_first jl.1 (fun k k0 k1 q => js.2 k k0 k1 (by rw [q.1]; exact Int.le_refl _)) ⟨cJ.2.1, by omega⟩ cJ.1
        unfold beP
        rw [f, if_pos cJ.1]
      rw [bj, if_neg (show ¬ J = -1 by omega), if_pos ⟨cJ.1, by rw [tb0, ta0]; exact cJ.2.1, fun q => cA (resta.mp (ta4.symm.trans q)), fun q => cJ.2.2 (restb.mp (tb4.symm.trans q))⟩, ta4, tb4]
      have e : ∀ ea eb ta tb : Int, parB ea eb ta tb = 1 ↔ (((tb - ta) % 12 = 0 ∨ (tb - ta) % 12 = 7) ∧ (tb - ta) % 12 = (eb - ea) % 12 ∧ ((ea < ta ∧ eb < tb) ∨ (ta < ea ∧ tb < eb))) := fun ea eb ta tb => by
        unfold parB
        refine ⟨fun q => Decidable.byContradiction fun w => ?_, fun q => (bI_t q).symm⟩
        rw [← bI_f w] at q
        exact absurd q (by decide)
      exact congrArg (fun q => (q, mTn B a i, mTn B b J)) (zite9 ⟨fun q => ⟨q.1, (e _ _ _ _).mp q.2⟩, fun q => ⟨q.1, (e _ _ _ _).mpr q.2⟩⟩)
    · have o : oT A B a b i = -1 := by
        rw [ho]
        unfold beP
        refine if_neg fun q => ?_
        have f := fp_le (q := fun k => bgM B b k = bgM B a i ∧ B b (10 * k + 2) = 1) mb.1
        have g := (fp_spec (q := fun k => bgM B b k = bgM B a i ∧ B b (10 * k + 2) = 1) mb.1).1 q
        generalize fp (fun k => bgM B b k = bgM B a i ∧ B b (10 * k + 2) = 1) (A 0 b) = k at q f g
        have kJ : J ≤ k := by
          rcases (by omega : J ≤ k ∨ k < J) with z | z
          · exact z
          · exact absurd (show bgM B a i ≤ bgM B b k by rw [g.1]; exact Int.le_refl _) (js.2 k f.1 z)
        have e : J = k := by
          rcases (by omega : J = k ∨ J < k) with z | z
          · exact z
          · have u := bg_lt h.1 hb J k jl.1 z (by omega)
            have w := js.1 (by omega)
            have g1 := g.1
            omega
        rw [← e] at g q
        exact cJ ⟨q, g.1, by rw [g.2]; decide⟩
      rw [if_pos o]
      refine if_neg fun q => cJ ⟨q.1, ?_, fun w => q.2.2.2 ?_⟩
      · have u := q.2.1
        rw [(rb.2.2.2 J jl.1 q.1).1.1, ta0] at u
        exact u
      · rw [(rb.2.2.2 J jl.1 q.1).1.2.2.2.2.1]
        exact (rb.2.2.2 J jl.1 q.1).rest.mpr w
theorem barsM_le (h : REL F E T P S Av Fv FM A B) : ∀ n : Nat, (n : Int) ≤ 4 → 0 ≤ barsM FM A B n ∧ ∀ v, 0 ≤ v → v < (n : Int) → bgM B v (A 0 v) / F 2 ≤ barsM FM A B n := by
  intro n
  induction n with
  | zero => intro _; exact ⟨Int.le_refl 0, fun v v0 v1 => absurd v1 (by omega)⟩
  | succ n ih =>
    intro hn
    obtain ⟨i1, i2⟩ := ih (by omega)
    have nb := (h.2.1.nums h.1).2.2.1
    have r := (h.2.2.1 (n : Int) (by omega) (by omega)).1
    have m := h.1.many (v := (n : Int)) ⟨by omega, by omega⟩
    have s : barsM FM A B ((n : Int) + 1) = if 0 < A 0 (n : Int) then max (barsM FM A B (n : Int)) (bgM B (n : Int) (A 0 (n : Int) - 1) / (FM 1 * 384 / FM 2) + 1) else barsM FM A B (n : Int) := pf_s _ _ (by omega)
    rw [← h.2.1.2.2.1] at s
    rw [show ((n + 1 : Nat) : Int) = (n : Int) + 1 by omega, s]
    have up : bgM B (n : Int) (A 0 (n : Int)) / F 2 ≤ if 0 < A 0 (n : Int) then max (barsM FM A B (n : Int)) (bgM B (n : Int) (A 0 (n : Int) - 1) / F 2 + 1) else barsM FM A B (n : Int) := by
      by_cases c : 0 < A 0 (n : Int)
      · rw [if_pos c]
        have q := (r.2.2.2 (A 0 (n : Int) - 1) (by omega) (by omega)).2.2.2
        rw [show A 0 (n : Int) - 1 + 1 = A 0 (n : Int) by omega] at q
        have w : bgM B (n : Int) (A 0 (n : Int)) / F 2 ≤ (bgM B (n : Int) (A 0 (n : Int)) - 1) / F 2 + 1 := by
          have e1 := Int.lt_ediv_add_one_mul_self (bgM B (n : Int) (A 0 (n : Int)) - 1) (b := F 2) (by omega)
          refine Int.le_of_lt_add_one (Int.ediv_lt_of_lt_mul (by omega) ?_)
          have e2 : ((bgM B (n : Int) (A 0 (n : Int)) - 1) / F 2 + 1 + 1) * F 2 = ((bgM B (n : Int) (A 0 (n : Int)) - 1) / F 2 + 1) * F 2 + F 2 := by rw [Int.add_mul ((bgM B (n : Int) (A 0 (n : Int)) - 1) / F 2 + 1), Int.one_mul]
          omega
        omega
      · rw [if_neg c, show A 0 (n : Int) = 0 by omega, show bgM B (n : Int) 0 = 0 from rfl, Int.zero_ediv]
        exact i1
    have lo : barsM FM A B (n : Int) ≤ if 0 < A 0 (n : Int) then max (barsM FM A B (n : Int)) (bgM B (n : Int) (A 0 (n : Int) - 1) / F 2 + 1) else barsM FM A B (n : Int) := by split <;> omega
    refine ⟨by omega, fun v v0 v1 => ?_⟩
    rcases (by omega : v < (n : Int) ∨ v = (n : Int)) with c | c
    · have := i2 v v0 c; omega
    · rw [c]; exact up
theorem REL.faults (h : REL F E T P S Av Fv FM A B) : fcF F T Fv (F 0) = fauM FM A B (FM 4) := by
  have n := h.2.1.nums h.1
  have b := h.bars (F 0).toNat (by omega)
  have bl := barsM_le h (F 0).toNat (by omega)
  rw [Int.toNat_of_nonneg n.1.1] at b bl
  unfold fauM
  rw [← h.2.1.1, ← h.2.1.2.2.1]
  refine pf_congr fun v a v0 v1 => ?_
  have v4 : v < 4 := by omega
  have r := (h.2.2.1 v v0 v4).1
  have p : fcP T Fv v (F 0) = psM A B v (F 0) := pf_congr fun k a k0 k1 => by rw [par_eq h ⟨v0, v4⟩ ⟨k0, by omega⟩]
  rw [r.1, r.2.1, r.lz, p, b]
  have := bl.2 v v0 v1
  omega
/-! meanTone -/
theorem mean_v (h : REL F E T P S Av Fv FM A B) {v : Int} (v0 : 0 ≤ v) (v1 : v < 4) : mnC (T v) (A 0 v) = mnV B v (A 0 v) ∧ mkC (T v) (A 0 v) = mtV B v (A 0 v) := by
  have r := (h.2.2.1 v v0 v1).1
  constructor
  · refine pf_congr fun i a i0 i1 => ?_
    obtain ⟨⟨-, t1, -, -, t4, -, -⟩, -⟩ := r.2.2.2 i i0 i1
    have rest := (r.2.2.2 i i0 i1).rest
    unfold mnE
    rw [t1, t4]
    by_cases c : B v (10 * i + 2) = 0
    · rw [if_pos (rest.mpr c), if_pos c, Int.add_zero]
    · rw [if_neg (fun q => c (rest.mp q)), if_neg c]
  · refine pf_congr fun i a i0 i1 => ?_
    obtain ⟨⟨-, t1, -, -, t4, -, -⟩, -⟩ := r.2.2.2 i i0 i1
    have rest := (r.2.2.2 i i0 i1).rest
    unfold mtE
    rw [t1, t4]
    by_cases c : B v (10 * i + 2) = 0
    · rw [if_pos (rest.mpr c), if_pos c, Int.add_zero]
    · rw [if_neg (fun q => c (rest.mp q)), if_neg c]
theorem mean_rng (h : REL F E T P S Av Fv FM A B) {v : Int} (v0 : 0 ≤ v) (v1 : v < 4) : ∀ k : Nat, (k : Int) ≤ A 0 v → (0 ≤ mnV B v k ∧ mnV B v k ≤ 73248 * k) ∧ (0 ≤ mtV B v k ∧ mtV B v k ≤ 672 * k) := by
  intro k
  induction k with
  | zero => intro _; exact ⟨⟨Int.le_refl 0, Int.le_refl 0⟩, Int.le_refl 0, Int.le_refl 0⟩
  | succ k ih =>
    intro hk
    obtain ⟨i1, i2⟩ := ih (by omega)
    have el := h.1.el ⟨v0, v1⟩ (e := (k : Int)) ⟨by omega, by omega⟩
    have tn := mTn_rng h.1 ⟨v0, v1⟩ (e := (k : Int)) ⟨by omega, by omega⟩
    have hn := ((h.2.2.1 v v0 v1).1.2.2.2 (k : Int) (by omega) (by omega)).2.1
    have tk : mTk B v (k : Int) = tkO (B v (10 * (k : Int) + 0)) (B v (10 * (k : Int) + 1)) := rfl
    have s1 : mnV B v ((k : Int) + 1) = mnV B v (k : Int) + mnE B v (k : Int) := pf_s _ _ (by omega)
    have s2 : mtV B v ((k : Int) + 1) = mtV B v (k : Int) + mtE B v (k : Int) := pf_s _ _ (by omega)
    rw [show ((k + 1 : Nat) : Int) = (k : Int) + 1 by omega, s1, s2]
    have e1 : 0 ≤ mnE B v (k : Int) ∧ mnE B v (k : Int) ≤ 73248 := by
      unfold mnE
      by_cases c : B v (10 * (k : Int) + 2) = 0
      · rw [if_pos c]; decide
      · rw [if_neg c]
        have t0 := (hn c).2
        refine ⟨Int.mul_nonneg t0 (by omega), ?_⟩
        have := Int.mul_le_mul (show mTn B v (k : Int) ≤ 109 by omega) (show mTk B v (k : Int) ≤ 672 by omega) (by omega) (by decide)
        omega
    have e2 : 0 ≤ mtE B v (k : Int) ∧ mtE B v (k : Int) ≤ 672 := by
      unfold mtE
      split <;> omega
    omega
theorem mean_all (h : REL F E T P S Av Fv FM A B) : ∀ n : Nat, (n : Int) ≤ 4 → mnD T Fv n = mnT A B n ∧ mkD T Fv n = mtT A B n ∧ (0 ≤ mnT A B n ∧ mnT A B n ≤ 14649600 * n) ∧ (0 ≤ mtT A B n ∧ mtT A B n ≤ 134400 * n) := by
  intro n
  induction n with
  | zero => intro _; exact ⟨rfl, rfl, ⟨Int.le_refl 0, Int.le_refl 0⟩, Int.le_refl 0, Int.le_refl 0⟩
  | succ n ih =>
    intro hn
    obtain ⟨i1, i2, i3, i4⟩ := ih (by omega)
    have r := (h.2.2.1 (n : Int) (by omega) (by omega)).1
    have m := h.1.many (v := (n : Int)) ⟨by omega, by omega⟩
    have q := mean_v h (v := (n : Int)) (by omega) (by omega)
    have g := mean_rng h (v := (n : Int)) (by omega) (by omega) (A 0 (n : Int)).toNat (by omega)
    rw [Int.toNat_of_nonneg m.1] at g
    have s1 : mnD T Fv ((n : Int) + 1) = mnD T Fv (n : Int) + mnC (T (n : Int)) (Fv (n : Int) 0) := pf_s _ _ (by omega)
    have s2 : mkD T Fv ((n : Int) + 1) = mkD T Fv (n : Int) + mkC (T (n : Int)) (Fv (n : Int) 0) := pf_s _ _ (by omega)
    have s3 : mnT A B ((n : Int) + 1) = mnT A B (n : Int) + mnV B (n : Int) (A 0 (n : Int)) := pf_s _ _ (by omega)
    have s4 : mtT A B ((n : Int) + 1) = mtT A B (n : Int) + mtV B (n : Int) (A 0 (n : Int)) := pf_s _ _ (by omega)
    rw [show ((n + 1 : Nat) : Int) = (n : Int) + 1 by omega, s1, s2, s3, s4, r.1, q.1, q.2, i1, i2]
    exact ⟨rfl, rfl, by omega, by omega⟩
end AN9
