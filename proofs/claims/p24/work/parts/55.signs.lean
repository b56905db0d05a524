/-! signs that are shown, beams -/
section SG9
variable {T P : Nat → Int → Int} {F : Nat → Int} {A : Nat → Int → Int} {B : Int → Int → Int} {v : Int} {FM : Nat → Int}
def SGI (FM : Nat → Int) (A : Nat → Int → Int) (B : Int → Int → Int) (v : Int) (h : Int → Int) (k : Int) (z : (Int → Int) × (Nat → Int → Int) × Int) : Prop :=
  (∀ e, 0 ≤ e → e < k → z.1 e = shM FM A B v h e) ∧ z.2.2 = pf 0 (vpS A B (shM FM A B v h) v 4) k ∧
  ∀ p, 0 ≤ p → p < 63 → (k = 0 → z.2.1 0 p = -1) ∧ (0 < k → z.2.1 0 p ≤ bgM B v (k - 1) / (FM 1 * 384 / FM 2) ∧ hoF FM B v h k p = if z.2.1 0 p = bgM B v (k - 1) / (FM 1 * 384 / FM 2) then z.2.1 1 p else sgM (FM 3) (p % 7))
theorem SG_step (hM : MOK FM A B) (hv : 0 ≤ v ∧ v < 4) (hb : BR (FM 1 * 384 / FM 2) T P F A B v) (h : Int → Int) {k : Int} (hk : 0 ≤ k ∧ k < A 0 v) {z : (Int → Int) × (Nat → Int → Int) × Int} (hz : SGI FM A B v h k z) : SGI FM A B v h (k + 1) (sgS (T 5) (T 4) (T 6) (P 0) (P 1) (P 2) (A 0 v) (FM 3) k z) := by
  obtain ⟨h1, h2, h3⟩ := hz
  have hbar : 48 ≤ FM 1 * 384 / FM 2 := by
    have a := hM.1
    rcases hM.2.1 with q | q | q <;> rw [q] <;> omega
  obtain ⟨⟨t0, t1, t2, t3, t4, t5, t6⟩, hn, hr, -⟩ := hb.2.2.2 k hk.1 hk.2
  have hrest := (hb.2.2.2 k hk.1 hk.2).rest
  have hel := hM.el hv hk
  have hjn := hb.jn (k - 1)
  have hs1 : hoF FM B v h (k + 1) = hoS FM B v k (hoF FM B v h k) := pf_s _ _ hk.1
  have hs2 : pf 0 (vpS A B (shM FM A B v h) v 4) (k + 1) = vpS A B (shM FM A B v h) v 4 k (pf 0 (vpS A B (shM FM A B v h) v 4) k) := pf_s _ _ hk.1
  -- what is held at k
  have hR : ∀ p, 0 ≤ p → p < 63 → z.2.1 0 p ≤ bgM B v k / (FM 1 * 384 / FM 2) ∧ hoR FM B v k (hoF FM B v h k) p = if z.2.1 0 p = bgM B v k / (FM 1 * 384 / FM 2) then z.2.1 1 p else sgM (FM 3) (p % 7) := by
    intro p p0 p1
    obtain ⟨a, b⟩ := h3 p p0 p1
    have fil : hfil (hoF FM B v h k) (FM 3) 63 p = sgM (FM 3) (p % 7) := if_pos ⟨p0, p1⟩
    unfold hoR barP
    rcases (by omega : k = 0 ∨ 0 < k) with c | c
    · have e0 : bgM B v k / (FM 1 * 384 / FM 2) = 0 := by
        rw [c, show bgM B v 0 = 0 from rfl]; exact Int.zero_ediv _
      rw [if_pos c, e0, if_neg (show ¬ (0 : Int) = -1 by decide), a c, if_neg (show ¬ (-1 : Int) = 0 by decide)]
      exact ⟨by decide, fil⟩
    · have b := b c
      have hle : bgM B v (k - 1) / (FM 1 * 384 / FM 2) ≤ bgM B v k / (FM 1 * 384 / FM 2) := Int.ediv_le_ediv (by omega) (Int.le_of_lt (bg_lt hM hv (k - 1) k (by omega) (by omega) (by omega)))
      rw [if_neg (show ¬ k = 0 by omega)]
      by_cases d : bgM B v k / (FM 1 * 384 / FM 2) = bgM B v (k - 1) / (FM 1 * 384 / FM 2)
      · rw [if_pos d, d]; exact b
      · rw [if_neg d, if_neg (show ¬ z.2.1 0 p = bgM B v k / (FM 1 * 384 / FM 2) by omega)]
        exact ⟨by omega, fil⟩
  have hkk : k + 1 - 1 = k := by omega
  unfold sgS
  by_cases c : mTn B v k = -1
  · rw [t4, if_pos c]
    have cB := hrest.mp c
    refine ⟨fun e q0 q1 => ?_, ?_, fun p p0 p1 => ⟨fun q => absurd q (by omega), fun _ => ?_⟩⟩
    · show zU z.1 k 0 e = _
      by_cases d : e = k
      · rw [d, zU_s]; unfold shM; rw [if_pos cB]
      · rw [zU_n d]; exact h1 e q0 (by omega)
    · show z.2.2 = _
      rw [hs2, h2]; unfold vpS; rw [if_pos c]
    · show z.2.1 0 p ≤ _ ∧ hoF FM B v h (k + 1) p = _
      rw [hkk, hs1]
      unfold hoS
      rw [if_pos cB]
      exact hR p p0 p1
  · have cB : ¬ B v (10 * k + 2) = 0 := fun q => c (hrest.mpr q)
    obtain ⟨⟨p0, p1, p2⟩, htn⟩ := hn cB
    have hpl : 7 * P 2 k + P 0 k = plM B v k := by rw [p0, p2]
    have hpr : 0 ≤ plM B v k ∧ plM B v k < 63 := by
      show 0 ≤ 7 * B v (10 * k + 5) + B v (10 * k + 3) ∧ 7 * B v (10 * k + 5) + B v (10 * k + 3) < 63
      omega
    have hp7 : plM B v k % 7 = P 0 k := by rw [p0]; show (7 * B v (10 * k + 5) + B v (10 * k + 3)) % 7 = _; omega
    have hRp := hR _ hpr.1 hpr.2
    have hold : (if z.2.1 0 (7 * P 2 k + P 0 k) = T 6 k then z.2.1 1 (7 * P 2 k + P 0 k) else sgK (FM 3) (P 0 k)) = hoR FM B v k (hoF FM B v h k) (plM B v k) := by
      rw [hpl, t6, hRp.2, hp7, sg_eq hM.2.2.1 (by rw [p0]; exact hel.2.2.2.2.1)]
    have hA : ∀ p, 0 ≤ p → p < 63 → (k + 1 = 0 → zR (zR z.2.1 0 (7 * P 2 k + P 0 k) (T 6 k)) 1 (7 * P 2 k + P 0 k) (P 1 k) 0 p = -1) ∧ (0 < k + 1 → zR (zR z.2.1 0 (7 * P 2 k + P 0 k) (T 6 k)) 1 (7 * P 2 k + P 0 k) (P 1 k) 0 p ≤ bgM B v (k + 1 - 1) / (FM 1 * 384 / FM 2) ∧ hoF FM B v h (k + 1) p = if zR (zR z.2.1 0 (7 * P 2 k + P 0 k) (T 6 k)) 1 (7 * P 2 k + P 0 k) (P 1 k) 0 p = bgM B v (k + 1 - 1) / (FM 1 * 384 / FM 2) then zR (zR z.2.1 0 (7 * P 2 k + P 0 k) (T 6 k)) 1 (7 * P 2 k + P 0 k) (P 1 k) 1 p else sgM (FM 3) (p % 7)) := by
      intro p q0 q1
      refine ⟨fun q => absurd q (by omega), fun _ => ?_⟩
      rw [hkk, hs1, hpl, t6, p1]
      unfold hoS
      rw [if_neg cB]
      by_cases d : p = plM B v k
      · rw [d, zU_s, zR_n (Or.inl (by decide)), zR_s, zR_s, if_pos rfl]
        exact ⟨Int.le_refl _, rfl⟩
      · rw [zU_n d, zR_n (Or.inr d), zR_n (Or.inr d), zR_n (Or.inr d), zR_n (Or.inr d)]
        exact hR p q0 q1
    have hsh : shM FM A B v h k = if ¬ hoR FM B v k (hoF FM B v h k) (plM B v k) = B v (10 * k + 4) ∧ ¬ jmM A B v (k - 1) then 1 else 0 := if_neg cB
    rw [t4, if_neg c, hold]
    by_cases y : ¬ hoR FM B v k (hoF FM B v h k) (plM B v k) = P 1 k ∧ ¬ jn (T 5) (T 4) (A 0 v) (k - 1)
    · rw [if_pos y]
      have sh1 : shM FM A B v h k = 1 := by rw [hsh, if_pos ⟨by rw [← p1]; exact y.1, fun q => y.2 (hjn.mpr q)⟩]
      refine ⟨fun e q0 q1 => ?_, ?_, hA⟩
      · show zU (zU z.1 k 0) k 1 e = _
        by_cases d : e = k
        · rw [d, zU_s, sh1]
        · rw [zU_n d, zU_n d]; exact h1 e q0 (by omega)
      · show z.2.2 + 1 = _
        rw [hs2, h2]; unfold vpS; rw [if_neg c, if_neg (show ¬ (4 : Int) = 2 by decide), if_pos (show (4 : Int) = 4 from rfl), sh1]
    · rw [if_neg y]
      have sh0 : shM FM A B v h k = 0 := by rw [hsh, if_neg (fun q => y ⟨by rw [p1]; exact q.1, fun w => q.2 (hjn.mp w)⟩)]
      refine ⟨fun e q0 q1 => ?_, ?_, hA⟩
      · show zU z.1 k 0 e = _
        by_cases d : e = k
        · rw [d, zU_s, sh0]
        · rw [zU_n d]; exact h1 e q0 (by omega)
      · show z.2.2 = _
        rw [hs2, h2]; unfold vpS; rw [if_neg c, if_neg (show ¬ (4 : Int) = 2 by decide), if_pos (show (4 : Int) = 4 from rfl), sh0, Int.add_zero]
theorem SG_all (hM : MOK FM A B) (hv : 0 ≤ v ∧ v < 4) (hb : BR (FM 1 * 384 / FM 2) T P F A B v) (h sh : Int → Int) (A0 : Nat → Int → Int) (hA : ∀ p, 0 ≤ p → p < 63 → A0 0 p = -1) : SGI FM A B v h (A 0 v) (sgF (T 5) (T 4) (T 6) (P 0) (P 1) (P 2) (A 0 v) (FM 3) sh A0 (A 0 v)) := by
  have q : ∀ k : Nat, (k : Int) ≤ A 0 v → SGI FM A B v h k (sgF (T 5) (T 4) (T 6) (P 0) (P 1) (P 2) (A 0 v) (FM 3) sh A0 k) := by
    intro k
    induction k with
    | zero => intro _; exact ⟨fun e q0 q1 => absurd q1 (by omega), rfl, fun p q0 q1 => ⟨fun _ => hA p q0 q1, fun q => absurd q (by decide)⟩⟩
    | succ k ih =>
      intro hk
      rw [show ((k + 1 : Nat) : Int) = (k : Int) + 1 by omega, show sgF (T 5) (T 4) (T 6) (P 0) (P 1) (P 2) (A 0 v) (FM 3) sh A0 ((k : Int) + 1) = sgS (T 5) (T 4) (T 6) (P 0) (P 1) (P 2) (A 0 v) (FM 3) k (sgF (T 5) (T 4) (T 6) (P 0) (P 1) (P 2) (A 0 v) (FM 3) sh A0 k) from pf_s _ _ (by omega)]
      exact SG_step hM hv hb h ⟨by omega, by omega⟩ (ih (by omega))
  have r := q (A 0 v).toNat (by have := (hM.many hv).1; omega)
  rw [Int.toNat_of_nonneg (hM.many hv).1] at r
  exact r
/-! beams: g an element and the next one are in one beam -/
theorem stC_s' {g : Int → Prop} [DecidablePred g] {m : Int} (h : 0 ≤ m) : stC g (m + 1) = stC g m + (if ¬ g (m - 1) ∧ g m then 1 else 0) := pf_s _ _ h
theorem stC_pos {g : Int → Prop} [DecidablePred g] (hg : ∀ i, g i → 0 ≤ i) : ∀ m : Nat, 0 ≤ stC g m ∧ (g ((m : Int) - 1) → 1 ≤ stC g m) := by
  intro m
  induction m with
  | zero => exact ⟨Int.le_refl 0, fun q => by have := hg _ q; omega⟩
  | succ m ih =>
    rw [show ((m + 1 : Nat) : Int) = (m : Int) + 1 by omega, stC_s' (by omega), show (m : Int) + 1 - 1 = (m : Int) by omega]
    refine ⟨by have := ih.1; split <;> omega, fun q => ?_⟩
    by_cases c : g ((m : Int) - 1)
    · have := ih.2 c
      split <;> omega
    · rw [if_pos ⟨c, q⟩]; have := ih.1; omega
theorem stC_last {g : Int → Prop} [DecidablePred g] {m : Int} (hm : 0 ≤ m) (hg : ¬ g (m - 1)) : stC g (m - 1) = stC g m := by
  rcases (by omega : m = 0 ∨ 0 ≤ m - 1) with c | c
  · rw [c]; rfl
  · have s := stC_s' (g := g) c
    rw [if_neg (fun z => hg z.2), show m - 1 + 1 = m by omega] at s
    omega
def bmG (g : Int → Prop) [DecidablePred g] (k : Int) (a : (Int → Int) × Int) : (Int → Int) × Int :=
  if g (k - 1) then
    if zU a.1 k (-1) (k - 1) = -1 then (zU (zU (zU a.1 k (-1)) (k - 1) a.2) k a.2, a.2 + 1)
    else (zU (zU a.1 k (-1)) k (zU a.1 k (-1) (k - 1)), a.2)
  else (zU a.1 k (-1), a.2)
theorem BM_all {g : Int → Prop} [DecidablePred g] (hg : ∀ i, g i → 0 ≤ i) (bm : Int → Int) : ∀ k : Nat, (pf (bm, 0) (bmG g) k).2 = stC g ((k : Int) - 1) ∧ ∀ j, 0 ≤ j → j < (k : Int) → (pf (bm, 0) (bmG g) k).1 j = if g (j - 1) ∨ (g j ∧ j + 1 < (k : Int)) then stC g (j + 1) - 1 else -1 := by
  intro k
  induction k with
  | zero => exact ⟨rfl, fun j q0 q1 => absurd q1 (by omega)⟩
  | succ k ih =>
    rw [show ((k + 1 : Nat) : Int) = (k : Int) + 1 by omega, show pf (bm, 0) (bmG g) ((k : Int) + 1) = bmG g k (pf (bm, 0) (bmG g) k) from pf_s _ _ (by omega), show (k : Int) + 1 - 1 = (k : Int) by omega]
    generalize pf (bm, 0) (bmG g) (k : Int) = z at ih
    obtain ⟨i1, i2⟩ := ih
    have hkp : stC g (k : Int) = stC g ((k : Int) - 1) + (if ¬ g ((k : Int) - 1 - 1) ∧ g ((k : Int) - 1) then 1 else 0) := by
      rcases (by omega : (k : Int) = 0 ∨ 0 ≤ (k : Int) - 1) with c | c
      · rw [c, if_neg (fun q => by have := hg _ q.2; omega)]; rfl
      · have := stC_s' (g := g) c
        rw [show (k : Int) - 1 + 1 = (k : Int) by omega] at this
        exact this
    have hk1 : stC g ((k : Int) + 1) = stC g (k : Int) + (if ¬ g ((k : Int) - 1) ∧ g (k : Int) then 1 else 0) := stC_s' (by omega)
    unfold bmG
    by_cases c : g ((k : Int) - 1)
    · have hk0 := hg _ c
      have old := i2 ((k : Int) - 1) hk0 (by omega)
      rw [show (k : Int) - 1 + 1 = (k : Int) by omega] at old
      have e1 : zU z.1 (k : Int) (-1) ((k : Int) - 1) = z.1 ((k : Int) - 1) := zU_n (by omega)
      rw [if_neg (fun q => q.1 c)] at hk1
      rw [if_pos c, e1]
      by_cases d : g ((k : Int) - 1 - 1)
      · have sp : 1 ≤ stC g (k : Int) := by
          have := (stC_pos hg ((k : Int) - 1).toNat).2
          rw [Int.toNat_of_nonneg hk0] at this
          have := this d
          split at hkp <;> omega
        rw [if_pos (Or.inl d)] at old
        rw [if_neg (fun q => q.1 d)] at hkp
        rw [if_neg (show ¬ z.1 ((k : Int) - 1) = -1 by omega)]
        refine ⟨by show z.2 = stC g (k : Int); omega, fun j q0 q1 => ?_⟩
        show zU (zU z.1 (k : Int) (-1)) (k : Int) (z.1 ((k : Int) - 1)) j = _
        by_cases y : j = (k : Int)
        · rw [y, zU_s, if_pos (Or.inl c), old, hk1, Int.add_zero]
        · rw [zU_n y, zU_n y, i2 j q0 (by omega)]
          by_cases w : j = (k : Int) - 1
          · rw [w, if_pos (Or.inl d), if_pos (Or.inl d)]
          · exact zite9 ⟨fun q => q.elim Or.inl fun q => Or.inr ⟨q.1, by omega⟩, fun q => q.elim Or.inl fun q => Or.inr ⟨q.1, by omega⟩⟩
      · rw [if_neg (fun q => q.elim d fun q => by omega)] at old
        rw [if_pos ⟨d, c⟩] at hkp
        rw [if_pos old]
        refine ⟨by show z.2 + 1 = stC g (k : Int); omega, fun j q0 q1 => ?_⟩
        show zU (zU (zU z.1 (k : Int) (-1)) ((k : Int) - 1) z.2) (k : Int) z.2 j = _
        by_cases y : j = (k : Int)
        · rw [y, zU_s, if_pos (Or.inl c), hk1]; omega
        · rw [zU_n y]
          by_cases w : j = (k : Int) - 1
          · rw [w, zU_s, if_pos (Or.inr ⟨c, by omega⟩), show (k : Int) - 1 + 1 = (k : Int) by omega]; omega
          · rw [zU_n w, zU_n y, i2 j q0 (by omega)]
            exact zite9 ⟨fun q => q.elim Or.inl fun q => Or.inr ⟨q.1, by omega⟩, fun q => q.elim Or.inl fun q => Or.inr ⟨q.1, by omega⟩⟩
    · rw [if_neg (fun q => c q.2)] at hkp
      rw [if_neg c]
      refine ⟨by show z.2 = stC g (k : Int); omega, fun j q0 q1 => ?_⟩
      show zU z.1 (k : Int) (-1) j = _
      by_cases y : j = (k : Int)
      · rw [y, zU_s, if_neg (fun q => q.elim c fun q => by omega)]
      · rw [zU_n y, i2 j q0 (by omega)]
        exact zite9 ⟨fun q => q.elim Or.inl fun q => Or.inr ⟨q.1, by omega⟩, fun q => q.elim Or.inl fun q => Or.inr ⟨q.1, by
          have : j ≠ (k : Int) - 1 := fun w => c (by rw [← w]; exact q.1)
          omega⟩⟩
theorem BR.gr (hM : MOK FM A B) (hv : 0 ≤ v ∧ v < 4) {bar : Int} (hb : BR bar T P F A B v) (e : Int) : gr (T 4) (T 2) (T 0) (384 / FM 2) (A 0 v) e ↔ gM FM A B v e := by
  constructor
  · rintro ⟨a, b, ⟨c1, c2⟩, ⟨d1, d2⟩, f⟩
    obtain ⟨⟨t0, -, t2, -, t4, -, -⟩, -⟩ := hb.2.2.2 e a (by omega)
    obtain ⟨⟨s0, -, s2, -, s4, -, -⟩, -⟩ := hb.2.2.2 (e + 1) (by omega) b
    have r1 := (hb.2.2.2 e a (by omega)).rest
    have r2 := (hb.2.2.2 (e + 1) (by omega) b).rest
    have m1 := (hM.el hv (e := e) ⟨a, by omega⟩).2.2.2.1
    have m2 := (hM.el hv (e := e + 1) ⟨by omega, b⟩).2.2.2.1
    rw [t4] at c1; rw [s4] at d1; rw [t2] at c2; rw [s2] at d2; rw [t0, s0] at f
    have n1 : ¬ B v (10 * e + 2) = 0 := fun q => c1 (r1.mpr q)
    have n2 : ¬ B v (10 * (e + 1) + 2) = 0 := fun q => d1 (r2.mpr q)
    exact ⟨a, b, ⟨by omega, c2⟩, ⟨by omega, d2⟩, f⟩
  · rintro ⟨a, b, ⟨c1, c2⟩, ⟨d1, d2⟩, f⟩
    obtain ⟨⟨t0, -, t2, -, t4, -, -⟩, -⟩ := hb.2.2.2 e a (by omega)
    obtain ⟨⟨s0, -, s2, -, s4, -, -⟩, -⟩ := hb.2.2.2 (e + 1) (by omega) b
    have r1 := (hb.2.2.2 e a (by omega)).rest
    have r2 := (hb.2.2.2 (e + 1) (by omega) b).rest
    exact ⟨a, b, ⟨by rw [t4]; exact fun q => by have := r1.mp q; omega, by rw [t2]; exact c2⟩, ⟨by rw [s4]; exact fun q => by have := r2.mp q; omega, by rw [s2]; exact d2⟩, by rw [t0, s0]; exact f⟩
theorem BM_eq (hM : MOK FM A B) (hv : 0 ≤ v ∧ v < 4) {bar : Int} (hb : BR bar T P F A B v) (bm : Int → Int) : (bmF (T 4) (T 2) (T 0) (384 / FM 2) (A 0 v) bm (A 0 v)).2 = stC (gM FM A B v) (A 0 v) ∧ ∀ j, 0 ≤ j → j < A 0 v → (bmF (T 4) (T 2) (T 0) (384 / FM 2) (A 0 v) bm (A 0 v)).1 j = bmN (gM FM A B v) j := by
  have hn := (hM.many hv).1
  have e : bmF (T 4) (T 2) (T 0) (384 / FM 2) (A 0 v) bm (A 0 v) = pf (bm, 0) (bmG (gM FM A B v)) (A 0 v) := pf_congr fun i a h0 h1 => by
    unfold bmS bmG
    by_cases c : gM FM A B v (i - 1)
    · rw [if_pos c, if_pos ((hb.gr hM hv _).mpr c)]
    · rw [if_neg c, if_neg (fun q => c ((hb.gr hM hv _).mp q))]
  have q := BM_all (g := gM FM A B v) (fun i z => z.1) bm (A 0 v).toNat
  rw [Int.toNat_of_nonneg hn] at q
  rw [e]
  refine ⟨q.1.trans ?_, fun j h0 h1 => (q.2 j h0 h1).trans ?_⟩
  · exact stC_last hn (fun z => by have := z.2.1; omega)
  · exact zite9 ⟨fun z => z.elim Or.inl fun z => Or.inr z.1, fun z => z.elim Or.inl fun z => Or.inr ⟨z, z.2.1⟩⟩
end SG9
