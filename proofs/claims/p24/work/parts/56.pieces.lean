/-! the pieces of a value that is cut at the bars -/
section PC9
theorem fp_first {q : Int → Prop} [DecidablePred q] {n i : Int} (h0 : 0 ≤ i) (h1 : ∀ j, 0 ≤ j → j < i → ¬ q j) (h2 : q i) (h3 : i < n) : fp q n = i := by
  have a := fp_le (q := q) (n := n) (by omega)
  have b := fp_spec (q := q) (n := n) (by omega)
  rcases (by omega : fp q n < i ∨ fp q n = i ∨ i < fp q n) with z | z | z
  · exact absurd (b.1 (by omega)) (h1 _ a.1 z)
  · exact z
  · exact absurd h2 (b.2 i h0 z)
theorem kk_ok {b en a : Int} (hb : 48 ≤ b ∧ b % 12 = 0) (ha : 0 ≤ a ∧ a % 12 = 0) (he : a < en ∧ en % 12 = 0) : (12 ≤ en - a ∧ 12 ≤ (a / b + 1) * b - a ∧ (a / b + 1) * b - a ≤ b) ∧ kkC b en a = gV (min (en - a) ((a / b + 1) * b - a)) ∧ (0 ≤ kkC b en a ∧ kkC b en a < 15) ∧ valT (kkC b en a) ≤ en - a ∧ valT (kkC b en a) ≤ (a / b + 1) * b - a := by
  have e1 := Int.lt_ediv_add_one_mul_self a (b := b) (by omega)
  have e2 := Int.ediv_mul_le a (b := b) (by omega)
  have e3 : (a / b + 1) * b = a / b * b + b := by rw [Int.add_mul, Int.one_mul]
  obtain ⟨y, hy⟩ : ∃ y, b = 12 * y := ⟨b / 12, by omega⟩
  have e4 : a / b * b = 12 * (a / b * y) := by rw [show a / b * b = a / b * (12 * y) by rw [← hy], Int.mul_left_comm]
  have hl : 12 ≤ (a / b + 1) * b - a ∧ (a / b + 1) * b - a ≤ b := by
    generalize a / b * y = z at e4
    omega
  have hk : kkC b en a = gV (min (en - a) ((a / b + 1) * b - a)) := by
    have g := (gV_ok (t := min (en - a) ((a / b + 1) * b - a)) (by omega)).2.2
    rw [g]
    unfold kkC
    rw [show min en ((a / b + 1) * b) - a = min (en - a) ((a / b + 1) * b - a) by omega]
  have g := gV_ok (t := min (en - a) ((a / b + 1) * b - a)) (by omega)
  rw [hk]
  exact ⟨⟨by omega, hl.1, hl.2⟩, rfl, g.1, by omega, by omega⟩
theorem kk_one {b fr x : Int} (hx : 0 ≤ x ∧ x < 15) (hb : 48 ≤ b ∧ b % 12 = 0) (hf : 0 ≤ fr ∧ fr % 12 = 0) (h1 : (fr + valT x - 1) / b = fr / b) : kkC b (fr + valT x) fr = x := by
  have vt := valT_rng hx
  have v12 := valT_12' hx
  have k := kk_ok (b := b) (en := fr + valT x) (a := fr) hb hf ⟨by omega, by omega⟩
  have e1 := Int.lt_ediv_add_one_mul_self (fr + valT x - 1) (b := b) (by omega)
  rw [h1] at e1
  rw [k.2.1, show min (fr + valT x - fr) ((fr / b + 1) * b - fr) = valT x by omega, (gV_ok vt.1).2.2]
  exact fp_first hx.1 (fun j j0 j1 => by have := valT_dec j0 j1 hx.2; omega) (Int.le_refl _) hx.2
/-- the steps of both, as long as the end isn't reached -/
theorem pc_steps {b fr x : Int} (hx : 0 ≤ x ∧ x < 15) (hb : 48 ≤ b ∧ b % 12 = 0) (hf : 0 ≤ fr ∧ fr % 12 = 0) (pc0 : Int → Int) : ∀ q : Nat, (∀ j, 0 ≤ j → j < (q : Int) → ctA b (fr + valT x) fr j < fr + valT x) →
    (ppF b (valT x) (b - (fr - fr / b * b)) pc0 q).1 = fr + valT x - ctA b (fr + valT x) fr q ∧ (ppF b (valT x) (b - (fr - fr / b * b)) pc0 q).2.1 = (ctA b (fr + valT x) fr q / b + 1) * b - ctA b (fr + valT x) fr q ∧
    (∀ j, 0 ≤ j → j < (q : Int) → (ppF b (valT x) (b - (fr - fr / b * b)) pc0 q).2.2 j = kkC b (fr + valT x) (ctA b (fr + valT x) fr j) ∧ ctA b (fr + valT x) fr (j + 1) = ctA b (fr + valT x) fr j + valT (kkC b (fr + valT x) (ctA b (fr + valT x) fr j)) ∧ ctA b (fr + valT x) fr j / b = (ctA b (fr + valT x) fr (j + 1) - 1) / b) ∧
    fr + 12 * (q : Int) ≤ ctA b (fr + valT x) fr q ∧ ctA b (fr + valT x) fr q ≤ fr + valT x ∧ ctA b (fr + valT x) fr q % 12 = 0 := by
  have vt := valT_rng hx
  have v12 := valT_12' hx
  intro q
  induction q with
  | zero =>
    intro _
    refine ⟨?_, ?_, fun j j0 j1 => absurd j1 (by omega), ?_, ?_, hf.2⟩
    · show valT x = fr + valT x - fr; omega
    · show b - (fr - fr / b * b) = (fr / b + 1) * b - fr
      rw [Int.add_mul, Int.one_mul]; omega
    · show fr + 12 * 0 ≤ fr; omega
    · show fr ≤ fr + valT x; omega
  | succ q ih =>
    intro hq
    obtain ⟨i1, i2, i3, i4, i5, i6⟩ := ih (fun j j0 j1 => hq j j0 (by omega))
    have hlt := hq (q : Int) (by omega) (by omega)
    have k := kk_ok (b := b) (en := fr + valT x) (a := ctA b (fr + valT x) fr q) hb ⟨by omega, i6⟩ ⟨hlt, by omega⟩
    have kv := valT_rng k.2.2.1
    have k12 := valT_12' k.2.2.1
    have hs : ctA b (fr + valT x) fr ((q : Int) + 1) = ctA b (fr + valT x) fr q + valT (kkC b (fr + valT x) (ctA b (fr + valT x) fr q)) := by
      rw [ctA_s _ _ _ (by omega)]
      unfold ctL
      by_cases c : (fr + valT x - 1) / b = fr / b
      · rw [if_pos c]
        have q0 : (q : Int) = 0 := by
          rcases (by omega : (q : Int) = 0 ∨ 0 < (q : Int)) with z | z
          · exact z
          · have h1 := hq 1 (by omega) (by omega)
            have h2 : ctA b (fr + valT x) fr (0 + 1) = ctA b (fr + valT x) fr 0 + ctL b (fr + valT x) fr (ctA b (fr + valT x) fr 0) := ctA_s _ _ _ (by omega)
            have h3 : ctL b (fr + valT x) fr (ctA b (fr + valT x) fr 0) = fr + valT x - fr := if_pos c
            have h4 : ctA b (fr + valT x) fr 0 = fr := rfl
            rw [h3, h4] at h2
            rw [show (0 : Int) + 1 = 1 by omega] at h2
            omega
        rw [q0, show ctA b (fr + valT x) fr 0 = fr from rfl, kk_one hx hb hf c]
        omega
      · rw [if_neg c]
    have hp := ppF_s b (valT x) (b - (fr - fr / b * b)) pc0 (q := (q : Int)) (by omega)
    rw [show ((q + 1 : Nat) : Int) = (q : Int) + 1 by omega, hp]
    generalize ppF b (valT x) (b - (fr - fr / b * b)) pc0 (q : Int) = z at i1 i2 i3
    have hk2 : gV (min z.1 z.2.1) = kkC b (fr + valT x) (ctA b (fr + valT x) fr q) := by rw [i1, i2]; exact k.2.1.symm
    unfold ppS
    rw [hk2]
    generalize hkk9 : kkC b (fr + valT x) (ctA b (fr + valT x) fr q) = kk at k kv k12 hs
    obtain ⟨⟨k1, k2, k3⟩, -, -, k5, k6⟩ := k
    have hbar : ctA b (fr + valT x) fr q / b = (ctA b (fr + valT x) fr ((q : Int) + 1) - 1) / b := by
      rw [hs]
      have e1 := Int.lt_ediv_add_one_mul_self (ctA b (fr + valT x) fr q) (b := b) (by omega)
      have e2 := Int.ediv_mul_le (ctA b (fr + valT x) fr q) (b := b) (by omega)
      have e3 : (ctA b (fr + valT x) fr q / b + 1) * b = ctA b (fr + valT x) fr q / b * b + b := by rw [Int.add_mul, Int.one_mul]
      refine Int.le_antisymm (Int.ediv_le_ediv (by omega) (by omega)) ?_
      refine Int.le_of_lt_add_one (Int.ediv_lt_of_lt_mul (by omega) (by omega))
    refine ⟨?_, ?_, fun j j0 j1 => ?_, by omega, by omega, by omega⟩
    · show z.1 - valT kk = _
      rw [i1, hs]; omega
    · show (if z.2.1 - valT kk ≤ 0 then b else z.2.1 - valT kk) = _
      rw [i2, hs]
      by_cases c : (ctA b (fr + valT x) fr q / b + 1) * b - ctA b (fr + valT x) fr q - valT kk ≤ 0
      · rw [if_pos c]
        have e : ctA b (fr + valT x) fr q + valT kk = (ctA b (fr + valT x) fr q / b + 1) * b := by omega
        rw [e, Int.mul_ediv_cancel _ (by omega)]
        have e3 : (ctA b (fr + valT x) fr q / b + 1 + 1) * b = (ctA b (fr + valT x) fr q / b + 1) * b + b := by rw [Int.add_mul (ctA b (fr + valT x) fr q / b + 1), Int.one_mul]
        omega
      · rw [if_neg c]
        have e1 := Int.ediv_mul_le (ctA b (fr + valT x) fr q) (b := b) (by omega)
        have e : (ctA b (fr + valT x) fr q + valT kk) / b = ctA b (fr + valT x) fr q / b := by
          refine Int.le_antisymm (Int.le_of_lt_add_one (Int.ediv_lt_of_lt_mul (by omega) (by omega))) (Int.ediv_le_ediv (by omega) (by omega))
        rw [e]; omega
    · show zU z.2.2 (q : Int) kk j = _ ∧ _
      rcases (by omega : j < (q : Int) ∨ j = (q : Int)) with y | y
      · rw [zU_n (by omega)]; exact i3 j j0 y
      · rw [y, zU_s]
        have hkk : kk = kkC b (fr + valT x) (ctA b (fr + valT x) fr (q : Int)) := hkk9.symm
        exact ⟨hkk, by rw [← hkk]; exact hs, hbar⟩
/-- what both make of a value: N pieces, pcs their values' numbers -/
theorem pc_all {b fr x : Int} (hx : 0 ≤ x ∧ x < 15) (hb : 48 ≤ b ∧ b % 12 = 0) (hf : 0 ≤ fr ∧ fr % 12 = 0) (pc0 : Int → Int) {N : Int} (hN : N = cutN b (fr + valT x) fr) : ppN b (valT x) (b - (fr - fr / b * b)) pc0 = N ∧ (1 ≤ N ∧ N ≤ 56) ∧ ctA b (fr + valT x) fr N = fr + valT x ∧
    ∀ j, 0 ≤ j → j < N → (0 ≤ (ppF b (valT x) (b - (fr - fr / b * b)) pc0 N).2.2 j ∧ (ppF b (valT x) (b - (fr - fr / b * b)) pc0 N).2.2 j < 15) ∧ (fr ≤ ctA b (fr + valT x) fr j ∧ ctA b (fr + valT x) fr j < fr + valT x) ∧ (ppF b (valT x) (b - (fr - fr / b * b)) pc0 N).2.2 j = kkC b (fr + valT x) (ctA b (fr + valT x) fr j) ∧ ctA b (fr + valT x) fr (j + 1) = ctA b (fr + valT x) fr j + valT ((ppF b (valT x) (b - (fr - fr / b * b)) pc0 N).2.2 j) ∧ ctA b (fr + valT x) fr j / b = (ctA b (fr + valT x) fr (j + 1) - 1) / b := by
  have vt := valT_rng hx
  have v12 := valT_12' hx
  have a := fp_le (q := fun n => fr + valT x ≤ ctA b (fr + valT x) fr n) (n := 57) (by omega)
  have s := fp_spec (q := fun n => fr + valT x ≤ ctA b (fr + valT x) fr n) (n := 57) (by omega)
  have hN' : fp (fun n => fr + valT x ≤ ctA b (fr + valT x) fr n) 57 = N := hN.symm
  rw [hN'] at a s
  have st := pc_steps hx hb hf pc0 N.toNat (fun j j0 j1 => by have := s.2 j j0 (by omega); omega)
  rw [Int.toNat_of_nonneg a.1] at st
  obtain ⟨s1, s2, s3, s4, s5, s6⟩ := st
  have hN56 : N ≤ 56 := by omega
  have hend : ctA b (fr + valT x) fr N = fr + valT x := by have := s.1 (by omega); omega
  have hN1 : 1 ≤ N := by
    rcases (by omega : N = 0 ∨ 1 ≤ N) with z | z
    · rw [z, show ctA b (fr + valT x) fr 0 = fr from rfl] at hend; omega
    · exact z
  refine ⟨?_, ⟨hN1, hN56⟩, hend, fun j j0 j1 => ?_⟩
  · unfold ppN
    refine fp_first a.1 (fun j j0 j1 => ?_) (by rw [s1]; omega) (by omega)
    have q := pc_steps hx hb hf pc0 j.toNat (fun i i0 i1 => by have := s.2 i i0 (by omega); omega)
    rw [Int.toNat_of_nonneg j0] at q
    have := s.2 j j0 j1
    rw [q.1]; omega
  · have q := pc_steps hx hb hf pc0 j.toNat (fun i i0 i1 => by have := s.2 i i0 (by omega); omega)
    rw [Int.toNat_of_nonneg j0] at q
    obtain ⟨r1, r2, r3⟩ := s3 j j0 j1
    have hlt := s.2 j j0 j1
    have kr := (kk_ok (b := b) (en := fr + valT x) (a := ctA b (fr + valT x) fr j) hb ⟨by omega, q.2.2.2.2.2⟩ ⟨by omega, by omega⟩).2.2.1
    rw [r1]
    exact ⟨kr, ⟨by omega, by omega⟩, rfl, r2, r3⟩
/-- the parts and dots of the pieces -/
theorem el_pc {b fr x : Int} (hx : 0 ≤ x ∧ x < 15) (hb : 48 ≤ b ∧ b % 12 = 0) (hf : 0 ≤ fr ∧ fr % 12 = 0) {sd : Int → Int} (h0 : sd 0 = valP x) (h1 : sd 1 = valD x) {N : Int} (hN : N = cutN b (fr + valT x) fr) {j : Int} (hj : 0 ≤ j ∧ j < N) : elC b (fr + valT x) fr sd j 0 = valP (kkC b (fr + valT x) (ctA b (fr + valT x) fr j)) ∧ elC b (fr + valT x) fr sd j 1 = valD (kkC b (fr + valT x) (ctA b (fr + valT x) fr j)) ∧ (∀ w, 2 ≤ w → w ≤ 5 → elC b (fr + valT x) fr sd j w = sd w) ∧ elC b (fr + valT x) fr sd j 6 = if j = N - 1 then sd 6 else sd 2 := by
  obtain ⟨-, hNr, hend, hall⟩ := pc_all hx hb hf (fun _ => 0) hN
  have vt := valT_rng hx
  have one : (fr + valT x - 1) / b = fr / b → j = 0 := fun c => by
    rcases (by omega : j = 0 ∨ 0 < j) with z | z
    · exact z
    · have q := (hall 0 (by omega) (by omega)).2.2.2.1
      have q3 := (hall 0 (by omega) (by omega)).2.2.1
      have q2 := (hall 1 (by omega) (by omega)).2.1.2
      rw [q3, show ctA b (fr + valT x) fr 0 = fr from rfl, kk_one hx hb hf c, show (0 : Int) + 1 = 1 by omega] at q
      omega
  refine ⟨?_, ?_, fun w w0 w1 => ?_, ?_⟩
  · unfold elC
    by_cases c : (fr + valT x - 1) / b = fr / b
    · rw [if_neg (fun z => z.2 c), if_neg (fun z => z.2 c), if_neg (fun z => by omega), one c, show ctA b (fr + valT x) fr 0 = fr from rfl, kk_one hx hb hf c]; exact h0
    · rw [if_pos ⟨rfl, c⟩]
  · unfold elC
    rw [if_neg (fun z => by omega)]
    by_cases c : (fr + valT x - 1) / b = fr / b
    · rw [if_neg (fun z => z.2 c), if_neg (fun z => by omega), one c, show ctA b (fr + valT x) fr 0 = fr from rfl, kk_one hx hb hf c]; exact h1
    · rw [if_pos ⟨rfl, c⟩]
  · unfold elC
    rw [if_neg (fun z => by omega), if_neg (fun z => by omega), if_neg (fun z => by omega)]
  · unfold elC
    rw [if_neg (fun z => by omega), if_neg (fun z => by omega)]
    by_cases c : j = N - 1
    · rw [if_pos c, if_neg (fun z => by rw [show j + 1 = N by omega, hend] at z; omega)]
    · rw [if_neg c, if_pos ⟨rfl, (hall (j + 1) (by omega) (by omega)).2.1.2⟩]
end PC9
