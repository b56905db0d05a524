/-! the class's voice and the model's: what is told is the same -/
def BRe (bar : Int) (T P : Nat → Int → Int) (B : Int → Int → Int) (v e : Int) : Prop :=
  (T 0 e = bgM B v e ∧ T 1 e = mTk B v e ∧ T 2 e = B v (10 * e + 0) ∧ T 3 e = B v (10 * e + 1) ∧ T 4 e = mTn B v e ∧ T 5 e = B v (10 * e + 6) ∧ T 6 e = bgM B v e / bar) ∧
  (¬ B v (10 * e + 2) = 0 → (P 0 e = B v (10 * e + 3) ∧ P 1 e = B v (10 * e + 4) ∧ P 2 e = B v (10 * e + 5)) ∧ 0 ≤ mTn B v e) ∧ (B v (10 * e + 2) = 0 → B v (10 * e + 6) = 0) ∧ bgM B v e / bar = (bgM B v (e + 1) - 1) / bar
def BR (bar : Int) (T P : Nat → Int → Int) (F : Nat → Int) (A : Nat → Int → Int) (B : Int → Int → Int) (v : Int) : Prop :=
  F 0 = A 0 v ∧ F 1 = bgM B v (A 0 v) ∧ bgM B v (A 0 v) ≤ 100 * bar ∧ ∀ e, 0 ≤ e → e < A 0 v → BRe bar T P B v e
section RL9
variable {bar : Int} {T P : Nat → Int → Int} {F : Nat → Int} {A : Nat → Int → Int} {B : Int → Int → Int} {v : Int} {FM : Nat → Int}
theorem BRe.rest {e : Int} (h : BRe bar T P B v e) : mTn B v e = -1 ↔ B v (10 * e + 2) = 0 :=
  ⟨fun q => Decidable.byContradiction fun c => by have := (h.2.1 c).2; omega, fun q => if_pos q⟩
theorem BR.jn (h : BR bar T P F A B v) (e : Int) : jn (T 5) (T 4) (A 0 v) e ↔ jmM A B v e := by
  constructor
  · rintro ⟨a, b, c, d⟩
    obtain ⟨⟨-, -, -, -, t4, t5, -⟩, hn, hr, -⟩ := h.2.2.2 e a (by omega)
    obtain ⟨⟨-, -, -, -, t4', -, -⟩, -⟩ := h.2.2.2 (e + 1) (by omega) b
    rw [t5] at c
    rw [t4, t4'] at d
    have nb : ¬ B v (10 * e + 2) = 0 := fun q => by have := hr q; omega
    exact ⟨a, b, c, by have := (hn nb).2; omega, d⟩
  · rintro ⟨a, b, c, d, f⟩
    obtain ⟨⟨-, -, -, -, t4, t5, -⟩, -⟩ := h.2.2.2 e a (by omega)
    obtain ⟨⟨-, -, -, -, t4', -, -⟩, -⟩ := h.2.2.2 (e + 1) (by omega) b
    exact ⟨a, b, t5.trans c, by rw [t4, t4']; exact f⟩
theorem BR.lz (h : BR bar T P F A B v) : lzN (T 5) (T 4) (A 0 v) (A 0 v) = lzM A B v (A 0 v) := pf_congr fun i a h0 h1 => by
  obtain ⟨⟨-, -, -, -, -, t5, -⟩, -⟩ := h.2.2.2 i h0 h1
  have hj := h.jn i
  exact congrArg (fun z => a + z) (zite9 (x := (1 : Int)) (y := 0) ⟨fun q => ⟨t5.symm.trans q.1, fun z => q.2 (hj.mpr z)⟩, fun q => ⟨t5.trans q.1, fun z => q.2 (hj.mp z)⟩⟩)
theorem BR.gT (h : BR bar T P F A B v) (s8 : Int → Int) : gTo (T 4) (A 0 v) = pf (-1) (vpS A B s8 v 5) (A 0 v) := pf_congr fun i a h0 h1 => by
  obtain ⟨⟨-, -, -, -, t4, -, -⟩, -⟩ := h.2.2.2 i h0 h1
  unfold vpS
  rw [t4, if_neg (show ¬ (5 : Int) = 2 by decide), if_neg (show ¬ (5 : Int) = 4 by decide), if_pos (show (5 : Int) = 5 from rfl)]
theorem BR.lT (h : BR bar T P F A B v) (s8 : Int → Int) : lTo (T 4) (A 0 v) = pf (-1) (vpS A B s8 v 6) (A 0 v) := pf_congr fun i a h0 h1 => by
  obtain ⟨⟨-, -, -, -, t4, -, -⟩, -⟩ := h.2.2.2 i h0 h1
  unfold vpS
  rw [t4, if_neg (show ¬ (6 : Int) = 2 by decide), if_neg (show ¬ (6 : Int) = 4 by decide), if_neg (show ¬ (6 : Int) = 5 by decide)]
theorem BR.tA (h : BR bar T P F A B v) (x : Int) : tAt (T 0) (T 1) (T 4) (A 0 v) x = tAt (bgM B v) (mTk B v) (mTn B v) (A 0 v) x := by
  have q : fp (fun i => T 0 i ≤ x ∧ x < T 0 i + T 1 i) (A 0 v) = fp (fun i => bgM B v i ≤ x ∧ x < bgM B v i + mTk B v i) (A 0 v) := fp_congr fun i h0 h1 => by
    obtain ⟨⟨t0, t1, -⟩, -⟩ := h.2.2.2 i h0 h1
    rw [t0, t1]
  unfold tAt
  rw [q]
  by_cases c : fp (fun i => bgM B v i ≤ x ∧ x < bgM B v i + mTk B v i) (A 0 v) < A 0 v
  · rw [if_pos c, if_pos c]
    rcases Int.lt_or_le (A 0 v) 0 with hn | hn
    · have h9 : fp (fun i => bgM B v i ≤ x ∧ x < bgM B v i + mTk B v i) (A 0 v) = 0 := by
        unfold fp pf
        rw [show (A 0 v).toNat = 0 by omega]
        rfl
      omega
    · obtain ⟨⟨-, -, -, -, t4, -, -⟩, -⟩ := h.2.2.2 _ (fp_le (q := fun i => bgM B v i ≤ x ∧ x < bgM B v i + mTk B v i) hn).1 c
      exact t4
  · rw [if_neg c, if_neg c]
/-! signs by keys; the values -/
theorem sg_eq {key st : Int} (hk : -7 ≤ key ∧ key ≤ 7) (hs : 0 ≤ st ∧ st < 7) : sgK key st = sgM key st := by
  obtain ⟨k, rfl⟩ : ∃ k : Nat, key = (k : Int) - 7 := ⟨(key + 7).toNat, by omega⟩
  obtain ⟨j, rfl⟩ : ∃ j : Nat, st = (j : Int) := ⟨st.toNat, by omega⟩
  have h : ∀ k : Nat, k < 15 → ∀ j : Nat, j < 7 → sgK ((k : Int) - 7) (j : Int) = sgM ((k : Int) - 7) (j : Int) := by decide +kernel
  exact h k (by omega) j (by omega)
theorem valT_inj {k j : Int} (hk : 0 ≤ k ∧ k < 15) (hj : 0 ≤ j ∧ j < 15) (h : valT k = valT j) : k = j := by
  obtain ⟨a, rfl⟩ : ∃ a : Nat, k = (a : Int) := ⟨k.toNat, by omega⟩
  obtain ⟨b, rfl⟩ : ∃ b : Nat, j = (b : Int) := ⟨j.toNat, by omega⟩
  have q : ∀ a : Nat, a < 15 → ∀ b : Nat, b < 15 → valT (a : Int) = valT (b : Int) → a = b := by decide +kernel
  rw [q a (by omega) b (by omega) h]
theorem valT_dec {k j : Int} (hk : 0 ≤ k) (hkj : k < j) (hj : j < 15) : valT j < valT k := by
  obtain ⟨a, rfl⟩ : ∃ a : Nat, k = (a : Int) := ⟨k.toNat, by omega⟩
  obtain ⟨b, rfl⟩ : ∃ b : Nat, j = (b : Int) := ⟨j.toNat, by omega⟩
  have q : ∀ a : Nat, a < 15 → ∀ b : Nat, b < 15 → a < b → valT (b : Int) < valT (a : Int) := by decide +kernel
  exact q a (by omega) b (by omega) (by omega)
theorem findV_VK {pa d : Int} : 0 ≤ findV pa d ↔ VK pa d := by
  have a := fp_le (q := fun k => valP k = pa ∧ valD k = d) (n := 15) (by omega)
  have b := fp_spec (q := fun k => valP k = pa ∧ valD k = d) (n := 15) (by omega)
  unfold findV
  by_cases c : fp (fun k => valP k = pa ∧ valD k = d) 15 < 15
  · rw [if_pos c]
    exact ⟨fun _ => ⟨_, ⟨a.1, c⟩, (b.1 c).1, (b.1 c).2⟩, fun _ => a.1⟩
  · rw [if_neg c]
    refine ⟨fun q => absurd q (by decide), fun ⟨k, hk, h1, h2⟩ => absurd ⟨h1, h2⟩ (b.2 k hk.1 (by omega))⟩
theorem findV_at {pa d : Int} (h : 0 ≤ findV pa d) : (0 ≤ findV pa d ∧ findV pa d < 15) ∧ valP (findV pa d) = pa ∧ valD (findV pa d) = d ∧ valT (findV pa d) = tkO pa d := by
  have a := fp_le (q := fun k => valP k = pa ∧ valD k = d) (n := 15) (by omega)
  have b := fp_spec (q := fun k => valP k = pa ∧ valD k = d) (n := 15) (by omega)
  have c : fp (fun k => valP k = pa ∧ valD k = d) 15 < 15 := Decidable.byContradiction fun c => by
    unfold findV at h
    rw [if_neg c] at h
    omega
  have e : findV pa d = fp (fun k => valP k = pa ∧ valD k = d) 15 := if_pos c
  rw [e]
  have q := b.1 c
  refine ⟨⟨a.1, c⟩, q.1, q.2, ?_⟩
  have t := tkO_val (k := fp (fun k => valP k = pa ∧ valD k = d) 15) ⟨a.1, c⟩
  rw [q.1, q.2] at t
  exact t.symm
theorem isV_iff {pa d : Int} : isV pa d 15 = 1 ↔ 0 ≤ findV pa d := by
  rw [findV_VK]
  refine ⟨isV_VK (by omega), fun ⟨k, hk, h1, h2⟩ => ?_⟩
  have q : ∀ n : Nat, k < (n : Int) → isV pa d (n : Int) = 1 := by
    intro n
    induction n with
    | zero => intro c; exact absurd c (by omega)
    | succ n ih =>
      intro c
      have s : isV pa d ((n : Int) + 1) = if isV pa d (n : Int) = 0 then bI (valP (n : Int) = pa ∧ valD (n : Int) = d) else 1 := pf_s _ _ (by omega)
      rw [show ((n + 1 : Nat) : Int) = (n : Int) + 1 by omega, s]
      rcases (by omega : k < (n : Int) ∨ k = (n : Int)) with z | z
      · rw [ih z, if_neg (by decide)]
      · split
        · rw [← z]; exact (bI_t ⟨h1, h2⟩).symm
        · rfl
  exact q 15 (by omega)
/-! begins -/
theorem bg_mono {n : Int} (hM : MOK FM A B) (hv : 0 ≤ v ∧ v < 4) (hn : n = A 0 v) : ∀ i j, 0 ≤ i → i < j → j ≤ n → bgM B v i + 12 ≤ bgM B v j := by
  subst hn
  intro i j h0 h1 h2
  obtain ⟨k, rfl⟩ : ∃ k : Nat, j = i + 1 + (k : Int) := ⟨(j - i - 1).toNat, by omega⟩
  induction k with
  | zero =>
    have q := hM.el hv (e := i) ⟨h0, by omega⟩
    have s := bgM_s B v h0
    have t : mTk B v i = tkO (B v (10 * i + 0)) (B v (10 * i + 1)) := rfl
    rw [show i + 1 + ((0 : Nat) : Int) = i + 1 by omega, s]
    omega
  | succ k ih =>
    have r := ih (by omega) (by omega)
    have q := hM.el hv (e := i + 1 + (k : Int)) ⟨by omega, by omega⟩
    have s := bgM_s B v (e := i + 1 + (k : Int)) (by omega)
    have t : mTk B v (i + 1 + (k : Int)) = tkO (B v (10 * (i + 1 + (k : Int)) + 0)) (B v (10 * (i + 1 + (k : Int)) + 1)) := rfl
    rw [show i + 1 + ((k + 1 : Nat) : Int) = i + 1 + (k : Int) + 1 by omega, s]
    omega
theorem bg_inj (hM : MOK FM A B) (hv : 0 ≤ v ∧ v < 4) {i j : Int} (hi : 0 ≤ i ∧ i ≤ A 0 v) (hj : 0 ≤ j ∧ j ≤ A 0 v) (h : bgM B v i = bgM B v j) : i = j := by
  rcases (by omega : i < j ∨ j < i ∨ i = j) with c | c | c
  · have := bg_mono hM hv rfl i j hi.1 c hj.2; omega
  · have := bg_mono hM hv rfl j i hj.1 c hi.2; omega
  · exact c
/-! the counters of sounds, the events -/
theorem ec_so (h : BR bar T P F A B v) (s8 : Int → Int) {k : Int} (h0 : 0 ≤ k) (h1 : k ≤ A 0 v) : ec A B v k = 2 * pf 0 (vpS A B s8 v 2) k - (if jmM A B v (k - 1) then 1 else 0) := by
  obtain ⟨n, rfl⟩ : ∃ n : Nat, k = (n : Int) := ⟨k.toNat, by omega⟩
  induction n with
  | zero =>
    rw [if_neg (fun q => by have := q.1; omega)]
    rfl
  | succ n ih =>
    have q := ih (by omega) (by omega)
    have s1 : ec A B v ((n : Int) + 1) = ec A B v (n : Int) + ecS A B v (n : Int) := pf_s _ _ (by omega)
    have s2 : pf 0 (vpS A B s8 v 2) ((n : Int) + 1) = vpS A B s8 v 2 (n : Int) (pf 0 (vpS A B s8 v 2) (n : Int)) := pf_s _ _ (by omega)
    have hr := (h.2.2.2 (n : Int) (by omega) (by omega)).rest
    rw [show ((n + 1 : Nat) : Int) = (n : Int) + 1 by omega, s1, s2, q, show (n : Int) + 1 - 1 = (n : Int) by omega]
    unfold ecS vpS bJ
    by_cases c : B v (10 * (n : Int) + 2) = 0
    · rw [if_pos c, if_pos (hr.mpr c)]
      have j1 : ¬ jmM A B v ((n : Int) - 1) := fun z => by
        have a := z.2.2.2.1
        have b := z.2.2.2.2
        rw [show (n : Int) - 1 + 1 = (n : Int) by omega, hr.mpr c] at b
        exact a b
      have j2 : ¬ jmM A B v (n : Int) := fun z => z.2.2.2.1 (hr.mpr c)
      rw [if_neg j1, if_neg j2]
      omega
    · rw [if_neg c, if_neg (fun z => c (hr.mp z)), if_pos (show (2 : Int) = 2 from rfl)]
      by_cases a : jmM A B v ((n : Int) - 1)
      · rw [if_pos a, if_pos a, if_pos a]
        split <;> omega
      · rw [if_neg a, if_neg a, if_neg a]
        split <;> omega
end RL9
