/-! what Hand.add makes: the pieces of a value, by the table that holds them -/
section AF9
variable {b fr x v n0 N : Int} {B : Int → Int → Int} {sd : Int → Int}
theorem af_all (hx : 0 ≤ x ∧ x < 15) (hb : 48 ≤ b ∧ b % 12 = 0) (hf : 0 ≤ fr ∧ fr % 12 = 0) (s0 : sd 0 = valP x) (s1 : sd 1 = valD x) (h0 : 0 ≤ n0) (hfr : bgM B v n0 = fr) (hN : N = cutN b (fr + valT x) fr)
    (hB : ∀ j, 0 ≤ j → j < N → ∀ w, 0 ≤ w → w < 7 → B v (10 * (n0 + j) + w) = elC b (fr + valT x) fr sd j w) :
    (1 ≤ N ∧ N ≤ 56) ∧ ctA b (fr + valT x) fr N = fr + valT x ∧ (∀ j, 0 ≤ j → j < N → ctA b (fr + valT x) fr j < fr + valT x ∧ (fr ≤ ctA b (fr + valT x) fr j ∧ ctA b (fr + valT x) fr j % 12 = 0) ∧ (0 ≤ kkC b (fr + valT x) (ctA b (fr + valT x) fr j) ∧ kkC b (fr + valT x) (ctA b (fr + valT x) fr j) < 15) ∧ ctA b (fr + valT x) fr (j + 1) = ctA b (fr + valT x) fr j + valT (kkC b (fr + valT x) (ctA b (fr + valT x) fr j)) ∧ bgM B v (n0 + j) = ctA b (fr + valT x) fr j ∧ mTk B v (n0 + j) = valT (kkC b (fr + valT x) (ctA b (fr + valT x) fr j)) ∧
      (B v (10 * (n0 + j) + 0) = valP (kkC b (fr + valT x) (ctA b (fr + valT x) fr j)) ∧ B v (10 * (n0 + j) + 1) = valD (kkC b (fr + valT x) (ctA b (fr + valT x) fr j))) ∧ (∀ w, 2 ≤ w → w ≤ 5 → B v (10 * (n0 + j) + w) = sd w) ∧ B v (10 * (n0 + j) + 6) = if ctA b (fr + valT x) fr (j + 1) < fr + valT x then sd 2 else sd 6) := by
  obtain ⟨-, hN1, hend, hall⟩ := pc_all hx hb hf (fun _ => 0) hN
  have el := fun j (j0 : 0 ≤ j) (j1 : j < N) => el_pc hx hb hf s0 s1 hN (j := j) ⟨j0, j1⟩
  have ct12 : ∀ q : Nat, (q : Int) ≤ N → ctA b (fr + valT x) fr q % 12 = 0 := fun q hq => (pc_steps hx hb hf (fun _ => 0) q (fun j j0 j1 => (hall j j0 (by omega)).2.1.2)).2.2.2.2.2
  have kr : ∀ j, 0 ≤ j → j < N → (0 ≤ kkC b (fr + valT x) (ctA b (fr + valT x) fr j) ∧ kkC b (fr + valT x) (ctA b (fr + valT x) fr j) < 15) := fun j j0 j1 => by
    have q := hall j j0 j1
    rw [← q.2.2.1]; exact q.1
  have tk : ∀ j, 0 ≤ j → j < N → mTk B v (n0 + j) = valT (kkC b (fr + valT x) (ctA b (fr + valT x) fr j)) := fun j j0 j1 => by
    have q := el j j0 j1
    unfold mTk
    rw [hB j j0 j1 0 (by decide) (by decide), hB j j0 j1 1 (by decide) (by decide), q.1, q.2.1]
    exact tkO_val (kr j j0 j1)
  have st : ∀ j, 0 ≤ j → j < N → ctA b (fr + valT x) fr (j + 1) = ctA b (fr + valT x) fr j + valT (kkC b (fr + valT x) (ctA b (fr + valT x) fr j)) := fun j j0 j1 => by
    have q := hall j j0 j1
    rw [q.2.2.2.1, q.2.2.1]
  have bg : ∀ q : Nat, (q : Int) ≤ N → bgM B v (n0 + q) = ctA b (fr + valT x) fr q := by
    intro q
    induction q with
    | zero => intro _; rw [show n0 + ((0 : Nat) : Int) = n0 by omega, hfr]; rfl
    | succ q ih =>
      intro hq
      have i := ih (by omega)
      rw [show n0 + ((q + 1 : Nat) : Int) = n0 + (q : Int) + 1 by omega, bgM_s B v (by omega), i, tk (q : Int) (by omega) (by omega), show ((q + 1 : Nat) : Int) = (q : Int) + 1 by omega, st (q : Int) (by omega) (by omega)]
  refine ⟨hN1, hend, fun j j0 j1 => ?_⟩
  have q := hall j j0 j1
  have e := el j j0 j1
  have b9 := bg j.toNat (by omega)
  have c9 := ct12 j.toNat (by omega)
  rw [Int.toNat_of_nonneg j0] at b9 c9
  refine ⟨q.2.1.2, ⟨q.2.1.1, c9⟩, kr j j0 j1, st j j0 j1, b9, tk j j0 j1, ⟨(hB j j0 j1 0 (by decide) (by decide)).trans e.1, (hB j j0 j1 1 (by decide) (by decide)).trans e.2.1⟩, fun w w0 w1 => (hB j j0 j1 w (by omega) (by omega)).trans (e.2.2.1 w w0 w1), ?_⟩
  rw [hB j j0 j1 6 (by decide) (by decide), e.2.2.2]
  by_cases c : j = N - 1
  · rw [if_pos c, if_neg (by rw [show j + 1 = N by omega, hend]; omega)]
  · rw [if_neg c, if_pos (hall (j + 1) (by omega) (by omega)).2.1.2]
/-- what fits into its bar is one piece -/
theorem af_one (hx : 0 ≤ x ∧ x < 15) (hb : 48 ≤ b ∧ b % 12 = 0) (hf : 0 ≤ fr ∧ fr % 12 = 0) (hN : N = cutN b (fr + valT x) fr) (h1 : (fr + valT x - 1) / b = fr / b) : N = 1 ∧ kkC b (fr + valT x) (ctA b (fr + valT x) fr 0) = x := by
  obtain ⟨-, hN1, hend, hall⟩ := pc_all hx hb hf (fun _ => 0) hN
  have k1 := kk_one hx hb hf h1
  have q := (hall 0 (by omega) (by omega)).2.2.2.1
  have q3 := (hall 0 (by omega) (by omega)).2.2.1
  rw [q3, show ctA b (fr + valT x) fr 0 = fr from rfl, k1] at q
  refine ⟨?_, k1⟩
  rcases (by omega : N = 1 ∨ 1 < N) with z | z
  · exact z
  · have r := (hall 1 (by omega) z).2.1.2
    rw [show (1 : Int) = 0 + 1 by omega, q] at r
    omega
end AF9
/-- the values in the order in which Hand.add tries them: 14 first -/
def lim9 (p : Int) : Int := if p = 32 then 1 else if p = 16 then 2 else 3
theorem lim_lt {X : Int} (h : 0 ≤ X ∧ X < 15) : valD X < lim9 (valP X) := co15 (q := fun X => valD X < lim9 (valP X)) (by decide) h
theorem lim_next {X : Int} (h : 0 < X ∧ X < 15) : (valP (X - 1) = valP X ∧ valD (X - 1) = valD X + 1) ∨ (valD X + 1 = lim9 (valP X) ∧ valP X / 2 = valP (X - 1) ∧ valD (X - 1) = 0) := by
  obtain ⟨k, rfl⟩ : ∃ k : Nat, X = (k : Int) + 1 := ⟨(X - 1).toNat, by omega⟩
  have q : ∀ k : Nat, k < 14 → (valP ((k : Int) + 1 - 1) = valP ((k : Int) + 1) ∧ valD ((k : Int) + 1 - 1) = valD ((k : Int) + 1) + 1) ∨ (valD ((k : Int) + 1) + 1 = lim9 (valP ((k : Int) + 1)) ∧ valP ((k : Int) + 1) / 2 = valP ((k : Int) + 1 - 1) ∧ valD ((k : Int) + 1 - 1) = 0) := by decide +kernel
  exact q k (by omega)
theorem valPD_rng {X : Int} (h : 0 ≤ X ∧ X < 15) : (1 ≤ valP X ∧ valP X ≤ 32) ∧ 0 ≤ valD X ∧ valD X ≤ 2 := ⟨valP_rng h, valD_rng h⟩
/-- the best so far: 15 is none -/
def bst (y : Int) : Int → Int := fun k => if y = 15 then 0 else if k = 0 then valP y else if k = 1 then valD y else valT y
def bsR (kk X y : Int) : Prop := (X = 14 ∧ y = 15) ∨ (X < 14 ∧ y = max kk (X + 1))
theorem kk_first {b en a : Int} (hb : 48 ≤ b ∧ b % 12 = 0) (ha : 0 ≤ a ∧ a % 12 = 0) (he : a < en ∧ en % 12 = 0) {X : Int} (hX : 0 ≤ X ∧ X < 15) : valT X ≤ min (en - a) ((a / b + 1) * b - a) ↔ kkC b en a ≤ X := by
  have k := kk_ok hb ha he
  have g := (gV_ok (t := min (en - a) ((a / b + 1) * b - a)) (by omega)).2.2
  have s := fp_spec (q := fun k => valT k ≤ min (en - a) ((a / b + 1) * b - a)) (n := 15) (by omega)
  rw [← g, ← k.2.1] at s
  constructor
  · intro h
    rcases Int.lt_or_le X (kkC b en a) with z | z
    · exact absurd h (s.2 X hX.1 z)
    · exact z
  · intro h
    have h9 := s.1 k.2.2.1.2
    rcases (by omega : kkC b en a = X ∨ kkC b en a < X) with z | z
    · rw [← z]; exact h9
    · have := valT_dec k.2.2.1.1 z hX.2; omega
