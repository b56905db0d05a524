theorem KP.jm {A A' : Nat → Int → Int} {B B' : Int → Int → Int} (h : KP A B A' B') (v e : Int) : jmM A' B' v e = jmM A B v e := by
  unfold jmM
  rw [h.1, h.tn v e, h.tn v (e + 1), h.2 v e 6 (by omega) (by omega)]
def bJ (A : Nat → Int → Int) (B : Int → Int → Int) (v e : Int) : Int := if jmM A B v e then 0 else 1
theorem bJ_01 (A : Nat → Int → Int) (B : Int → Int → Int) (v e : Int) : 0 ≤ bJ A B v e ∧ bJ A B v e ≤ 1 := by
  unfold bJ
  split <;> omega
/-- how many sounds begin and end at an element -/
def ecS (A : Nat → Int → Int) (B : Int → Int → Int) (v e : Int) : Int := if B v (10 * e + 2) = 0 then 0 else bJ A B v (e - 1) + bJ A B v e
def ec (A : Nat → Int → Int) (B : Int → Int → Int) (v : Int) : Int → Int := pf 0 (fun e a => a + ecS A B v e)
def ecT (A : Nat → Int → Int) (B : Int → Int → Int) : Int → Int := pf 0 (fun v a => a + ec A B v (A 0 v))
theorem ecS_rng (A : Nat → Int → Int) (B : Int → Int → Int) (v e : Int) : 0 ≤ ecS A B v e ∧ ecS A B v e ≤ 2 := by
  have h1 := bJ_01 A B v (e - 1)
  have h2 := bJ_01 A B v e
  unfold ecS
  split <;> omega
theorem pf_add_mono {f : Int → Int} {lo hi : Int} {a b : Int} (h0 : 0 ≤ a) (hab : a ≤ b) (hf : ∀ i, a ≤ i → i < b → lo ≤ f i ∧ f i ≤ hi) : lo * (b - a) ≤ pf 0 (fun e z => z + f e) b - pf 0 (fun e z => z + f e) a ∧ pf 0 (fun e z => z + f e) b - pf 0 (fun e z => z + f e) a ≤ hi * (b - a) := by
  obtain ⟨k, rfl⟩ : ∃ k : Nat, b = a + k := ⟨(b - a).toNat, by omega⟩
  induction k with
  | zero => simp
  | succ k ih =>
    have q := ih (by omega) (fun i h1 h2 => hf i h1 (by omega))
    have r := hf (a + k) (by omega) (by omega)
    rw [show a + ((k + 1 : Nat) : Int) = a + k + 1 by omega, pf_s _ _ (by omega)]
    show lo * (a + k + 1 - a) ≤ pf 0 (fun e z => z + f e) (a + k) + f (a + k) - pf 0 (fun e z => z + f e) a ∧ pf 0 (fun e z => z + f e) (a + k) + f (a + k) - pf 0 (fun e z => z + f e) a ≤ hi * (a + k + 1 - a)
    rw [show a + (k : Int) + 1 - a = (a + k - a) + 1 by omega, Int.mul_add, Int.mul_add, Int.mul_one, Int.mul_one]
    omega
theorem ec_rng (A : Nat → Int → Int) (B : Int → Int → Int) (v : Int) {a b : Int} (h0 : 0 ≤ a) (hab : a ≤ b) : ec A B v a ≤ ec A B v b ∧ ec A B v b ≤ ec A B v a + 2 * (b - a) := by
  have q := pf_add_mono (f := ecS A B v) (lo := 0) (hi := 2) h0 hab (fun i _ _ => ecS_rng A B v i)
  unfold ec
  omega
theorem ec_0 (A : Nat → Int → Int) (B : Int → Int → Int) (v : Int) : ec A B v 0 = 0 := rfl
theorem ec_s (A : Nat → Int → Int) (B : Int → Int → Int) (v : Int) {e : Int} (h : 0 ≤ e) : ec A B v (e + 1) = ec A B v e + ecS A B v e := pf_s _ _ h
theorem ecT_s (A : Nat → Int → Int) (B : Int → Int → Int) {v : Int} (h : 0 ≤ v) : ecT A B (v + 1) = ecT A B v + ec A B v (A 0 v) := pf_s _ _ h
/-- the events, as they are put -/
def evS (A : Nat → Int → Int) (B : Int → Int → Int) (v e : Int) (g : Int → Int) : Int → Int :=
  if B v (10 * e + 2) = 0 then g else if jmM A B v e then (if jmM A B v (e - 1) then g else ptE g (ecT A B v + ec A B v e) (bgM B v e) v (mTn B v e) 1)
    else ptE (if jmM A B v (e - 1) then g else ptE g (ecT A B v + ec A B v e) (bgM B v e) v (mTn B v e) 1) (ecT A B v + ec A B v e + bJ A B v (e - 1)) (bgM B v e + mTk B v e) v (mTn B v e) 0
def evF (A : Nat → Int → Int) (B : Int → Int → Int) (v : Int) (g : Int → Int) : Int → Int → Int := pf g (evS A B v)
def evO (A : Nat → Int → Int) (B : Int → Int → Int) (g : Int → Int) : Int → Int → Int := pf g (fun v h => evF A B v h (A 0 v))
