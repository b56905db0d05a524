/-! how many sounds there are: a call makes at most one more -/
section CN9
variable {F F' : Nat → Int} {E E' : Nat → Int → Int} {T P S Av T' P' S' Av' : Int → Nat → Int → Int} {Fv Fv' : Int → Nat → Int} {FM FM' : Nat → Int} {A A' : Nat → Int → Int} {B B' : Int → Int → Int}
def stE (A : Nat → Int → Int) (B : Int → Int → Int) (v e : Int) : Int := if mTn B v e = -1 then 0 else if jmM A B v (e - 1) then 0 else 1
def smF (f : Int → Int) : Int → Int := pf 0 (fun e a => a + f e)
abbrev CN (A : Nat → Int → Int) (B : Int → Int → Int) (v : Int) : Int → Int := smF (stE A B v)
theorem stE_01 (A : Nat → Int → Int) (B : Int → Int → Int) (v e : Int) : 0 ≤ stE A B v e ∧ stE A B v e ≤ 1 := by
  unfold stE
  split
  · exact ⟨by decide, by decide⟩
  · split <;> exact ⟨by decide, by decide⟩
theorem CN_vp (A : Nat → Int → Int) (B : Int → Int → Int) (s8 : Int → Int) (v k : Int) : pf 0 (vpS A B s8 v 2) k = CN A B v k := pf_congr fun e a _ _ => by
  unfold vpS stE
  by_cases c : mTn B v e = -1
  · rw [if_pos c, if_pos c]; omega
  · rw [if_neg c, if_neg c, if_pos rfl]
    by_cases d : jmM A B v (e - 1)
    · rw [if_pos d, if_pos d]
    · rw [if_neg d, if_neg d]
theorem smF_s (f : Int → Int) {n : Int} (h : 0 ≤ n) : smF f (n + 1) = smF f n + f n := pf_s _ _ h
theorem smF_up {f g : Int → Int} (hf : ∀ e, 0 ≤ f e ∧ f e ≤ 1) (hg : ∀ e, 0 ≤ g e ∧ g e ≤ 1) (i : Int) : ∀ k : Nat, (∀ e, 0 ≤ e → e < (k : Int) → e ≠ i → g e ≤ f e) → smF g k ≤ smF f k + (if 0 ≤ i ∧ i < (k : Int) then 1 else 0) := by
  intro k
  induction k with
  | zero => intro _; show (0 : Int) ≤ 0 + _; split <;> omega
  | succ k ih =>
    intro h
    have q := ih (fun e e0 e1 => h e e0 (by omega))
    rw [show ((k + 1 : Nat) : Int) = (k : Int) + 1 by omega, smF_s _ (by omega), smF_s _ (by omega)]
    have a := hf (k : Int)
    have b := hg (k : Int)
    by_cases c : (k : Int) = i
    · rw [if_neg (by omega)] at q
      rw [if_pos (by omega)]
      omega
    · have r := h (k : Int) (by omega) (by omega) c
      by_cases d : 0 ≤ i ∧ i < (k : Int)
      · rw [if_pos d] at q; rw [if_pos (by omega)]; omega
      · rw [if_neg d] at q; rw [if_neg (by omega)]; omega
theorem smF_1 {f g : Int → Int} (hf : ∀ e, 0 ≤ f e ∧ f e ≤ 1) (hg : ∀ e, 0 ≤ g e ∧ g e ≤ 1) (i : Int) {n : Int} (hn : 0 ≤ n) (h : ∀ e, 0 ≤ e → e < n → e ≠ i → g e ≤ f e) : smF g n ≤ smF f n + 1 := by
  obtain ⟨k, rfl⟩ : ∃ k : Nat, n = (k : Int) := ⟨n.toNat, by omega⟩
  have q := smF_up hf hg i k h
  split at q <;> omega
theorem smF_le {f g : Int → Int} {n : Int} (hn : 0 ≤ n) (h : ∀ e, 0 ≤ e → e < n → g e ≤ f e) : smF g n ≤ smF f n := by
  obtain ⟨k, rfl⟩ : ∃ k : Nat, n = (k : Int) := ⟨n.toNat, by omega⟩
  induction k with
  | zero => exact Int.le_refl _
  | succ k ih =>
    have q := ih (by omega) (fun e e0 e1 => h e e0 (by omega))
    have r := h (k : Int) (by omega) (by omega)
    rw [show ((k + 1 : Nat) : Int) = (k : Int) + 1 by omega, smF_s _ (by omega), smF_s _ (by omega)]
    omega
/-- f, nothing from n on -/
theorem smF_cut (f : Int → Int) {n : Int} (hn : 0 ≤ n) : ∀ k : Nat, smF (fun e => if e < n then f e else 0) (n + k) = smF f n := by
  intro k
  induction k with
  | zero =>
    rw [show n + ((0 : Nat) : Int) = n by omega]
    exact pf_congr fun e a _ e1 => by
      show a + (if e < n then f e else 0) = _
      rw [if_pos e1]
  | succ k ih =>
    rw [show n + ((k + 1 : Nat) : Int) = n + (k : Int) + 1 by omega, smF_s _ (by omega), ih]
    show _ + (if n + (k : Int) < n then _ else (0 : Int)) = _
    rw [if_neg (by omega)]
    omega
theorem ec_CN (hM : MOK FM A B) {bar v : Int} (hv : 0 ≤ v ∧ v < 4) {T P : Nat → Int → Int} {F : Nat → Int} (h : BR bar T P F A B v) : ec A B v (A 0 v) = 2 * CN A B v (A 0 v) := by
  have q := ec_so h (fun _ => 0) (hM.many hv).1 (Int.le_refl _)
  rw [if_neg (fun z : jmM A B v (A 0 v - 1) => by have := z.2.1; omega), CN_vp] at q
  omega
theorem ecT_up (h : REL F E T P S Av Fv FM A B) (h' : REL F' E' T' P' S' Av' Fv' FM' A' B') (h0 : F' 0 = F 0) (v : Int) (hc : ∀ u, 0 ≤ u → u < F 0 → CN A' B' u (A' 0 u) ≤ CN A B u (A 0 u) + (if u = v then 1 else 0)) : ecT A' B' (FM' 4) ≤ ecT A B (FM 4) + 2 := by
  rw [← h'.2.1.1, ← h.2.1.1, h0]
  have n := (h.2.1.nums h.1).1
  have hb := h.BRs
  have hb' := h'.BRs
  have hM := h.1
  have hM' := h'.1
  clear h h'
  have main : ∀ k : Nat, (k : Int) ≤ F 0 → ecT A' B' k ≤ ecT A B k + (if 0 ≤ v ∧ v < (k : Int) then 2 else 0) := by
    intro k
    induction k with
    | zero => intro _; show (0 : Int) ≤ 0 + _; split <;> omega
    | succ k ih =>
      intro hk
      have q := ih (by omega)
      have r := hc (k : Int) (by omega) (by omega)
      have e1 := ec_CN hM ⟨by omega, by omega⟩ (hb (k : Int) (by omega) (by omega))
      have e2 := ec_CN hM' ⟨by omega, by omega⟩ (hb' (k : Int) (by omega) (by omega))
      have s1 : ecT A B ((k : Int) + 1) = ecT A B (k : Int) + ec A B (k : Int) (A 0 (k : Int)) := pf_s _ _ (by omega)
      have s2 : ecT A' B' ((k : Int) + 1) = ecT A' B' (k : Int) + ec A' B' (k : Int) (A' 0 (k : Int)) := pf_s _ _ (by omega)
      rw [show ((k + 1 : Nat) : Int) = (k : Int) + 1 by omega, s1, s2, e1, e2]
      by_cases c : (k : Int) = v
      · rw [if_pos c] at r
        rw [if_neg (by omega)] at q
        rw [if_pos (by omega)]
        omega
      · rw [if_neg c] at r
        by_cases d : 0 ≤ v ∧ v < (k : Int)
        · rw [if_pos d] at q; rw [if_pos (by omega)]; omega
        · rw [if_neg d] at q; rw [if_neg (by omega)]; omega
  have q := main (F 0).toNat (by omega)
  rw [Int.toNat_of_nonneg n.1] at q
  split at q <;> omega
theorem stE_eq {v e : Int} (h1 : mTn B' v e = -1 ↔ mTn B v e = -1) (h2 : jmM A' B' v (e - 1) ↔ jmM A B v (e - 1)) : stE A' B' v e = stE A B v e := by
  unfold stE
  by_cases c : mTn B v e = -1
  · rw [if_pos c, if_pos (h1.mpr c)]
  · rw [if_neg c, if_neg (fun z => c (h1.mp z))]
    by_cases d : jmM A B v (e - 1)
    · rw [if_pos d, if_pos (h2.mpr d)]
    · rw [if_neg d, if_neg (fun z => d (h2.mp z))]
theorem stE_same {v e : Int} (hA : e < A' 0 v ↔ e < A 0 v) (hs : ∀ i, 0 ≤ i → i ≤ e → ∀ w, 0 ≤ w → w < 7 → B' v (10 * i + w) = B v (10 * i + w)) (e0 : 0 ≤ e) : stE A' B' v e = stE A B v e := by
  have t0 := tn_same (hs e e0 (Int.le_refl _))
  refine stE_eq (by rw [t0]) ?_
  by_cases c : 0 ≤ e - 1
  · have s := hs (e - 1) c (by omega)
    unfold jmM
    rw [tn_same s, s 6 (by decide) (by decide), show e - 1 + 1 = e by omega, t0, hA]
  · exact ⟨fun z => absurd z.1 c, fun z => absurd z.1 c⟩
theorem CN_same {u : Int} (hA : A' 0 u = A 0 u) (hs : ∀ i, 0 ≤ i → i < A 0 u → ∀ w, 0 ≤ w → w < 7 → B' u (10 * i + w) = B u (10 * i + w)) : CN A' B' u (A' 0 u) = CN A B u (A 0 u) := by
  rw [hA]
  exact pf_congr fun e a e0 e1 => by rw [stE_same (A := A) (A' := A') (by rw [hA]) (fun i i0 i1 => hs i i0 (by omega)) e0]
theorem CN_less {u n : Int} (hA : A' 0 u = n) (hn : 0 ≤ n ∧ n ≤ A 0 u) : CN A' B u (A' 0 u) ≤ CN A B u (A 0 u) := by
  rw [hA]
  have q : CN A' B u n = smF (stE A B u) n := pf_congr fun e a e0 e1 => by rw [stE_same (A := A) (A' := A') (B := B) (B' := B) (by rw [hA]; exact ⟨fun _ => by omega, fun _ => e1⟩) (fun _ _ _ _ _ _ => rfl) e0]
  rw [q]
  obtain ⟨k, hk⟩ : ∃ k : Nat, A 0 u = n + (k : Int) := ⟨(A 0 u - n).toNat, by omega⟩
  rw [← smF_cut (stE A B u) hn.1 k, hk]
  exact smF_le (by omega) fun e _ _ => by
    have := stE_01 A B u e
    show (if e < n then stE A B u e else 0) ≤ _
    split <;> omega
end CN9
