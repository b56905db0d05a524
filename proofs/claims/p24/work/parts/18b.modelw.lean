/-- the lasting columns stay -/
def KP (A : Nat → Int → Int) (B : Int → Int → Int) (A' : Nat → Int → Int) (B' : Int → Int → Int) : Prop := A' 0 = A 0 ∧ ∀ u e w, 0 ≤ w → w < 7 → B' u (10 * e + w) = B u (10 * e + w)
theorem KP.trans {A A' A'' : Nat → Int → Int} {B B' B'' : Int → Int → Int} (h : KP A B A' B') (h2 : KP A' B' A'' B'') : KP A B A'' B'' := ⟨h2.1.trans h.1, fun u e w h0 h1 => (h2.2 u e w h0 h1).trans (h.2 u e w h0 h1)⟩
theorem KP.ok {F : Nat → Int} {A A' : Nat → Int → Int} {B B' : Int → Int → Int} (h : KP A B A' B') (hM : MOK F A B) : MOK F A' B' := by
  obtain ⟨h1, h2, h3, h4, h5⟩ := hM
  refine ⟨h1, h2, h3, h4, fun v hv hv2 => ?_⟩
  rw [h.1]
  refine ⟨(h5 v hv hv2).1, fun e he he2 => ?_⟩
  rw [h.2 v e 0 (by omega) (by omega), h.2 v e 1 (by omega) (by omega), h.2 v e 2 (by omega) (by omega), h.2 v e 3 (by omega) (by omega), h.2 v e 4 (by omega) (by omega), h.2 v e 5 (by omega) (by omega), h.2 v e 6 (by omega) (by omega)]
  exact (h5 v hv hv2).2 e he he2
theorem KP.tk {A A' : Nat → Int → Int} {B B' : Int → Int → Int} (h : KP A B A' B') (v e : Int) : mTk B' v e = mTk B v e := by
  unfold mTk; rw [h.2 v e 0 (by omega) (by omega), h.2 v e 1 (by omega) (by omega)]
theorem KP.tn {A A' : Nat → Int → Int} {B B' : Int → Int → Int} (h : KP A B A' B') (v e : Int) : mTn B' v e = mTn B v e := by
  unfold mTn; rw [h.2 v e 2 (by omega) (by omega), h.2 v e 3 (by omega) (by omega), h.2 v e 4 (by omega) (by omega), h.2 v e 5 (by omega) (by omega)]
/-- beginnings -/
def bgM (B : Int → Int → Int) (v : Int) : Int → Int := pf 0 (fun e a => a + mTk B v e)
theorem KP.bg {A A' : Nat → Int → Int} {B B' : Int → Int → Int} (h : KP A B A' B') (v e : Int) : bgM B' v e = bgM B v e := pf_congr fun i a _ _ => by rw [h.tk]
theorem KP.bg' {A A' : Nat → Int → Int} {B B' : Int → Int → Int} (h : KP A B A' B') (v : Int) : bgM B' v = bgM B v := funext fun e => h.bg v e
theorem bgM_s (B : Int → Int → Int) (v : Int) {e : Int} (h : 0 ≤ e) : bgM B v (e + 1) = bgM B v e + mTk B v e := pf_s _ _ h
theorem bgM_rng {F : Nat → Int} {A : Nat → Int → Int} {B : Int → Int → Int} (hM : MOK F A B) {v : Int} (hv : 0 ≤ v ∧ v < 4) {e : Int} (he : 0 ≤ e ∧ e ≤ A 0 v) : 12 * e ≤ bgM B v e ∧ bgM B v e ≤ 672 * e := by
  have key : ∀ k : Nat, (k : Int) ≤ A 0 v → 12 * (k : Int) ≤ bgM B v k ∧ bgM B v k ≤ 672 * (k : Int) := by
    intro k
    induction k with
    | zero => intro _; exact ⟨Int.le_refl 0, Int.le_refl 0⟩
    | succ k ih =>
      intro hk
      have q := ih (by omega)
      have r := (hM.el hv (e := (k : Int)) (by omega)).2.2.1
      have t : bgM B v ((k + 1 : Nat) : Int) = bgM B v k + tkO (B v (10 * (k : Int) + 0)) (B v (10 * (k : Int) + 1)) := bgM_s B v (e := (k : Int)) (by omega)
      rw [t]
      omega
  have := key e.toNat (by omega)
  rw [Int.toNat_of_nonneg he.1] at this
  exact this
