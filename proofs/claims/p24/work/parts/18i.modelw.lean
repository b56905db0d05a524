theorem valT_12 {k : Int} (h : 0 ≤ k ∧ k < 15) : valT k % 12 = 0 := co15 (q := fun k => valT k % 12 = 0) (by decide) h
theorem VK_12 {pa d : Int} (h : VK pa d) : tkO pa d % 12 = 0 := by
  obtain ⟨k, hk, rfl, rfl⟩ := h
  rw [tkO_val hk]
  exact valT_12 hk
def kkC (b en a : Int) : Int := fp (fun k => valT k ≤ min en ((a / b + 1) * b) - a) 15
def ctL (b en fr a : Int) : Int := if (en - 1) / b = fr / b then en - fr else valT (kkC b en a)
def ctA (b en fr : Int) : Int → Int := pf fr (fun _ a => a + ctL b en fr a)
def cutN (b en fr : Int) : Int := fp (fun n => en ≤ ctA b en fr n) 57
theorem ctA_s (b en fr : Int) {n : Int} (h : 0 ≤ n) : ctA b en fr (n + 1) = ctA b en fr n + ctL b en fr (ctA b en fr n) := pf_s _ _ h
def elC (b en fr : Int) (sd : Int → Int) (n w : Int) : Int :=
  if w = 0 ∧ ¬ (en - 1) / b = fr / b then valP (kkC b en (ctA b en fr n)) else if w = 1 ∧ ¬ (en - 1) / b = fr / b then valD (kkC b en (ctA b en fr n)) else if w = 6 ∧ ctA b en fr (n + 1) < en then sd 2 else sd w
theorem MOK.same {F : Nat → Int} {A : Nat → Int → Int} {B B1 : Int → Int → Int} (hM : MOK F A B) (h : ∀ u e w, 0 ≤ w → w < 7 → 0 ≤ e → e < A 0 u → B1 u (10 * e + w) = B u (10 * e + w)) : MOK F A B1 := by
  obtain ⟨h1, h2, h3, h4, h5⟩ := hM
  refine ⟨h1, h2, h3, h4, fun v hv hv2 => ⟨(h5 v hv hv2).1, fun e he he2 => ?_⟩⟩
  rw [h v e 0 (by omega) (by omega) he he2, h v e 1 (by omega) (by omega) he he2, h v e 2 (by omega) (by omega) he he2, h v e 3 (by omega) (by omega) he he2, h v e 4 (by omega) (by omega) he he2, h v e 5 (by omega) (by omega) he he2, h v e 6 (by omega) (by omega) he he2]
  exact (h5 v hv hv2).2 e he he2
