/-! the calls' counts -/
section CN8
variable {F F' : Nat → Int} {E E' : Nat → Int → Int} {T P S Av T' P' S' Av' : Int → Nat → Int → Int} {Fv Fv' : Int → Nat → Int} {FM FM' : Nat → Int} {A A' : Nat → Int → Int} {B B' : Int → Int → Int}
theorem cnt_less {v : Int} (h : REL F E T P S Av Fv FM A B) (hn : 0 < A 0 v) (h' : REL F' E' T' P' S' Av' Fv' FM' (zR A 0 v (A 0 v - 1)) B) (h0 : F' 0 = F 0) : ecT (zR A 0 v (A 0 v - 1)) B (FM' 4) ≤ ecT A B (FM 4) + 2 := by
  refine ecT_up h h' h0 v fun u u0 u1 => ?_
  by_cases c : u = v
  · subst c
    have q := CN_less (A := A) (A' := zR A 0 u (A 0 u - 1)) (B := B) (u := u) (n := A 0 u - 1) (by rw [zR_s]) ⟨by omega, by omega⟩
    rw [if_pos rfl]
    omega
  · rw [if_neg c]
    have e : zR A 0 v (A 0 v - 1) 0 u = A 0 u := zR_n (Or.inr c)
    rw [CN_same e fun _ _ _ _ _ _ => rfl]
    exact Int.le_of_eq (Int.add_zero _).symm
theorem cnt_tie {v i t : Int} (h : REL F E T P S Av Fv FM A B) (h' : REL F' E' T' P' S' Av' Fv' FM' A (zB B v (10 * i + 6) t)) (h0 : F' 0 = F 0) : ecT A (zB B v (10 * i + 6) t) (FM' 4) ≤ ecT A B (FM 4) + 2 := by
  refine ecT_up h h' h0 v fun u u0 u1 => ?_
  have e6 : ∀ u e w, 0 ≤ w → w < 7 → ¬ (u = v ∧ e = i ∧ w = 6) → zB B v (10 * i + 6) t u (10 * e + w) = B u (10 * e + w) := fun u e w w0 w1 c => if_neg (fun z => c ⟨z.1, by omega, by omega⟩)
  have hu4 : u < 4 := by have := (h.2.1.nums h.1).1; omega
  have m := h.1.many ⟨u0, hu4⟩
  by_cases c : u = v
  · rw [if_pos c]
    refine smF_1 (stE_01 A B u) (stE_01 _ _ u) (i + 1) m.1 fun e e0 e1 ei => Int.le_of_eq ?_
    have tn : ∀ e, mTn (zB B v (10 * i + 6) t) u e = mTn B u e := fun e => by
      unfold mTn
      rw [e6 u e 2 (by decide) (by decide) (by omega), e6 u e 3 (by decide) (by decide) (by omega), e6 u e 4 (by decide) (by decide) (by omega), e6 u e 5 (by decide) (by decide) (by omega)]
    refine stE_eq (by rw [tn]) ?_
    unfold jmM
    rw [tn, tn, e6 u (e - 1) 6 (by decide) (by decide) (by omega)]
  · rw [if_neg c, CN_same rfl fun e _ _ w w0 w1 => e6 u e w w0 w1 (fun z => c z.1)]
    omega
theorem cnt_tr {x y : Int} (h : REL F E T P S Av Fv FM A B) (hok : okP9 A B x y (FM 4) 0) (h' : REL F' E' T' P' S' Av' Fv' FM' A (mvB A B x y (FM 4) 0)) (h0 : F' 0 = F 0) : ecT A (mvB A B x y (FM 4) 0) (FM' 4) ≤ ecT A B (FM 4) + 2 := by
  refine ecT_up h h' h0 0 fun u u0 u1 => ?_
  have hu4 : u < 4 := by have := (h.2.1.nums h.1).1; omega
  have hF0 := h.2.1.1
  have at9 := fun u e w hw => mvB_ix A B x y (FM 4) u e w hw
  have l6 : ∀ e, mvB A B x y (FM 4) 0 u (10 * e + 6) = B u (10 * e + 6) := fun e => by
    rw [at9 u e 6 ⟨by decide, by decide⟩, if_neg (show ¬ (6 : Int) = 3 by decide), if_neg (show ¬ (6 : Int) = 4 by decide), if_neg (show ¬ (6 : Int) = 5 by decide)]
    split <;> rfl
  have l2 : ∀ e, mvB A B x y (FM 4) 0 u (10 * e + 2) = B u (10 * e + 2) := fun e => by
    rw [at9 u e 2 ⟨by decide, by decide⟩, if_neg (show ¬ (2 : Int) = 3 by decide), if_neg (show ¬ (2 : Int) = 4 by decide), if_neg (show ¬ (2 : Int) = 5 by decide)]
    split <;> rfl
  have tn : ∀ e, 0 ≤ e → e < A 0 u → (B u (10 * e + 2) = 0 ∧ mTn (mvB A B x y (FM 4) 0) u e = -1 ∧ mTn B u e = -1) ∨ (¬ B u (10 * e + 2) = 0 ∧ mTn (mvB A B x y (FM 4) 0) u e = mTn B u e + y ∧ ¬ mTn (mvB A B x y (FM 4) 0) u e = -1 ∧ ¬ mTn B u e = -1) := fun e e0 e1 => by
    have rest := ((h.2.2.1 u u0 hu4).1.2.2.2 e e0 e1).rest
    have rest' := ((h'.2.2.1 u u0 hu4).1.2.2.2 e e0 e1).rest
    rw [l2] at rest'
    by_cases c : B u (10 * e + 2) = 0
    · exact Or.inl ⟨c, rest'.mpr c, rest.mpr c⟩
    · refine Or.inr ⟨c, ?_, fun z => c (rest'.mp z), fun z => c (rest.mp z)⟩
      have cc : 0 ≤ u ∧ u < FM 4 ∧ 0 ≤ e ∧ e < A 0 u ∧ ¬ B u (10 * e + 2) = 0 := ⟨u0, by omega, e0, e1, c⟩
      have q : mTn (mvB A B x y (FM 4) 0) u e = toneF (plT B u e x % 7) (sgT B u e x y) (plT B u e x / 7) := by
        unfold mTn
        rw [l2, if_neg c, at9 u e 3 ⟨by decide, by decide⟩, at9 u e 4 ⟨by decide, by decide⟩, at9 u e 5 ⟨by decide, by decide⟩, if_pos cc, if_pos cc, if_pos cc, if_pos rfl, if_neg (show ¬ (4 : Int) = 3 by decide), if_pos rfl, if_neg (show ¬ (5 : Int) = 3 by decide), if_neg (show ¬ (5 : Int) = 4 by decide), if_pos rfl]
      rw [q]
      unfold sgT toneF
      omega
  have q : CN A (mvB A B x y (FM 4) 0) u (A 0 u) = CN A B u (A 0 u) := pf_congr fun e a e0 e1 => by
    rw [stE_eq (A := A) (A' := A) (B := B) (B' := mvB A B x y (FM 4) 0)]
    · rcases tn e e0 e1 with z | z
      · exact ⟨fun _ => z.2.2, fun _ => z.2.1⟩
      · exact ⟨fun w => absurd w z.2.2.1, fun w => absurd w z.2.2.2⟩
    · unfold jmM
      rw [l6]
      by_cases c : 0 ≤ e - 1
      · have z1 := tn (e - 1) c (by omega)
        have z2 := tn (e - 1 + 1) (by omega) (by omega)
        constructor
        · intro w
          obtain ⟨w1, w2, w3, w4, w5⟩ := w
          rcases z1 with z1 | z1
          · exact absurd z1.2.1 w4
          · rcases z2 with z2 | z2
            · exact absurd (w5.trans z2.2.1) w4
            · exact ⟨w1, w2, w3, z1.2.2.2, by omega⟩
        · intro w
          obtain ⟨w1, w2, w3, w4, w5⟩ := w
          rcases z1 with z1 | z1
          · exact absurd z1.2.2 w4
          · rcases z2 with z2 | z2
            · exact absurd (w5.trans z2.2.2) w4
            · exact ⟨w1, w2, w3, z1.2.2.1, by omega⟩
      · exact ⟨fun z => absurd z.1 c, fun z => absurd z.1 c⟩
  rw [q]
  split <;> omega
theorem cnt_add {v x N : Int} {sd : Int → Int} (h : REL F E T P S Av Fv FM A B) (hv : 0 ≤ v ∧ v < F 0) (hx : 0 ≤ x ∧ x < 15) (hN : N = cutN (F 2) (bgM B v (A 0 v) + valT x) (bgM B v (A 0 v))) (s0 : sd 0 = valP x) (s1 : sd 1 = valD x) (s2 : sd 2 = 0 ∨ sd 2 = 1)
    (hA : ∀ u, A' 0 u = if u = v then A 0 v + N else A 0 u) (hB : ∀ u e w, 0 ≤ w → w < 7 → B' u (10 * e + w) = if u = v ∧ A 0 v ≤ e ∧ e < A 0 v + N ∧ w < 7 then elC (F 2) (bgM B v (A 0 v) + valT x) (bgM B v (A 0 v)) sd (e - A 0 v) w else B u (10 * e + w))
    (h' : REL F' E' T' P' S' Av' Fv' FM' A' B') (h0 : F' 0 = F 0) : ecT A' B' (FM' 4) ≤ ecT A B (FM 4) + 2 := by
  have nw := fun j (j0 : 0 ≤ j) (j1 : j < N) => add_new h A hv hx hN s0 s1 hB j0 j1
  have off := add_O hB
  have hN1 := (add_core h A hv hx hN).2.1
  refine ecT_up h h' h0 v fun u u0 u1 => ?_
  have hu4 : u < 4 := by have := (h.2.1.nums h.1).1; omega
  have m := h.1.many ⟨u0, hu4⟩
  by_cases c : u = v
  · subst c
    have hAu : A' 0 u = A 0 u + N := by rw [hA u, if_pos rfl]
    rw [if_pos rfl, hAu]
    obtain ⟨k, rfl⟩ : ∃ k : Nat, N = (k : Int) := ⟨N.toNat, by omega⟩
    rw [show CN A B u (A 0 u) = smF (fun e => if e < A 0 u then stE A B u e else 0) (A 0 u + (k : Int)) from (smF_cut (stE A B u) m.1 k).symm]
    refine smF_1 (fun e => by have := stE_01 A B u e; show 0 ≤ (if e < A 0 u then stE A B u e else 0) ∧ (if e < A 0 u then stE A B u e else 0) ≤ 1; split <;> omega) (stE_01 A' B' u) (A 0 u) (by omega) fun e e0 e1 ei => ?_
    show _ ≤ (if e < A 0 u then stE A B u e else 0)
    by_cases d : e < A 0 u
    · rw [if_pos d]
      exact Int.le_of_eq (stE_same (by rw [hAu]; exact ⟨fun _ => d, fun _ => e1⟩) (fun i i0 i1 w w0 w1 => off u i w w0 w1 (by omega)) e0)
    · rw [if_neg d]
      obtain ⟨j, rfl⟩ : ∃ j, e = A 0 u + j := ⟨e - A 0 u, by omega⟩
      obtain ⟨-, -, q2, q6⟩ := nw j (by omega) (by omega)
      obtain ⟨-, -, p2, p6⟩ := nw (j - 1) (by omega) (by omega)
      rw [show A 0 u + (j - 1) = A 0 u + j - 1 by omega] at p2 p6
      unfold stE
      by_cases z : mTn B' u (A 0 u + j) = -1
      · rw [if_pos z]; exact Int.le_refl _
      · rw [if_neg z]
        have hs2 : sd 2 = 1 := by
          rcases s2 with y | y
          · exact absurd (by unfold mTn; rw [q2 2 (by decide) (by decide), if_pos y]) z
          · exact y
        have te : mTn B' u (A 0 u + j - 1) = mTn B' u (A 0 u + j) := by
          unfold mTn
          rw [q2 2 (by decide) (by decide), q2 3 (by decide) (by decide), q2 4 (by decide) (by decide), q2 5 (by decide) (by decide), p2 2 (by decide) (by decide), p2 3 (by decide) (by decide), p2 4 (by decide) (by decide), p2 5 (by decide) (by decide)]
        rw [if_pos ⟨by omega, by rw [hAu]; omega, by rw [p6, if_neg (by omega)]; exact hs2, by rw [te]; exact z, by rw [te, show A 0 u + j - 1 + 1 = A 0 u + j by omega]⟩]
        exact Int.le_refl _
  · rw [if_neg c, CN_same (by rw [hA u, if_neg c]) fun e _ _ w w0 w1 => off u e w w0 w1 (fun z => c z.1)]
    omega
end CN8
