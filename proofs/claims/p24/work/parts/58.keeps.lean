/-! the relation stays -/
section RK9
variable {F : Nat → Int} {E : Nat → Int → Int} {T P S Av : Int → Nat → Int → Int} {Fv : Int → Nat → Int} {FM : Nat → Int} {A A' : Nat → Int → Int} {B B' : Int → Int → Int}
theorem tk_same {v e : Int} (h : ∀ w, 0 ≤ w → w < 7 → B' v (10 * e + w) = B v (10 * e + w)) : mTk B' v e = mTk B v e := by
  unfold mTk
  rw [h 0 (by decide) (by decide), h 1 (by decide) (by decide)]
theorem tn_same {v e : Int} (h : ∀ w, 0 ≤ w → w < 7 → B' v (10 * e + w) = B v (10 * e + w)) : mTn B' v e = mTn B v e := by
  unfold mTn
  rw [h 2 (by decide) (by decide), h 3 (by decide) (by decide), h 4 (by decide) (by decide), h 5 (by decide) (by decide)]
theorem bg_same {v n : Int} (h : ∀ e, 0 ≤ e → e < n → ∀ w, 0 ≤ w → w < 7 → B' v (10 * e + w) = B v (10 * e + w)) : ∀ e, e ≤ n → bgM B' v e = bgM B v e := fun e he => pf_congr fun i a i0 i1 => by rw [tk_same (h i i0 (by omega))]
theorem BR.same {bar v : Int} {T P : Nat → Int → Int} {Fq : Nat → Int} (h : BR bar T P Fq A B v) (hA : A' 0 v = A 0 v) (hs : ∀ e, 0 ≤ e → e < A 0 v → ∀ w, 0 ≤ w → w < 7 → B' v (10 * e + w) = B v (10 * e + w)) : BR bar T P Fq A' B' v := by
  have hb := bg_same hs
  obtain ⟨h1, h2, h3, h4⟩ := h
  refine ⟨by rw [hA]; exact h1, by rw [hA, hb _ (Int.le_refl _)]; exact h2, by rw [hA, hb _ (Int.le_refl _)]; exact h3, fun e e0 e1 => ?_⟩
  rw [hA] at e1
  have s := hs e e0 e1
  obtain ⟨⟨t0, t1, t2, t3, t4, t5, t6⟩, hn, hr, hb9⟩ := h4 e e0 e1
  unfold BRe
  rw [hb e (by omega), hb (e + 1) (by omega), tk_same s, tn_same s, s 0 (by decide) (by decide), s 1 (by decide) (by decide), s 2 (by decide) (by decide), s 3 (by decide) (by decide), s 4 (by decide) (by decide), s 5 (by decide) (by decide), s 6 (by decide) (by decide)]
  exact ⟨⟨t0, t1, t2, t3, t4, t5, t6⟩, hn, hr, hb9⟩
theorem RV.same {key beat bar v : Int} {T P S Av : Nat → Int → Int} {Fq : Nat → Int} (h : RV key beat bar T P S Av Fq A B v) (hA : A' 0 v = A 0 v) (hs : ∀ e, 0 ≤ e → e < A 0 v → ∀ w, 0 ≤ w → w < 7 → B' v (10 * e + w) = B v (10 * e + w)) : RV key beat bar T P S Av Fq A' B' v := ⟨h.1.same hA hs, by rw [hA]; exact h.2.1, h.2.2⟩
theorem REL.kp (h : REL F E T P S Av Fv FM A B) (k : KP A B A' B') : REL F E T P S Av Fv FM A' B' := by
  obtain ⟨h1, h2, h3, h4, h5⟩ := h
  refine ⟨k.ok h1, h2, fun v v0 v1 => (h3 v v0 v1).same (by rw [k.1]) (fun e _ _ w w0 w1 => k.2 v e w w0 w1), fun v v0 v1 => by rw [k.1]; exact h4 v v0 v1, ?_⟩
  unfold RE
  rw [k.1]
  exact h5
theorem REL.f0 (h : REL F E T P S Av Fv FM A B) (x : Int) : REL F E T P S Av Fv (zN FM 0 x) A B := h
theorem REL.f5 (h : REL F E T P S Av Fv FM A B) (x : Int) : REL F E T P S Av Fv (zN FM 5 x) A B := h
def ARO (F : Nat → Int) (E : Nat → Int → Int) (T P S Av : Int → Nat → Int → Int) (Fv : Int → Nat → Int) (v : Int) (FM : Nat → Int) (A : Nat → Int → Int) (B : Int → Int → Int) : Prop := REL (zN F 4 0) E (zV T v (arT (T v) (P v) (Av v) (Fv v 0) (F 3) (F 1))) P (zV S v (arSo (T v) (S v) (Fv v 0)).2) (zV Av v (arSg (T v) (P v) (Av v) (Fv v 0) (F 3)).2.1) (zV Fv v (arF (T v) (P v) (S v) (Av v) (Fv v) (Fv v 0) (F 3) (F 1))) FM A B
def ARA (F : Nat → Int) (E : Nat → Int → Int) (T P S Av : Int → Nat → Int → Int) (Fv : Int → Nat → Int) (FM : Nat → Int) (A : Nat → Int → Int) (B : Int → Int → Int) : Prop := REL (zN F 4 0) E (upV (fun v => arT (T v) (P v) (Av v) (Fv v 0) (F 3) (F 1)) T (F 0)) P (upV (fun v => (arSo (T v) (S v) (Fv v 0)).2) S (F 0)) (upV (fun v => (arSg (T v) (P v) (Av v) (Fv v 0) (F 3)).2.1) Av (F 0)) (upV (fun v => arF (T v) (P v) (S v) (Av v) (Fv v) (Fv v 0) (F 3) (F 1)) Fv (F 0)) FM A B
/-- one voice is arranged anew, on what it holds now -/
theorem arO_REL {v : Int} (hM : MOK FM A B) (hF : RF F FM) (hO : ∀ u, 0 ≤ u → u < 4 → u ≠ v → RV (F 3) (F 1) (F 2) (T u) (P u) (S u) (Av u) (Fv u) A B u) (hv : 0 ≤ v ∧ v < 4) (hb : BR (F 2) (T v) (P v) (Fv v) A B v) (hp : PK (P v) (Av v)) (hz : ∀ u, F 0 ≤ u → u < 4 → A 0 u = 0) :
    ARO F E T P S Av Fv v FM A B := by
  refine ⟨hM, ⟨hF.1, hF.2.1, hF.2.2.1, hF.2.2.2.1, Or.inl rfl⟩, fun u u0 u1 => ?_, hz, Or.inl rfl⟩
  show RV (F 3) (F 1) (F 2) _ _ _ _ _ A B u
  by_cases c : u = v
  · subst c
    rw [zV_s, zV_s, zV_s, zV_s]
    exact ar_RV (hM.many hv) hb hp
  · rw [zV_n _ c, zV_n _ c, zV_n _ c, zV_n _ c]
    exact hO u u0 u1 c
/-- all voices -/
theorem arA_REL {key0 beat0 : Int} (hM : MOK FM A B) (hF : RF F FM) (hb : ∀ u, 0 ≤ u → u < F 0 → BR (F 2) (T u) (P u) (Fv u) A B u ∧ PK (P u) (Av u)) (hO : ∀ u, F 0 ≤ u → u < 4 → RV key0 beat0 (F 2) (T u) (P u) (S u) (Av u) (Fv u) A B u) (hz : ∀ u, F 0 ≤ u → u < 4 → A 0 u = 0) :
    ARA F E T P S Av Fv FM A B := by
  refine ⟨hM, ⟨hF.1, hF.2.1, hF.2.2.1, hF.2.2.2.1, Or.inl rfl⟩, fun u u0 u1 => ?_, hz, Or.inl rfl⟩
  show RV (F 3) (F 1) (F 2) _ _ _ _ _ A B u
  unfold upV
  by_cases c : 0 ≤ u ∧ u < F 0
  · rw [if_pos c, if_pos c, if_pos c, if_pos c]
    exact ar_RV (hM.many ⟨u0, u1⟩) (hb u c.1 c.2).1 (hb u c.1 c.2).2
  · rw [if_neg c, if_neg c, if_neg c, if_neg c]
    exact (hO u (by omega) u1).any (hz u (by omega) u1)
/-! the ways of the calls -/
theorem REL.setKey (h : REL F E T P S Av Fv FM A B) {k : Int} (hk : -7 ≤ k ∧ k ≤ 7) : ARA (zN F 3 k) E T P S Av Fv (zN FM 3 k) A B := by
  obtain ⟨h1, h2, h3, h4, h5⟩ := h
  have n := h2.nums h1
  exact arA_REL (F := zN F 3 k) (FM := zN FM 3 k) (key0 := F 3) (beat0 := F 1) ⟨h1.1, h1.2.1, hk, h1.2.2.2⟩ ⟨h2.1, h2.2.1, h2.2.2.1, rfl, h2.2.2.2.2⟩ (fun u u0 u1 => ⟨(h3 u u0 (Int.lt_of_lt_of_le u1 n.1.2)).1, (h3 u u0 (Int.lt_of_lt_of_le u1 n.1.2)).2.2⟩) (fun u u0 u1 => h3 u (Int.le_trans n.1.1 u0) u1) h4
theorem REL.addVoice (h : REL F E T P S Av Fv FM A B) (h4 : F 0 < 4) : REL (zN F 0 (F 0 + 1)) E T P S Av Fv (zN FM 4 (FM 4 + 1)) A B := by
  obtain ⟨h1, h2, h3, hz, h5⟩ := h
  have n := h2.nums h1
  have e := h2.1
  refine ⟨⟨h1.1, h1.2.1, h1.2.2.1, ⟨by show 0 ≤ FM 4 + 1; omega, by show FM 4 + 1 ≤ 4; omega⟩, h1.2.2.2.2⟩, ⟨by show F 0 + 1 = FM 4 + 1; omega, h2.2⟩, h3, fun v v0 v1 => hz v (by have : F 0 + 1 ≤ v := v0; omega) v1, ?_⟩
  rcases h5 with h5 | ⟨m, E0, dn, h5, h6, h7⟩
  · exact Or.inl h5
  · refine Or.inr ⟨m, E0, dn, ⟨h5.1, by show m ≤ F 0 + 1; omega⟩, fun v v0 v1 => ?_, h7⟩
    have v1 : v < F 0 + 1 := v1
    rcases (by omega : v < F 0 ∨ v = F 0) with c | c
    · exact h6 v v0 c
    · rw [c]; exact hz _ (Int.le_refl _) h4
theorem gEnd_0 (h : REL F E T P S Av Fv FM A B) : ∀ n : Nat, (n : Int) ≤ 4 → 0 ≤ gEnd Fv n ∧ (gEnd Fv n = 0 ↔ ∀ v, 0 ≤ v → v < (n : Int) → A 0 v = 0) ∧ gEnd Fv n = endM A B n := by
  intro n
  induction n with
  | zero => intro _; exact ⟨Int.le_refl 0, ⟨fun _ v v0 v1 => absurd v1 (by omega), fun _ => rfl⟩, rfl⟩
  | succ n ih =>
    intro hn
    obtain ⟨i1, i2, i3⟩ := ih (by omega)
    have b := (h.2.2.1 (n : Int) (by omega) (by omega)).1
    have m := h.1.many (v := (n : Int)) ⟨by omega, by omega⟩
    have r := bgM_rng h.1 (v := (n : Int)) ⟨by omega, by omega⟩ (e := A 0 (n : Int)) ⟨m.1, Int.le_refl _⟩
    have s1 : gEnd Fv ((n : Int) + 1) = max (gEnd Fv (n : Int)) (Fv (n : Int) 1) := pf_s _ _ (by omega)
    have s2 : endM A B ((n : Int) + 1) = max (endM A B (n : Int)) (bgM B (n : Int) (A 0 (n : Int))) := pf_s _ _ (by omega)
    rw [show ((n + 1 : Nat) : Int) = (n : Int) + 1 by omega, s1, s2, ← i3, b.2.1]
    refine ⟨by omega, ⟨fun q v v0 v1 => ?_, fun q => ?_⟩, rfl⟩
    · rcases (by omega : v < (n : Int) ∨ v = (n : Int)) with c | c
      · exact i2.mp (by omega) v v0 c
      · rw [c]; omega
    · have a := i2.mpr (fun v v0 v1 => q v v0 (by omega))
      have d := q (n : Int) (by omega) (by omega)
      have e : bgM B (n : Int) (A 0 (n : Int)) = 0 := by rw [d]; rfl
      omega
theorem REL.setBars (h : REL F E T P S Av Fv FM A B) {b q : Int} (hb : 1 ≤ b ∧ b ≤ 12) (hq : q = 2 ∨ q = 4 ∨ q = 8) (hz : ∀ v, 0 ≤ v → v < F 0 → A 0 v = 0) : REL (zN (zN F 1 (384 / q)) 2 (b * (384 / q))) E T P S Av Fv (zN (zN FM 1 b) 2 q) A B := by
  obtain ⟨h1, h2, h3, h4, h5⟩ := h
  have n := h2.nums h1
  have all : ∀ v, 0 ≤ v → v < 4 → A 0 v = 0 := fun v v0 v1 => by
    rcases (by omega : v < F 0 ∨ F 0 ≤ v) with c | c
    · exact hz v v0 c
    · exact h4 v c v1
  refine ⟨⟨hb, hq, h1.2.2⟩, ⟨h2.1, rfl, ?_, h2.2.2.2⟩, fun v v0 v1 => ?_, h4, h5⟩
  · show b * (384 / q) = b * 384 / q
    rcases hq with e | e | e <;> rw [e] <;> omega
  · have r := h3 v v0 v1
    have z := all v v0 v1
    refine RV.any (key := F 3) (beat := F 1) ⟨⟨r.1.1, r.1.2.1, ?_, fun e e0 e1 => absurd e1 (by omega)⟩, r.2⟩ z
    rw [z]
    show (0 : Int) ≤ 100 * (b * (384 / q))
    rcases hq with e | e | e <;> rw [e] <;> omega
theorem MOK.less (h : MOK FM A B) {v m : Int} (hm : 0 ≤ m ∧ m ≤ A 0 v) : MOK FM (zR A 0 v m) B := by
  obtain ⟨h1, h2, h3, h4, h5⟩ := h
  refine ⟨h1, h2, h3, h4, fun u u0 u1 => ?_⟩
  obtain ⟨a, b⟩ := h5 u u0 u1
  by_cases c : u = v
  · subst c
    rw [zR_s]
    exact ⟨by omega, fun e e0 e1 => b e e0 (by omega)⟩
  · rw [zR_n (Or.inr c)]
    exact ⟨a, b⟩
theorem REL.removeLast (h : REL F E T P S Av Fv FM A B) {v : Int} (hv : 0 ≤ v ∧ v < F 0) (hn : 0 < A 0 v) : ARO F E T P S Av (zV Fv v (zN (zN (Fv v) 0 (Fv v 0 - 1)) 1 (T v 0 (Fv v 0 - 1)))) v FM (zR A 0 v (A 0 v - 1)) B := by
  have n := h.2.1.nums h.1
  have hv4 : v < 4 := by omega
  obtain ⟨h1, h2, h3, h4, h5⟩ := h
  have r := h3 v hv.1 hv4
  refine arO_REL (F := F) (E := E) (T := T) (P := P) (S := S) (Av := Av) (Fv := zV Fv v (zN (zN (Fv v) 0 (Fv v 0 - 1)) 1 (T v 0 (Fv v 0 - 1)))) (FM := FM) (A := zR A 0 v (A 0 v - 1)) (B := B) (v := v) (h1.less ⟨by omega, by omega⟩) h2 (fun u u0 u1 hu => ?_) ⟨hv.1, hv4⟩ ?_ r.2.2 (fun u u0 u1 => by rw [zR_n (Or.inr (by omega))]; exact h4 u u0 u1)
  · rw [zV_n _ hu]
    exact (h3 u u0 u1).same (zR_n (Or.inr hu)) (fun _ _ _ _ _ _ => rfl)
  · rw [zV_s]
    have e0 := (r.1.2.2.2 (A 0 v - 1) (by omega) (by omega)).1.1
    have lt := bg_lt h1 ⟨hv.1, hv4⟩ (A 0 v - 1) (A 0 v) (by omega) (by omega) (Int.le_refl _)
    have m := r.1.2.2.1
    refine ⟨?_, ?_, ?_, fun e e0 e1 => ?_⟩
    · show Fv v 0 - 1 = zR A 0 v (A 0 v - 1) 0 v
      rw [zR_s, r.1.1]
    · show T v 0 (Fv v 0 - 1) = bgM B v (zR A 0 v (A 0 v - 1) 0 v)
      rw [zR_s, r.1.1]; exact e0
    · rw [zR_s]; omega
    · rw [zR_s] at e1
      exact r.1.2.2.2 e e0 (by omega)
end RK9
