/-! the class's events are the model's -/
section EV9
variable {bar : Int} {T P : Nat → Int → Int} {F : Nat → Int} {A : Nat → Int → Int} {B : Int → Int → Int} {v : Int} {FM : Nat → Int}
theorem BR.so (h : BR bar T P F A B v) (S : Nat → Int → Int) : soF (T 5) (T 4) (T 0) (T 1) (A 0 v) S (A 0 v) = pf (0, S) (soG (jmM A B v) (mTn B v) (bgM B v) (mTk B v)) (A 0 v) := pf_congr fun i a h0 h1 => by
  obtain ⟨⟨t0, t1, -, -, t4, -, -⟩, -⟩ := h.2.2.2 i h0 h1
  unfold soS soG
  rw [t0, t1, t4]
  by_cases c : mTn B v i = -1
  · rw [if_pos c, if_pos c]
  · rw [if_neg c, if_neg c]
    by_cases j : jmM A B v (i - 1) ∧ 0 < a.1
    · rw [if_pos j, if_pos ⟨(h.jn _).mpr j.1, j.2⟩]
    · rw [if_neg j, if_neg (fun q => j ⟨(h.jn _).mp q.1, q.2⟩)]
theorem jmM_J (A : Nat → Int → Int) (B : Int → Int → Int) (v : Int) : ∀ i, jmM A B v i → 0 ≤ i ∧ i + 1 < A 0 v ∧ ¬ mTn B v i = -1 ∧ mTn B v i = mTn B v (i + 1) := fun _ z => ⟨z.1, z.2.1, z.2.2.2.1, z.2.2.2.2⟩
theorem bg_pos (hM : MOK FM A B) (hv : 0 ≤ v ∧ v < 4) : ∀ i, 0 ≤ i → i < A 0 v → bgM B v (i + 1) = bgM B v i + mTk B v i ∧ 0 < mTk B v i := fun i h0 h1 => ⟨bgM_s B v h0, by have q := (hM.el hv ⟨h0, h1⟩).2.2.1; show 0 < tkO _ _; omega⟩
theorem bg_lt (hM : MOK FM A B) (hv : 0 ≤ v ∧ v < 4) : ∀ i j, 0 ≤ i → i < j → j ≤ A 0 v → bgM B v i < bgM B v j := fun i j h0 h1 h2 => by have := bg_mono hM hv rfl i j h0 h1 h2; omega
theorem so_cnt (hM : MOK FM A B) (hv : 0 ≤ v ∧ v < 4) (S : Nat → Int → Int) (s8 : Int → Int) : ∀ k : Nat, (k : Int) ≤ A 0 v → (pf (0, S) (soG (jmM A B v) (mTn B v) (bgM B v) (mTk B v)) k).1 = pf 0 (vpS A B s8 v 2) k := by
  intro k
  induction k with
  | zero => intro _; rfl
  | succ k ih =>
    intro hk
    have q := ih (by omega)
    have si := SI_all (jmM_J A B v) (bg_pos hM hv) (bg_lt hM hv) S k (by omega)
    rw [show ((k + 1 : Nat) : Int) = (k : Int) + 1 by omega, show pf (0, S) (soG (jmM A B v) (mTn B v) (bgM B v) (mTk B v)) ((k : Int) + 1) = soG (jmM A B v) (mTn B v) (bgM B v) (mTk B v) k (pf (0, S) (soG (jmM A B v) (mTn B v) (bgM B v) (mTk B v)) k) from pf_s _ _ (by omega), show pf 0 (vpS A B s8 v 2) ((k : Int) + 1) = vpS A B s8 v 2 k (pf 0 (vpS A B s8 v 2) k) from pf_s _ _ (by omega), ← q]
    generalize pf (0, S) (soG (jmM A B v) (mTn B v) (bgM B v) (mTk B v)) (k : Int) = z at si
    unfold soG vpS
    by_cases c : mTn B v (k : Int) = -1
    · rw [if_pos c, if_pos c]
    · rw [if_neg c, if_neg c, if_pos (show (2 : Int) = 2 from rfl)]
      by_cases j : jmM A B v ((k : Int) - 1)
      · have hc := si.2.2.2.2.2.2 (by have := j.1; omega) j.2.2.2.1
        rw [if_pos j, if_pos ⟨j, hc.1⟩, Int.add_zero]
      · rw [if_neg j, if_neg (fun y => j y.1)]
/-- a voice's sounds as they were arranged -/
def DS (T S : Nat → Int → Int) (F : Nat → Int) (n : Int) : Prop := ∃ S0 : Nat → Int → Int, F 2 = (soF (T 5) (T 4) (T 0) (T 1) n S0 n).1 ∧ S = (soF (T 5) (T 4) (T 0) (T 1) n S0 n).2
theorem BR.sd {S : Nat → Int → Int} (h : BR bar T P F A B v) (hM : MOK FM A B) (hv : 0 ≤ v ∧ v < 4) (hd : DS T S F (A 0 v)) (s8 : Int → Int) : SD (jmM A B v) (mTn B v) (bgM B v) (mTk B v) (A 0 v) (F 2) S ∧ F 2 = pf 0 (vpS A B s8 v 2) (A 0 v) := by
  obtain ⟨S0, e1, e2⟩ := hd
  have hn := (hM.many hv).1
  rw [h.so S0] at e1 e2
  have q := SD_of (jmM_J A B v) (bg_pos hM hv) (bg_lt hM hv) hn S0
  have c := so_cnt hM hv S0 s8 (A 0 v).toNat (by omega)
  rw [Int.toNat_of_nonneg hn] at c
  rw [e1, e2]
  exact ⟨q, c⟩
theorem ec_full (hM : MOK FM A B) (hv : 0 ≤ v ∧ v < 4) (h : BR bar T P F A B v) {S : Nat → Int → Int} (hd : DS T S F (A 0 v)) : ec A B v (A 0 v) = 2 * F 2 := by
  have q := ec_so h (fun _ => 0) (hM.many hv).1 (Int.le_refl _)
  rw [if_neg (fun z : jmM A B v (A 0 v - 1) => by have := z.2.1; omega), ← (h.sd hM hv hd (fun _ => 0)).2] at q
  omega
theorem SD.up {J : Int → Prop} {tn bg tk : Int → Int} {n c : Int} {S : Nat → Int → Int} (h : SD J tn bg tk n c S) : UPE S c := by
  obtain ⟨h1, h2, h3, h4, h5, h6⟩ := h
  intro j q0 q1
  rcases (by omega : j % 2 = 0 ∨ j % 2 = 1) with z | z
  · have e1 : tkE S j = S 0 (j / 2) := if_pos z
    have e2 : tkE S (j + 1) = S 1 ((j + 1) / 2) := if_neg (by omega)
    have e3 : bI (j % 2 = 0) = 1 := (bI_t z).symm
    have e4 : bI ((j + 1) % 2 = 0) = 0 := (bI_f (by omega)).symm
    have q := (h6 (j / 2) (by omega) (by omega)).1
    rw [e1, e2, e3, e4, show (j + 1) / 2 = j / 2 by omega]
    omega
  · have e1 : tkE S j = S 1 (j / 2) := if_neg (by omega)
    have e2 : tkE S (j + 1) = S 0 ((j + 1) / 2) := if_pos (by omega)
    have e3 : bI (j % 2 = 0) = 0 := (bI_f (by omega)).symm
    have e4 : bI ((j + 1) % 2 = 0) = 1 := (bI_t (by omega)).symm
    have q := h5 (j / 2) (by omega) (by omega)
    rw [e1, e2, e3, e4, show (j + 1) / 2 = j / 2 + 1 by omega]
    omega
theorem ev_iff {J : Int → Prop} {S : Nat → Int → Int} {c : Int} (hr : ∀ e, 0 ≤ e → e < A 0 v → (mTn B v e = -1 ↔ B v (10 * e + 2) = 0)) (hJ : ∀ e, J e ↔ jmM A B v e) (h : SD J (mTn B v) (bgM B v) (mTk B v) (A 0 v) c S) (x t b : Int) : (∃ j, (0 ≤ j ∧ j < 2 * c) ∧ x = tkE S j ∧ t = S 2 (j / 2) ∧ b = bI (j % 2 = 0)) ↔ ∃ d, (0 ≤ d ∧ d < A 0 v) ∧ MEe A B v d x t b := by
  obtain ⟨h1, h2, h3, h4, h5, h6⟩ := h
  constructor
  · rintro ⟨j, hj, rfl, rfl, rfl⟩
    obtain ⟨⟨p, p1, p2, p3, p4, p5⟩, l, l1, l2, l3, l4, l5⟩ := h2 (j / 2) (by omega) (by omega)
    rcases (by omega : j % 2 = 0 ∨ j % 2 = 1) with z | z
    · refine ⟨p, p1, fun q => p2 ((hr p p1.1 p1.2).mpr q), p5, Or.inl ⟨(bI_t z).symm, fun q => p3 ((hJ _).mpr q), ?_⟩⟩
      rw [show tkE S j = S 0 (j / 2) from if_pos z]; exact p4
    · refine ⟨l, l1, fun q => l2 ((hr l l1.1 l1.2).mpr q), l5, Or.inr ⟨(bI_f (by omega)).symm, fun q => l3 ((hJ _).mpr q), ?_⟩⟩
      rw [show tkE S j = S 1 (j / 2) from if_neg (by omega)]; exact l4
  · rintro ⟨d, hd, a1, rfl, ⟨rfl, a2, rfl⟩ | ⟨rfl, a2, rfl⟩⟩
    · obtain ⟨j, j1, j2, j3⟩ := h3 d hd.1 hd.2 (fun q => a1 ((hr d hd.1 hd.2).mp q)) (fun q => a2 ((hJ _).mp q))
      refine ⟨2 * j, ⟨by omega, by omega⟩, ?_, ?_, bI_t (by omega)⟩
      · rw [show tkE S (2 * j) = S 0 (2 * j / 2) from if_pos (by omega), show 2 * j / 2 = j by omega]; exact j2.symm
      · rw [show 2 * j / 2 = j by omega]; exact j3.symm
    · obtain ⟨j, j1, j2, j3⟩ := h4 d hd.1 hd.2 (fun q => a1 ((hr d hd.1 hd.2).mp q)) (fun q => a2 ((hJ _).mp q))
      refine ⟨2 * j + 1, ⟨by omega, by omega⟩, ?_, ?_, bI_f (by omega)⟩
      · rw [show tkE S (2 * j + 1) = S 1 ((2 * j + 1) / 2) from if_neg (by omega), show (2 * j + 1) / 2 = j by omega]; exact j2.symm
      · rw [show (2 * j + 1) / 2 = j by omega]; exact j3.symm
end EV9
/-! all voices -/
section EW9
variable {bar : Int} {T P S : Int → Nat → Int → Int} {Fv : Int → Nat → Int} {A : Nat → Int → Int} {B : Int → Int → Int} {FM : Nat → Int}
theorem ecT_so (hM : MOK FM A B) (hB : ∀ v, 0 ≤ v → v < 4 → BR bar (T v) (P v) (Fv v) A B v) (hD : ∀ v, 0 ≤ v → v < 4 → DS (T v) (S v) (Fv v) (A 0 v)) : ∀ n : Nat, (n : Int) ≤ 4 → ecT A B n = 2 * nSou Fv n := by
  intro n
  induction n with
  | zero => intro _; rfl
  | succ n ih =>
    intro hk
    have q := ih (by omega)
    have r := ec_full hM (v := (n : Int)) ⟨by omega, by omega⟩ (hB _ (by omega) (by omega)) (hD _ (by omega) (by omega))
    rw [show ((n + 1 : Nat) : Int) = (n : Int) + 1 by omega, ecT_s A B (by omega), show nSou Fv ((n : Int) + 1) = nSou Fv (n : Int) + Fv (n : Int) 2 from pf_s _ _ (by omega), q, r]
    omega
theorem ecT_more (hM : MOK FM A B) {n m : Int} (hn : 0 ≤ n ∧ n ≤ m ∧ m ≤ 4) (he : ∀ v, n ≤ v → v < m → A 0 v = 0) : ecT A B m = ecT A B n ∧ ∀ g, evO A B g m = evO A B g n := by
  obtain ⟨k, rfl⟩ : ∃ k : Nat, m = n + (k : Int) := ⟨(m - n).toNat, by omega⟩
  induction k with
  | zero => rw [show n + ((0 : Nat) : Int) = n by omega]; exact ⟨rfl, fun _ => rfl⟩
  | succ k ih =>
    obtain ⟨i1, i2⟩ := ih (by omega) (fun v a b => he v a (by omega))
    have z := he (n + (k : Int)) (by omega) (by omega)
    rw [show n + ((k + 1 : Nat) : Int) = n + (k : Int) + 1 by omega]
    refine ⟨?_, fun g => ?_⟩
    · rw [ecT_s A B (by omega), z, i1, ec_0, Int.add_zero]
    · rw [show evO A B g (n + (k : Int) + 1) = evF A B (n + (k : Int)) (evO A B g (n + (k : Int))) (A 0 (n + (k : Int))) from pf_s _ _ (by omega), z, i2]
      rfl
/-- the merged rows are the model's -/
theorem ev_eq (hM : MOK FM A B) (hB : ∀ v, 0 ≤ v → v < 4 → BR bar (T v) (P v) (Fv v) A B v) (hD : ∀ v, 0 ≤ v → v < 4 → DS (T v) (S v) (Fv v) (A 0 v)) {n : Int} (hn : 0 ≤ n ∧ n ≤ 4) (E : Nat → Int → Int) (dn g : Int → Int) : ∀ i, 0 ≤ i → i < 2 * nSou Fv n → ∀ w : Nat, w < 4 → (mgF Fv S n E dn (2 * nSou Fv n)).1 w i = evO A B g n (4 * i + (w : Int)) := by
  have hc : ecT A B n = 2 * nSou Fv n := by
    have := ecT_so hM hB hD n.toNat (by omega)
    rw [Int.toNat_of_nonneg hn.1] at this
    exact this
  have hsd : ∀ u, 0 ≤ u → u < 4 → SD (jmM A B u) (mTn B u) (bgM B u) (mTk B u) (A 0 u) (Fv u 2) (S u) := fun u a b => ((hB u a b).sd hM ⟨a, b⟩ (hD u a b) (fun _ => 0)).1
  have h2 := ev_all (A := A) (B := B) (fun v a b => (hM.many ⟨a, b⟩).1) (fun v a b => bg_lt hM ⟨a, b⟩) g n.toNat (by omega)
  rw [Int.toNat_of_nonneg hn.1, hc] at h2
  have h1 := mg_enum (Fv := Fv) (S := S) (n := n) (fun u a b => (hsd u a (by omega)).up) (fun u a b => (hsd u a (by omega)).1.1) hn (by omega) E dn
  have h1' := h1.congr (Y := MEx A B n 0) fun x u t b => by
    constructor
    · rintro ⟨a, q⟩
      exact Or.inl ⟨a.1, a.2, (ev_iff (fun e e0 e1 => ((hB u a.1 (by omega)).2.2.2 e e0 e1).rest) (fun _ => Iff.rfl) (hsd u a.1 (by omega)) x t b).mp q⟩
    · rintro (⟨a1, a2, q⟩ | ⟨-, d, q, -⟩)
      · exact ⟨⟨a1, a2⟩, (ev_iff (fun e e0 e1 => ((hB u a1 (by omega)).2.2.2 e e0 e1).rest) (fun _ => Iff.rfl) (hsd u a1 (by omega)) x t b).mpr q⟩
      · omega
  have q := enum_eq (X := MEx A B n 0) (fun x u t b z => by
    rcases z with ⟨a1, a2, d, -, -, -, y⟩ | ⟨-, d, y, -⟩
    · exact ⟨by omega, by rcases y with y | y; exact Or.inr y.1; exact Or.inl y.1⟩
    · omega) (fun x u t s b z y => by
    rcases z with ⟨a1, a2, d, b2, -, b3, b4⟩ | ⟨-, d, y, -⟩
    · rcases y with ⟨-, -, e, c2, -, c3, c4⟩ | ⟨-, d, y, -⟩
      · have inj := fun i j hi hj => bg_inj (i := i) (j := j) hM (v := u) ⟨a1, by omega⟩ hi hj
        have s1 := bgM_s B u b2.1
        have s2 := bgM_s B u c2.1
        have hde : d = e := by
          rcases b4 with b4 | b4 <;> rcases c4 with c4 | c4
          · exact inj d e ⟨b2.1, by omega⟩ ⟨c2.1, by omega⟩ (b4.2.2.symm.trans c4.2.2)
          · omega
          · omega
          · have := inj (d + 1) (e + 1) ⟨by omega, by omega⟩ ⟨by omega, by omega⟩ (by rw [s1, s2]; exact b4.2.2.symm.trans c4.2.2)
            omega
        rw [b3, c3, hde]
      · omega
    · omega) h1' h2.2
  intro i q0 q1 w hw
  obtain ⟨r0, r1, r2, r3⟩ := q i q0 q1
  rcases (by omega : w = 0 ∨ w = 1 ∨ w = 2 ∨ w = 3) with z | z | z | z
  · rw [z, show 4 * i + ((0 : Nat) : Int) = 4 * i by omega]; exact r0
  · rw [z]; exact r1
  · rw [z]; exact r2
  · rw [z]; exact r3
end EW9
