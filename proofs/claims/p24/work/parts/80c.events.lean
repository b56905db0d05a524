/-! the events: in their order, how many sound, how long -/
def opn (W : Int → Int) : Int → Int := pf 0 (fun k a => a + (if W k = 1 then 1 else -1))
def las (X W : Int → Int) : Int → Int := pf 0 (fun k a => a + (if W k = 1 then -X k else X k))
theorem opn_s (W : Int → Int) {i : Int} (h : 0 ≤ i) : opn W (i + 1) = opn W i + (if W i = 1 then 1 else -1) := pf_s _ _ h
theorem las_s (X W : Int → Int) {i : Int} (h : 0 ≤ i) : las X W (i + 1) = las X W i + (if W i = 1 then -X i else X i) := pf_s _ _ h
/-- a sum over the voices of what each has told -/
def smG (g : Int → Int → Int) (dn : Int → Int) : Int → Int := pf 0 (fun v a => a + g v (dn v))
theorem smG_s (g : Int → Int → Int) (dn : Int → Int) {v : Int} (h : 0 ≤ v) : smG g dn (v + 1) = smG g dn v + g v (dn v) := pf_s _ _ h
theorem smG_up (g : Int → Int → Int) (dn : Int → Int) {f : Int} : ∀ k : Nat, smG g (zU dn f (dn f + 1)) k = smG g dn k + (if 0 ≤ f ∧ f < (k : Int) then g f (dn f + 1) - g f (dn f) else 0) := by
  intro k
  induction k with
  | zero => rw [if_neg (by omega)]; rfl
  | succ k ih =>
    rw [show ((k + 1 : Nat) : Int) = (k : Int) + 1 by omega, smG_s _ _ (by omega), smG_s _ _ (by omega), ih]
    by_cases e : (k : Int) = f
    · rw [← e, zU_s, if_neg (by omega), if_pos (by omega)]; omega
    · rw [zU_n e]
      by_cases c : 0 ≤ f ∧ f < (k : Int)
      · rw [if_pos c, if_pos (by omega)]; omega
      · rw [if_neg c, if_neg (by omega)]; omega
def gOp (_ d : Int) : Int := d % 2
def gLa (S : Int → Nat → Int → Int) (u d : Int) : Int := pf 0 (fun j a => a + (if j % 2 = 0 then -tkE (S u) j else tkE (S u) j)) d
theorem gLa_s (S : Int → Nat → Int → Int) (u : Int) {d : Int} (h : 0 ≤ d) : gLa S u (d + 1) = gLa S u d + (if d % 2 = 0 then -tkE (S u) d else tkE (S u) d) := pf_s _ _ h
section EP9
variable {Fv : Int → Nat → Int} {S : Int → Nat → Int → Int} {n : Int}
theorem mg_step (hn : 0 ≤ n ∧ n ≤ 4) {i : Int} {z : mgT} (hi : 0 ≤ i ∧ i < 2 * nSou Fv n) (h : MI Fv S n i z) (ho : opn (z.1 3) i = smG gOp z.2 n) (hl : las (z.1 0) (z.1 3) i = smG (gLa S) z.2 n) : opn ((mgS Fv S n i z).1 3) (i + 1) = smG gOp (mgS Fv S n i z).2 n ∧ las ((mgS Fv S n i z).1 0) ((mgS Fv S n i z).1 3) (i + 1) = smG (gLa S) (mgS Fv S n i z).2 n := by
  obtain ⟨h1, h2, -⟩ := h
  have hmin := feF_min (Fv := Fv) (S := S) z.2 n.toNat
  have hle := smE_le (Fv := Fv) (dn := z.2) n.toNat
  rw [Int.toNat_of_nonneg hn.1] at hmin hle
  have hf : 0 ≤ (feF Fv S z.2 n).1 := Decidable.byContradiction fun c => by
    have := hle (fun u q0 q1 => Decidable.byContradiction fun y => c (hmin.1 u q0 q1 (by omega)).1)
    omega
  unfold mgS
  rw [if_pos hf]
  obtain ⟨f1, f2, f3⟩ := hmin.2 hf
  generalize (feF Fv S z.2 n).1 = f at hf f1 f2
  obtain ⟨E, dn⟩ := z
  dsimp only at h1 h2 ho hl f2 ⊢
  have hd := h1 f hf f1
  have g : ∀ w k, k ≠ i → evPut E (S f) i f (dn f) w k = E w k := fun w k q => (zR_n (Or.inr q)).trans ((zR_n (Or.inr q)).trans ((zR_n (Or.inr q)).trans (zR_n (Or.inr q))))
  have g0 : evPut E (S f) i f (dn f) 0 i = tkE (S f) (dn f) := (zR_n (Or.inl (by decide))).trans ((zR_n (Or.inl (by decide))).trans ((zR_n (Or.inl (by decide))).trans (zR_s _ _ _ _)))
  have g3 : evPut E (S f) i f (dn f) 3 i = bI (dn f % 2 = 0) := zR_s _ _ _ _
  generalize evPut E (S f) i f (dn f) = E' at g g0 g3
  have u1 := smG_up gOp dn (f := f) n.toNat
  have u2 := smG_up (gLa S) dn (f := f) n.toNat
  rw [Int.toNat_of_nonneg hn.1, if_pos ⟨hf, f1⟩] at u1 u2
  have o1 : opn (E' 3) i = opn (E 3) i := pf_congr fun k a k0 k1 => by rw [g 3 k (by omega)]
  have l1 : las (E' 0) (E' 3) i = las (E 0) (E 3) i := pf_congr fun k a k0 k1 => by rw [g 3 k (by omega), g 0 k (by omega)]
  have gs := gLa_s S f hd.1
  rw [opn_s _ hi.1, las_s _ _ hi.1, u1, u2, o1, l1, ho, hl, g3, g0, gs]
  unfold gOp
  rcases (by omega : dn f % 2 = 0 ∨ dn f % 2 = 1) with c | c
  · rw [← bI_t c, if_pos rfl, if_pos c, if_pos rfl]; omega
  · rw [← bI_f (p := dn f % 2 = 0) (by omega), if_neg (show ¬ (0 : Int) = 1 by decide), if_neg (show ¬ dn f % 2 = 0 by omega), if_neg (show ¬ (0 : Int) = 1 by decide)]; omega
theorem mg_all (hup : ∀ u, 0 ≤ u → u < n → UPE (S u) (Fv u 2)) (hc : ∀ u, 0 ≤ u → u < n → 0 ≤ Fv u 2) (hn : 0 ≤ n ∧ n ≤ 4) (E : Nat → Int → Int) (dn : Int → Int) : ∀ k : Nat, (k : Int) ≤ 2 * nSou Fv n → opn ((mgF Fv S n E dn k).1 3) k = smG gOp (mgF Fv S n E dn k).2 n ∧ las ((mgF Fv S n E dn k).1 0) ((mgF Fv S n E dn k).1 3) k = smG (gLa S) (mgF Fv S n E dn k).2 n := by
  intro k
  induction k with
  | zero =>
    intro _
    have z : ∀ u, 0 ≤ u → u < n → dnZ dn n u = 0 := fun u q0 q1 => if_pos ⟨q0, q1⟩
    have s : ∀ g : Int → Int → Int, (∀ u, g u 0 = 0) → ∀ m : Nat, (m : Int) ≤ n → smG g (dnZ dn n) m = 0 := by
      intro g hg m
      induction m with
      | zero => intro _; rfl
      | succ m ih =>
        intro hm
        rw [show ((m + 1 : Nat) : Int) = (m : Int) + 1 by omega, smG_s _ _ (by omega), ih (by omega), z (m : Int) (by omega) (by omega), hg]
        rfl
    have s1 := s gOp (fun _ => rfl) n.toNat (by omega)
    have s2 := s (gLa S) (fun _ => rfl) n.toNat (by omega)
    rw [Int.toNat_of_nonneg hn.1] at s1 s2
    exact ⟨s1.symm, s2.symm⟩
  | succ k ih =>
    intro hk
    have q := ih (by omega)
    have mi := MI_all hup hc hn E dn k (by omega)
    rw [show ((k + 1 : Nat) : Int) = (k : Int) + 1 by omega, mgF_s Fv S n E dn (by omega)]
    exact mg_step hn ⟨by omega, by omega⟩ mi q.1 q.2
/-- rows that are told stay -/
theorem mg_stay (E : Nat → Int → Int) (dn : Int → Int) (i : Nat) : ∀ j : Nat, ∀ w k : _, (k : Int) < (i : Int) → (mgF Fv S n E dn ((i + j : Nat) : Int)).1 w k = (mgF Fv S n E dn i).1 w k := by
  intro j
  induction j with
  | zero => intro w k hk; rfl
  | succ j ih =>
    intro w k hk
    rw [show ((i + (j + 1) : Nat) : Int) = ((i + j : Nat) : Int) + 1 by omega, mgF_s Fv S n E dn (by omega), ← ih w k hk]
    unfold mgS
    split
    · have q : k ≠ ((i + j : Nat) : Int) := by omega
      exact (zR_n (Or.inr q)).trans ((zR_n (Or.inr q)).trans ((zR_n (Or.inr q)).trans (zR_n (Or.inr q))))
    · rfl
theorem smG_op {dn : Int → Int} : ∀ k : Nat, (∀ u, 0 ≤ u → u < (k : Int) → 0 ≤ dn u) → 0 ≤ smG gOp dn k ∧ smG gOp dn k ≤ k := by
  intro k
  induction k with
  | zero => intro _; exact ⟨Int.le_refl _, Int.le_refl _⟩
  | succ k ih =>
    intro h
    have q := ih (fun u h0 h1 => h u h0 (by omega))
    have r := h (k : Int) (by omega) (by omega)
    rw [show ((k + 1 : Nat) : Int) = (k : Int) + 1 by omega, smG_s _ _ (by omega)]
    unfold gOp at q ⊢
    omega
theorem smG_eq {g : Int → Int → Int} {dn c : Int → Int} : ∀ k : Nat, (∀ u, 0 ≤ u → u < (k : Int) → g u (dn u) = c u) → smG g dn k = pf 0 (fun v a => a + c v) k := fun k h => pf_congr fun i a i0 i1 => by rw [h i i0 i1]
/-- the lengths of a voice's sounds -/
def slen (S : Nat → Int → Int) : Int → Int := pf 0 (fun j a => a + (S 1 j - S 0 j))
theorem slen_s (S : Nat → Int → Int) {j : Int} (h : 0 ≤ j) : slen S (j + 1) = slen S j + (S 1 j - S 0 j) := pf_s _ _ h
theorem gLa_len (S : Int → Nat → Int → Int) (u : Int) : ∀ c : Nat, gLa S u (2 * (c : Int)) = slen (S u) c := by
  intro c
  induction c with
  | zero => rfl
  | succ c ih =>
    have e0 : tkE (S u) (2 * (c : Int)) = S u 0 c := by unfold tkE; rw [if_pos (by omega), show 2 * (c : Int) / 2 = c by omega]
    have e1 : tkE (S u) (2 * (c : Int) + 1) = S u 1 c := by unfold tkE; rw [if_neg (by omega), show (2 * (c : Int) + 1) / 2 = c by omega]
    rw [show 2 * ((c + 1 : Nat) : Int) = 2 * (c : Int) + 1 + 1 by omega, gLa_s S u (by omega), gLa_s S u (by omega), ih, show ((c + 1 : Nat) : Int) = (c : Int) + 1 by omega, slen_s _ (by omega), e0, e1, if_pos (by omega), if_neg (by omega)]
    omega
end EP9
section SL9
variable {J : Int → Prop} {tn bg tk : Int → Int} {n : Int}
theorem slen_all [DecidablePred J] (hJ : ∀ i, J i → 0 ≤ i ∧ i + 1 < n ∧ ¬ tn i = -1 ∧ tn i = tn (i + 1)) (hbg : ∀ i, 0 ≤ i → i < n → bg (i + 1) = bg i + tk i ∧ 0 < tk i) (hmo : ∀ i j, 0 ≤ i → i < j → j ≤ n → bg i < bg j) (S : Nat → Int → Int) : ∀ k : Nat, (k : Int) ≤ n → slen (pf (0, S) (soG J tn bg tk) k).2 (pf (0, S) (soG J tn bg tk) k).1 = pf 0 (fun e a => a + (if tn e = -1 then 0 else tk e)) k := by
  intro k
  induction k with
  | zero => intro _; rfl
  | succ k ih =>
    intro hk
    have q := ih (by omega)
    have si := SI_all hJ hbg hmo S k (by omega)
    have hb := hbg (k : Int) (by omega) (by omega)
    rw [show ((k + 1 : Nat) : Int) = (k : Int) + 1 by omega, show pf (0, S) (soG J tn bg tk) ((k : Int) + 1) = soG J tn bg tk k (pf (0, S) (soG J tn bg tk) k) from pf_s _ _ (by omega), show pf 0 (fun e a => a + (if tn e = -1 then 0 else tk e)) ((k : Int) + 1) = pf 0 (fun e a => a + (if tn e = -1 then 0 else tk e)) k + (if tn k = -1 then 0 else tk k) from pf_s _ _ (by omega), ← q]
    clear q ih
    generalize pf (0, S) (soG J tn bg tk) (k : Int) = z at si
    obtain ⟨c, S1⟩ := z
    dsimp only at si ⊢
    obtain ⟨h1, -, -, -, -, -, h7⟩ := si
    unfold soG
    by_cases hr : tn k = -1
    · rw [if_pos hr, if_pos hr, Int.add_zero]
    · rw [if_neg hr, if_neg hr]
      by_cases hj : J ((k : Int) - 1) ∧ 0 < c
      · rw [if_pos hj]
        have hJk := hJ _ hj.1
        have h7' := h7 (by omega) hJk.2.2.1
        have e0 : ∀ j, zR S1 1 (c - 1) (bg k + tk k) 0 j = S1 0 j := fun j => zR_n (Or.inl (by decide))
        have e1 : ∀ j, j ≠ c - 1 → zR S1 1 (c - 1) (bg k + tk k) 1 j = S1 1 j := fun j q => zR_n (Or.inr q)
        have e2 : zR S1 1 (c - 1) (bg k + tk k) 1 (c - 1) = bg k + tk k := zR_s _ _ _ _
        have a1 : slen (zR S1 1 (c - 1) (bg k + tk k)) (c - 1) = slen S1 (c - 1) := pf_congr fun j a j0 j1 => by rw [e0 j, e1 j (by omega)]
        show slen (zR S1 1 (c - 1) (bg k + tk k)) c = slen S1 c + tk k
        have s1 := slen_s (zR S1 1 (c - 1) (bg k + tk k)) (j := c - 1) (by omega)
        have s2 := slen_s S1 (j := c - 1) (by omega)
        rw [show c - 1 + 1 = c by omega] at s1 s2
        rw [s1, s2, a1, e2, e0, h7'.2.1]
        omega
      · rw [if_neg hj]
        have g : ∀ w j, j ≠ c → zR (zR (zR S1 0 c (bg k)) 2 c (tn k)) 1 c (bg k + tk k) w j = S1 w j := fun w j q => (zR_n (Or.inr q)).trans ((zR_n (Or.inr q)).trans (zR_n (Or.inr q)))
        have g0 : zR (zR (zR S1 0 c (bg k)) 2 c (tn k)) 1 c (bg k + tk k) 0 c = bg k := (zR_n (Or.inl (by decide))).trans ((zR_n (Or.inl (by decide))).trans (zR_s _ _ _ _))
        have g1 : zR (zR (zR S1 0 c (bg k)) 2 c (tn k)) 1 c (bg k + tk k) 1 c = bg k + tk k := zR_s _ _ _ _
        have a1 : slen (zR (zR (zR S1 0 c (bg k)) 2 c (tn k)) 1 c (bg k + tk k)) c = slen S1 c := pf_congr fun j a j0 j1 => by rw [g 0 j (by omega), g 1 j (by omega)]
        show slen (zR (zR (zR S1 0 c (bg k)) 2 c (tn k)) 1 c (bg k + tk k)) (c + 1) = slen S1 c + tk k
        rw [slen_s _ h1.1, a1, g0, g1]
        omega
end SL9
section EF9
variable {F : Nat → Int} {E : Nat → Int → Int} {T P S Av : Int → Nat → Int → Int} {Fv : Int → Nat → Int} {FM : Nat → Int} {A : Nat → Int → Int} {B : Int → Int → Int}
theorem REL.slen (h : REL F E T P S Av Fv FM A B) {v : Int} (hv : 0 ≤ v ∧ v < 4) : slen (S v) (Fv v 2) = mtV B v (A 0 v) := by
  have b := h.BRs v hv.1 hv.2
  obtain ⟨S0, e1, e2⟩ := h.DSs v hv.1 hv.2
  have hn := (h.1.many hv).1
  rw [b.so S0] at e1 e2
  have q := slen_all (jmM_J A B v) (bg_pos h.1 hv) (bg_lt h.1 hv) S0 (A 0 v).toNat (by omega)
  rw [Int.toNat_of_nonneg hn] at q
  rw [e1, e2, q]
  refine pf_congr fun e a e0 e1 => ?_
  have r := (b.2.2.2 e e0 e1).rest
  unfold mtE
  by_cases c : B v (10 * e + 2) = 0
  · rw [if_pos c, if_pos (r.mpr c)]
  · rw [if_neg c, if_neg (fun z => c (r.mp z))]
/-- what the law asks of the events -/
theorem REL.evs (h : REL F E T P S Av Fv FM A B) (g : Int → Int) (X W : Int → Int) (hX : ∀ k, X k = evO A B g (FM 4) (4 * k + 0)) (hW : ∀ k, W k = evO A B g (FM 4) (4 * k + 3)) :
    (0 ≤ ecT A B (FM 4) ∧ ecT A B (FM 4) ≤ 1600) ∧ (∀ k, 0 ≤ k → k + 1 < ecT A B (FM 4) → X k ≤ X (k + 1)) ∧ (∀ k, 0 ≤ k → k < ecT A B (FM 4) → (0 ≤ X k ∧ X k ≤ 1000000) ∧ (W k = 0 ∨ W k = 1)) ∧ (∀ i, 0 ≤ i → i ≤ ecT A B (FM 4) → 0 ≤ opn W i ∧ opn W i ≤ FM 4) ∧ opn W (ecT A B (FM 4)) = 0 ∧ las X W (ecT A B (FM 4)) = mtT A B (FM 4) := by
  have hM := h.1
  have nm := h.2.1.nums h.1
  have hF0 := h.2.1.1
  have hc := h.count
  rw [hF0] at hc nm
  have hn := nm.1
  generalize FM 4 = n at hn hc hX hW hF0 ⊢
  have hsd : ∀ u, 0 ≤ u → u < 4 → SD (jmM A B u) (mTn B u) (bgM B u) (mTk B u) (A 0 u) (Fv u 2) (S u) := fun u a b => h.sd a b
  have hup : ∀ u, 0 ≤ u → u < n → UPE (S u) (Fv u 2) := fun u a b => (hsd u a (by omega)).up
  have hcc : ∀ u, 0 ≤ u → u < n → 0 ≤ Fv u 2 := fun u a b => (hsd u a (by omega)).1.1
  have hns := nSou_rng h.cok (n := n) hn
  obtain ⟨M, hMM⟩ : ∃ M : Nat, (M : Int) = 2 * nSou Fv n := ⟨(2 * nSou Fv n).toNat, by omega⟩
  rw [← hc, ← hMM]
  have eq := ev_eq hM h.BRs h.DSs hn E (fun _ => 0) g
  rw [← hMM] at eq
  have mi := MI_all hup hcc hn E (fun _ => 0) M (by omega)
  have ma := mg_all hup hcc hn E (fun _ => 0)
  have eX : ∀ k, 0 ≤ k → k < (M : Int) → X k = (mgF Fv S n E (fun _ => 0) M).1 0 k := fun k k0 k1 => by rw [hX k]; exact (eq k k0 k1 0 (by decide)).symm
  have eW : ∀ k, 0 ≤ k → k < (M : Int) → W k = (mgF Fv S n E (fun _ => 0) M).1 3 k := fun k k0 k1 => by rw [hW k]; exact (eq k k0 k1 3 (by decide)).symm
  have rows := mi.2.2.2.2.1
  have rng : ∀ k, 0 ≤ k → k < (M : Int) → (0 ≤ X k ∧ X k ≤ 1000000) ∧ (W k = 0 ∨ W k = 1) := fun k k0 k1 => by
    obtain ⟨u, j, hu, hj, r0, r1, r2, r3⟩ := rows k k0 k1
    have hd := (mi.1 u hu.1 hu.2).2
    have hs := h.hvs u (j / 2) hu.1 (by rw [hF0]; exact hu.2) (by omega) (by omega)
    rw [eX k k0 k1, eW k k0 k1, r0, r3]
    refine ⟨?_, bI_01 _⟩
    unfold tkE
    split <;> omega
  have stay : ∀ i : Nat, (i : Int) ≤ (M : Int) → opn W i = smG gOp (mgF Fv S n E (fun _ => 0) i).2 n ∧ las X W i = smG (gLa S) (mgF Fv S n E (fun _ => 0) i).2 n := fun i hi => by
    have q := ma i (by omega)
    have st := fun w k (hk : (k : Int) < (i : Int)) => mg_stay (Fv := Fv) (S := S) (n := n) E (fun _ => 0) i (M - i) w k hk
    rw [show i + (M - i) = M by omega] at st
    rw [← q.1, ← q.2]
    exact ⟨pf_congr fun k a k0 k1 => by rw [eW k k0 (by omega), st 3 k k1], pf_congr fun k a k0 k1 => by rw [eW k k0 (by omega), eX k k0 (by omega), st 3 k k1, st 0 k k1]⟩
  have full : ∀ u, 0 ≤ u → u < n → (mgF Fv S n E (fun _ => 0) M).2 u = 2 * Fv u 2 := by
    have q := smE_full (Fv := Fv) (dn := (mgF Fv S n E (fun _ => 0) M).2) n.toNat (fun u u0 u1 => (mi.1 u u0 (by omega)).2)
    rw [Int.toNat_of_nonneg hn.1] at q
    exact q.2 (mi.2.1.trans hMM)
  refine ⟨⟨by omega, by omega⟩, fun k k0 k1 => ?_, rng, fun i i0 i1 => ?_, ?_, ?_⟩
  · have up := mi.2.2.1 k k0 k1
    unfold kE kyE at up
    obtain ⟨u, j, hu, -, r0, r1, -, r3⟩ := rows k k0 (by omega)
    obtain ⟨u2, j2, hu2, -, s0, s1, -, s3⟩ := rows (k + 1) (by omega) k1
    have b1 := bI_01 (j % 2 = 0)
    have b2 := bI_01 (j2 % 2 = 0)
    rw [eX k k0 (by omega), eX (k + 1) (by omega) k1]
    rw [r1, r3, s1, s3] at up
    omega
  · have q := stay i.toNat (by omega)
    have mi2 := MI_all hup hcc hn E (fun _ => 0) i.toNat (by omega)
    have o := smG_op (dn := (mgF Fv S n E (fun _ => 0) (i.toNat : Int)).2) n.toNat (fun u u0 u1 => (mi2.1 u u0 (by omega)).1)
    rw [Int.toNat_of_nonneg hn.1] at o
    rw [Int.toNat_of_nonneg i0] at q o
    rw [q.1]; exact o
  · rw [(stay M (Int.le_refl _)).1]
    have e := smG_eq (g := gOp) (dn := (mgF Fv S n E (fun _ => 0) M).2) (c := fun _ => 0) n.toNat (fun u u0 u1 => by unfold gOp; rw [full u u0 (by omega)]; omega)
    rw [Int.toNat_of_nonneg hn.1] at e
    rw [e]
    have z : ∀ m : Nat, pf (0 : Int) (fun (_ : Int) (a : Int) => a + 0) m = 0 := by
      intro m
      induction m with
      | zero => rfl
      | succ m ih => rw [show ((m + 1 : Nat) : Int) = (m : Int) + 1 by omega, show pf (0 : Int) (fun (_ : Int) (a : Int) => a + 0) ((m : Int) + 1) = pf (0 : Int) (fun (_ : Int) (a : Int) => a + 0) m + 0 from pf_s _ _ (by omega), ih]; rfl
    have z9 := z n.toNat
    rw [Int.toNat_of_nonneg hn.1] at z9
    exact z9
  · rw [(stay M (Int.le_refl _)).2]
    have e := smG_eq (g := gLa S) (dn := (mgF Fv S n E (fun _ => 0) M).2) (c := fun u => mtV B u (A 0 u)) n.toNat (fun u u0 u1 => by
      rw [full u u0 (by omega)]
      have c0 := hcc u u0 (by omega)
      have q := gLa_len S u (Fv u 2).toNat
      rw [Int.toNat_of_nonneg c0] at q
      rw [q]
      exact h.slen ⟨u0, by omega⟩)
    rw [Int.toNat_of_nonneg hn.1] at e
    exact e
end EF9
