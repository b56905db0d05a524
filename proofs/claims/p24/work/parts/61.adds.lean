section RB9
variable {F : Nat → Int} {E : Nat → Int → Int} {T P S Av : Int → Nat → Int → Int} {Fv : Int → Nat → Int} {FM : Nat → Int} {A A' AC : Nat → Int → Int} {B B' : Int → Int → Int} {v x N : Int} {sd : Int → Int}
theorem add_core (h : REL F E T P S Av Fv FM A B) (AC : Nat → Int → Int) (hv : 0 ≤ v ∧ v < F 0) (hx : 0 ≤ x ∧ x < 15) (hN : N = cutN (F 2) (bgM B v (A 0 v) + valT x) (bgM B v (A 0 v))) : plN F AC Fv v x = N ∧ (1 ≤ N ∧ N ≤ 56) ∧ ctA (F 2) (bgM B v (A 0 v) + valT x) (bgM B v (A 0 v)) N = bgM B v (A 0 v) + valT x ∧
    (∀ j, 0 ≤ j → j < N → (0 ≤ plC F AC Fv v x j ∧ plC F AC Fv v x j < 15) ∧ plC F AC Fv v x j = kkC (F 2) (bgM B v (A 0 v) + valT x) (ctA (F 2) (bgM B v (A 0 v) + valT x) (bgM B v (A 0 v)) j) ∧ ctA (F 2) (bgM B v (A 0 v) + valT x) (bgM B v (A 0 v)) (j + 1) = ctA (F 2) (bgM B v (A 0 v) + valT x) (bgM B v (A 0 v)) j + valT (plC F AC Fv v x j) ∧ ctA (F 2) (bgM B v (A 0 v) + valT x) (bgM B v (A 0 v)) j / F 2 = (ctA (F 2) (bgM B v (A 0 v) + valT x) (bgM B v (A 0 v)) (j + 1) - 1) / F 2) ∧
    ((plA F AC T Fv v x).2 0 = A 0 v + N ∧ (plA F AC T Fv v x).2 1 = bgM B v (A 0 v) + valT x) ∧ (∀ i w, i < A 0 v → (plA F AC T Fv v x).1 w i = T v w i) ∧
    ∀ j, 0 ≤ j → j < N → (plA F AC T Fv v x).1 0 (A 0 v + j) = ctA (F 2) (bgM B v (A 0 v) + valT x) (bgM B v (A 0 v)) j ∧ (plA F AC T Fv v x).1 1 (A 0 v + j) = valT (plC F AC Fv v x j) ∧ (plA F AC T Fv v x).1 2 (A 0 v + j) = valP (plC F AC Fv v x j) ∧ (plA F AC T Fv v x).1 3 (A 0 v + j) = valD (plC F AC Fv v x j) ∧ (plA F AC T Fv v x).1 4 (A 0 v + j) = -1 ∧ (plA F AC T Fv v x).1 5 (A 0 v + j) = 0 ∧ (plA F AC T Fv v x).1 6 (A 0 v + j) = ctA (F 2) (bgM B v (A 0 v) + valT x) (bgM B v (A 0 v)) j / F 2 := by
  have n := h.2.1.nums h.1
  have hv4 : v < 4 := by omega
  have r := (h.2.2.1 v hv.1 hv4).1
  have m := h.1.many ⟨hv.1, hv4⟩
  have g := bgM_rng h.1 ⟨hv.1, hv4⟩ (e := A 0 v) ⟨m.1, Int.le_refl _⟩
  have g12 := bgM_12 h.1 ⟨hv.1, hv4⟩ (e := A 0 v) ⟨m.1, Int.le_refl _⟩
  obtain ⟨p1, p2, p3, p4⟩ := pc_all hx (b := F 2) (fr := bgM B v (A 0 v)) ⟨n.2.2.1.1, n.2.2.1.2.2⟩ ⟨by omega, g12⟩ (AC 1) hN
  have e1 : plN F AC Fv v x = N := by
    unfold plN
    rw [r.2.1]; exact p1
  have e2 : plC F AC Fv v x = (ppF (F 2) (valT x) (F 2 - (bgM B v (A 0 v) - bgM B v (A 0 v) / F 2 * F 2)) (AC 1) N).2.2 := by
    unfold plC
    rw [e1, r.2.1]
  have hpc : ∀ j, 0 ≤ j → j < N → (0 ≤ plC F AC Fv v x j ∧ plC F AC Fv v x j < 15) ∧ plC F AC Fv v x j = kkC (F 2) (bgM B v (A 0 v) + valT x) (ctA (F 2) (bgM B v (A 0 v) + valT x) (bgM B v (A 0 v)) j) ∧ ctA (F 2) (bgM B v (A 0 v) + valT x) (bgM B v (A 0 v)) (j + 1) = ctA (F 2) (bgM B v (A 0 v) + valT x) (bgM B v (A 0 v)) j + valT (plC F AC Fv v x j) ∧ ctA (F 2) (bgM B v (A 0 v) + valT x) (bgM B v (A 0 v)) j / F 2 = (ctA (F 2) (bgM B v (A 0 v) + valT x) (bgM B v (A 0 v)) (j + 1) - 1) / F 2 := fun j j0 j1 => by
    have q := p4 j j0 j1
    rw [e2]
    exact ⟨q.1, q.2.2⟩
  have row := ap_row (bar := F 2) (K := N) (pc := plC F AC Fv v x) (ce := ctA (F 2) (bgM B v (A 0 v) + valT x) (bgM B v (A 0 v))) (T := T v) (Fq := Fv v) r.2.1.symm (fun j j0 j1 => (hpc j j0 j1).2.2.1) N.toNat (by omega)
  rw [Int.toNat_of_nonneg (by omega), r.1] at row
  have e3 : plA F AC T Fv v x = apF (F 2) (plC F AC Fv v x) (T v) (Fv v) N := by
    unfold plA
    rw [e1]
  rw [e3]
  exact ⟨e1, p2, p3, hpc, ⟨row.1.1, by rw [row.1.2]; exact p3⟩, row.2⟩
/-- the model's new elements -/
theorem add_new (h : REL F E T P S Av Fv FM A B) (AC : Nat → Int → Int) (hv : 0 ≤ v ∧ v < F 0) (hx : 0 ≤ x ∧ x < 15) (hN : N = cutN (F 2) (bgM B v (A 0 v) + valT x) (bgM B v (A 0 v))) (s0 : sd 0 = valP x) (s1 : sd 1 = valD x)
    (hB : ∀ u e w, 0 ≤ w → w < 7 → B' u (10 * e + w) = if u = v ∧ A 0 v ≤ e ∧ e < A 0 v + N ∧ w < 7 then elC (F 2) (bgM B v (A 0 v) + valT x) (bgM B v (A 0 v)) sd (e - A 0 v) w else B u (10 * e + w)) {j : Int} (j0 : 0 ≤ j) (j1 : j < N) :
    B' v (10 * (A 0 v + j) + 0) = valP (plC F AC Fv v x j) ∧ B' v (10 * (A 0 v + j) + 1) = valD (plC F AC Fv v x j) ∧ (∀ w, 2 ≤ w → w ≤ 5 → B' v (10 * (A 0 v + j) + w) = sd w) ∧ B' v (10 * (A 0 v + j) + 6) = if j = N - 1 then sd 6 else sd 2 := by
  have n := h.2.1.nums h.1
  have hv4 : v < 4 := by omega
  have m := h.1.many ⟨hv.1, hv4⟩
  have g := bgM_rng h.1 ⟨hv.1, hv4⟩ (e := A 0 v) ⟨m.1, Int.le_refl _⟩
  have g12 := bgM_12 h.1 ⟨hv.1, hv4⟩ (e := A 0 v) ⟨m.1, Int.le_refl _⟩
  obtain ⟨-, -, -, hpc, -⟩ := add_core h AC hv hx hN
  obtain ⟨q0, q1, q2, q6⟩ := el_pc hx (b := F 2) (fr := bgM B v (A 0 v)) ⟨n.2.2.1.1, n.2.2.1.2.2⟩ ⟨by omega, g12⟩ s0 s1 hN ⟨j0, j1⟩
  have at9 : ∀ w, 0 ≤ w → w < 7 → B' v (10 * (A 0 v + j) + w) = elC (F 2) (bgM B v (A 0 v) + valT x) (bgM B v (A 0 v)) sd j w := fun w w0 w1 => by
    rw [hB v (A 0 v + j) w w0 w1, if_pos ⟨rfl, by omega, by omega, w1⟩, show A 0 v + j - A 0 v = j by omega]
  rw [at9 0 (by decide) (by decide), at9 1 (by decide) (by decide), at9 6 (by decide) (by decide), q0, q1, q6, (hpc j j0 j1).2.1]
  exact ⟨rfl, rfl, fun w w0 w1 => (at9 w (by omega) (by omega)).trans (q2 w w0 w1), rfl⟩
theorem add_O (hB : ∀ u e w, 0 ≤ w → w < 7 → B' u (10 * e + w) = if u = v ∧ A 0 v ≤ e ∧ e < A 0 v + N ∧ w < 7 then elC (F 2) (bgM B v (A 0 v) + valT x) (bgM B v (A 0 v)) sd (e - A 0 v) w else B u (10 * e + w)) : ∀ u e w, 0 ≤ w → w < 7 → (¬ (u = v ∧ A 0 v ≤ e ∧ e < A 0 v + N)) → B' u (10 * e + w) = B u (10 * e + w) := fun u e w w0 w1 c => by rw [hB u e w w0 w1, if_neg (fun z => c ⟨z.1, z.2.1, z.2.2.1⟩)]
theorem REL.addRest (h : REL F E T P S Av Fv FM A B) (AC : Nat → Int → Int) (hv : 0 ≤ v ∧ v < F 0) (hx : 0 ≤ x ∧ x < 15) (hN : N = cutN (F 2) (bgM B v (A 0 v) + valT x) (bgM B v (A 0 v))) (hful : A 0 v + N ≤ 200 ∧ bgM B v (A 0 v) + valT x ≤ 100 * F 2) (s0 : sd 0 = valP x) (s1 : sd 1 = valD x) (s2 : sd 2 = 0) (s3 : sd 3 = 0) (s4 : sd 4 = 0) (s5 : sd 5 = 0) (s6 : sd 6 = 0)
    (hA : ∀ u, A' 0 u = if u = v then A 0 v + N else A 0 u) (hB : ∀ u e w, 0 ≤ w → w < 7 → B' u (10 * e + w) = if u = v ∧ A 0 v ≤ e ∧ e < A 0 v + N ∧ w < 7 then elC (F 2) (bgM B v (A 0 v) + valT x) (bgM B v (A 0 v)) sd (e - A 0 v) w else B u (10 * e + w)) :
    ARO F E (zV T v (plA F AC T Fv v x).1) P S Av (zV Fv v (plA F AC T Fv v x).2) v FM A' B' := by
  have n := h.2.1.nums h.1
  have hv4 : v < 4 := by omega
  have m := h.1.many ⟨hv.1, hv4⟩
  obtain ⟨c1, c2, c3, c4, c5, c6, c7⟩ := add_core h AC hv hx hN
  have nw := fun j (j0 : 0 ≤ j) (j1 : j < N) => add_new h AC hv hx hN s0 s1 hB j0 j1
  have off := add_O hB
  obtain ⟨h1, h2, h3, h4, h5⟩ := h
  have r := h3 v hv.1 hv4
  have six : ∀ j, 0 ≤ j → j < N → B' v (10 * (A 0 v + j) + 6) = 0 := fun j j0 j1 => by
    rw [(nw j j0 j1).2.2.2, s6, s2]; split <;> rfl
  refine arO_REL (F := F) (E := E) (T := zV T v (plA F AC T Fv v x).1) (P := P) (S := S) (Av := Av) (Fv := zV Fv v (plA F AC T Fv v x).2) (FM := FM) (A := A') (B := B') (v := v) (add_MOK (sd := sd) h1 ⟨hv.1, hv4⟩ c2.1 hful.1 hA off (fun j j0 j1 => (c4 j j0 j1).1) (fun j j0 j1 => ?_)) h2 (fun u u0 u1 hu => ?_) ⟨hv.1, hv4⟩ ?_ r.2.2 (fun u u0 u1 => by rw [hA u, if_neg (by omega)]; exact h4 u u0 u1)
  · obtain ⟨q0, q1, q2, q6⟩ := nw j j0 j1
    rw [q0, q1, q2 2 (by decide) (by decide), q2 3 (by decide) (by decide), q2 4 (by decide) (by decide), q2 5 (by decide) (by decide), six j j0 j1, s2, s3, s4, s5]
    exact ⟨rfl, rfl, by decide, by decide, by decide, by decide, by decide⟩
  · rw [zV_n _ hu, zV_n _ hu]
    exact (h3 u u0 u1).same (by rw [hA u, if_neg hu]) (fun e _ _ w w0 w1 => off u e w w0 w1 (fun z => hu z.1))
  · rw [zV_s, zV_s]
    refine add_BR (pc := plC F AC Fv v x) (ce := ctA (F 2) (bgM B v (A 0 v) + valT x) (bgM B v (A 0 v))) r.1 m.1 c2.1 (by rw [hA v, if_pos rfl]) (fun e _ e1 w w0 w1 => off v e w w0 w1 (by omega)) (fun e _ e1 w => ⟨c6 e w e1, rfl⟩) c5.1 c5.2 hful.2 rfl c3 (fun j j0 j1 => ⟨(c4 j j0 j1).1, (c4 j j0 j1).2.2⟩) (fun j j0 j1 => ⟨(c7 j j0 j1).1, (c7 j j0 j1).2.1, (c7 j j0 j1).2.2.1, (c7 j j0 j1).2.2.2.1, (c7 j j0 j1).2.2.2.2.2.2⟩) (fun j j0 j1 => ⟨(nw j j0 j1).1, (nw j j0 j1).2.1⟩) (fun j j0 j1 => ?_)
    have b2 : B' v (10 * (A 0 v + j) + 2) = 0 := ((nw j j0 j1).2.2.1 2 (by decide) (by decide)).trans s2
    refine ⟨?_, by rw [six j j0 j1]; exact (c7 j j0 j1).2.2.2.2.2.1, fun z => absurd b2 z, fun _ => six j j0 j1⟩
    unfold mTn
    rw [if_pos b2]; exact (c7 j j0 j1).2.2.2.2.1
theorem REL.addNote (h : REL F E T P S Av Fv FM A B) (AC : Nat → Int → Int) {st sg oc t : Int} (hv : 0 ≤ v ∧ v < F 0) (hx : 0 ≤ x ∧ x < 15) (hN : N = cutN (F 2) (bgM B v (A 0 v) + valT x) (bgM B v (A 0 v))) (hful : A 0 v + N ≤ 200 ∧ bgM B v (A 0 v) + valT x ≤ 100 * F 2) (hok : 0 ≤ st ∧ st < 7 ∧ 0 ≤ oc ∧ oc < 9 ∧ -2 ≤ sg ∧ sg ≤ 2 ∧ 0 ≤ toneF st sg oc) (ht : t = 0 ∨ t = 1)
    (s0 : sd 0 = valP x) (s1 : sd 1 = valD x) (s2 : sd 2 = 1) (s3 : sd 3 = st) (s4 : sd 4 = sg) (s5 : sd 5 = oc) (s6 : sd 6 = t)
    (hA : ∀ u, A' 0 u = if u = v then A 0 v + N else A 0 u) (hB : ∀ u e w, 0 ≤ w → w < 7 → B' u (10 * e + w) = if u = v ∧ A 0 v ≤ e ∧ e < A 0 v + N ∧ w < 7 then elC (F 2) (bgM B v (A 0 v) + valT x) (bgM B v (A 0 v)) sd (e - A 0 v) w else B u (10 * e + w)) :
    ARO F E (zV T v (anF (Fv v 0) (Fv v 0 + N) st sg oc t (plA F AC T Fv v x).1 (P v) (Fv v 0 + N)).1) (zV P v (anF (Fv v 0) (Fv v 0 + N) st sg oc t (plA F AC T Fv v x).1 (P v) (Fv v 0 + N)).2) S Av (zV Fv v (plA F AC T Fv v x).2) v FM A' B' := by
  have n := h.2.1.nums h.1
  have hv4 : v < 4 := by omega
  have m := h.1.many ⟨hv.1, hv4⟩
  obtain ⟨c1, c2, c3, c4, c5, c6, c7⟩ := add_core h AC hv hx hN
  have nw := fun j (j0 : 0 ≤ j) (j1 : j < N) => add_new h AC hv hx hN s0 s1 hB j0 j1
  have off := add_O hB
  have hvok := h.vok v hv.1 hv4
  have hen := h.hen v hv.1 hv4
  have hcok := h.cok.2 v hv.1 hv4
  obtain ⟨h1, h2, h3, h4, h5⟩ := h
  have r := h3 v hv.1 hv4
  have hs := stepT_rng (k := st) ⟨hok.1, hok.2.1⟩
  have hto : toneF st sg oc = 12 * oc + stepT st + sg := rfl
  have pok := plA_ok (F := F) (A := AC) (T := T) (P := P v) (Fv := Fv) (v := v) (x := x) hvok ⟨n.2.2.1.1, n.2.2.1.2.1⟩ ⟨hcok.2.1.1, hen.1⟩ (by omega) (by rw [r.1.1, c1]; exact hful.1)
  rw [r.1.1]
  have ank := anF_ok (n0 := A 0 v) (n1 := A 0 v + N) (st := st) (sg := sg) (oc := oc) (t := t) (i := A 0 v + N) pok.1 ⟨hok.1, hok.2.1, hok.2.2.1, hok.2.2.2.1, hok.2.2.2.2.1, hok.2.2.2.2.2.1, hok.2.2.2.2.2.2, by omega⟩ (by omega)
  have anr := an_row (n0 := A 0 v) (n1 := A 0 v + N) (st := st) (sg := sg) (oc := oc) (t := t) (T := (plA F AC T Fv v x).1) (P := P v) (A 0 v + N).toNat
  rw [Int.toNat_of_nonneg (by omega)] at anr
  generalize anF (A 0 v) (A 0 v + N) st sg oc t (plA F AC T Fv v x).1 (P v) (A 0 v + N) = z at ank anr
  obtain ⟨T2, P2⟩ := z
  obtain ⟨a1, a2⟩ := anr
  dsimp only at ank a1 a2 ⊢
  have six : ∀ j, 0 ≤ j → j < N → B' v (10 * (A 0 v + j) + 6) = if j = N - 1 then t else 1 := fun j j0 j1 => by
    rw [(nw j j0 j1).2.2.2, s6, s2]
  refine arO_REL (F := F) (E := E) (T := zV T v T2) (P := zV P v P2) (S := S) (Av := Av) (Fv := zV Fv v (plA F AC T Fv v x).2) (FM := FM) (A := A') (B := B') (v := v) (add_MOK (sd := sd) h1 ⟨hv.1, hv4⟩ c2.1 hful.1 hA off (fun j j0 j1 => (c4 j j0 j1).1) (fun j j0 j1 => ?_)) h2 (fun u u0 u1 hu => ?_) ⟨hv.1, hv4⟩ ?_ ?_ (fun u u0 u1 => by rw [hA u, if_neg (by omega)]; exact h4 u u0 u1)
  · obtain ⟨q0, q1, q2, q6⟩ := nw j j0 j1
    rw [q0, q1, q2 2 (by decide) (by decide), q2 3 (by decide) (by decide), q2 4 (by decide) (by decide), q2 5 (by decide) (by decide), six j j0 j1, s2, s3, s4, s5]
    exact ⟨rfl, rfl, by decide, ⟨hok.1, hok.2.1⟩, ⟨hok.2.2.2.2.1, hok.2.2.2.2.2.1⟩, ⟨hok.2.2.1, hok.2.2.2.1⟩, by split <;> omega⟩
  · rw [zV_n _ hu, zV_n _ hu, zV_n _ hu]
    exact (h3 u u0 u1).same (by rw [hA u, if_neg hu]) (fun e _ _ w w0 w1 => off u e w w0 w1 (fun z => hu z.1))
  · rw [zV_s, zV_s, zV_s]
    refine add_BR (pc := plC F AC Fv v x) (ce := ctA (F 2) (bgM B v (A 0 v) + valT x) (bgM B v (A 0 v))) r.1 m.1 c2.1 (by rw [hA v, if_pos rfl]) (fun e _ e1 w w0 w1 => off v e w w0 w1 (by omega)) (fun e _ e1 w => ⟨(a1 e w (Or.inl e1)).1.trans (c6 e w e1), (a1 e w (Or.inl e1)).2⟩) c5.1 c5.2 hful.2 rfl c3 (fun j j0 j1 => ⟨(c4 j j0 j1).1, (c4 j j0 j1).2.2⟩) (fun j j0 j1 => ?_) (fun j j0 j1 => ⟨(nw j j0 j1).1, (nw j j0 j1).2.1⟩) (fun j j0 j1 => ?_)
    · have q := (a2 (A 0 v + j) (by omega) (by omega) (by omega)).2.2.1
      rw [q 0 (by decide) (by decide), q 1 (by decide) (by decide), q 2 (by decide) (by decide), q 3 (by decide) (by decide), q 6 (by decide) (by decide)]
      exact ⟨(c7 j j0 j1).1, (c7 j j0 j1).2.1, (c7 j j0 j1).2.2.1, (c7 j j0 j1).2.2.2.1, (c7 j j0 j1).2.2.2.2.2.2⟩
    · obtain ⟨w4, w5, -, p0, p1, p2⟩ := a2 (A 0 v + j) (by omega) (by omega) (by omega)
      have q2 := (nw j j0 j1).2.2.1
      have b2 : ¬ B' v (10 * (A 0 v + j) + 2) = 0 := by rw [q2 2 (by decide) (by decide), s2]; decide
      have tn' : mTn B' v (A 0 v + j) = toneF st sg oc := by
        unfold mTn
        rw [if_neg b2, q2 3 (by decide) (by decide), q2 4 (by decide) (by decide), q2 5 (by decide) (by decide), s3, s4, s5]
      refine ⟨by rw [w4, tn'], ?_, fun _ => ⟨⟨?_, ?_, ?_⟩, by rw [tn']; exact hok.2.2.2.2.2.2⟩, fun z => absurd z b2⟩
      · rw [w5, six j j0 j1]
        by_cases c : j = N - 1
        · rw [if_pos c]
          by_cases d : t = 0
          · rw [if_pos ⟨d, by omega⟩, d]
          · rw [if_neg (fun z => d z.1)]; omega
        · rw [if_neg c, if_neg (fun z => by omega)]
      · rw [p0, q2 3 (by decide) (by decide), s3]
      · rw [p1, q2 4 (by decide) (by decide), s4]
      · rw [p2, q2 5 (by decide) (by decide), s5]
  · rw [zV_s]
    exact ⟨ank.2.2.2, r.2.2.2⟩
end RB9
