/-! the relation stays: tie, transpose, what is added -/
section RL8
variable {F : Nat → Int} {E : Nat → Int → Int} {T P S Av : Int → Nat → Int → Int} {Fv : Int → Nat → Int} {FM : Nat → Int} {A A' : Nat → Int → Int} {B B' : Int → Int → Int}
theorem REL.tie (h : REL F E T P S Av Fv FM A B) {v i t : Int} (hv : 0 ≤ v ∧ v < F 0) (hi : 0 ≤ i ∧ i < A 0 v) (ht : t = 0 ∨ t = 1) (hnt : ¬ B v (10 * i + 2) = 0) : ARO F E (zV T v (zR (T v) 5 i t)) P S Av Fv v FM A (zB B v (10 * i + 6) t) := by
  have n := h.2.1.nums h.1
  have hv4 : v < 4 := by omega
  obtain ⟨h1, h2, h3, h4, h5⟩ := h
  have r := h3 v hv.1 hv4
  have e6 : ∀ u e w, 0 ≤ w → w < 7 → ¬ (u = v ∧ e = i ∧ w = 6) → zB B v (10 * i + 6) t u (10 * e + w) = B u (10 * e + w) := fun u e w w0 w1 c => if_neg (fun z => c ⟨z.1, by omega, by omega⟩)
  have ei : zB B v (10 * i + 6) t v (10 * i + 6) = t := if_pos ⟨rfl, rfl⟩
  have tk : ∀ u e, mTk (zB B v (10 * i + 6) t) u e = mTk B u e := fun u e => by
    unfold mTk
    rw [e6 u e 0 (by decide) (by decide) (by omega), e6 u e 1 (by decide) (by decide) (by omega)]
  have tn : ∀ u e, mTn (zB B v (10 * i + 6) t) u e = mTn B u e := fun u e => by
    unfold mTn
    rw [e6 u e 2 (by decide) (by decide) (by omega), e6 u e 3 (by decide) (by decide) (by omega), e6 u e 4 (by decide) (by decide) (by omega), e6 u e 5 (by decide) (by decide) (by omega)]
  have bg : ∀ u e, bgM (zB B v (10 * i + 6) t) u e = bgM B u e := fun u e => pf_congr fun j a _ _ => by rw [tk]
  have hM' : MOK FM A (zB B v (10 * i + 6) t) := by
    obtain ⟨m1, m2, m3, m4, m5⟩ := h1
    refine ⟨m1, m2, m3, m4, fun u u0 u1 => ⟨(m5 u u0 u1).1, fun e e0 e1 => ?_⟩⟩
    have q := (m5 u u0 u1).2 e e0 e1
    rw [e6 u e 0 (by decide) (by decide) (by omega), e6 u e 1 (by decide) (by decide) (by omega), e6 u e 2 (by decide) (by decide) (by omega), e6 u e 3 (by decide) (by decide) (by omega), e6 u e 4 (by decide) (by decide) (by omega), e6 u e 5 (by decide) (by decide) (by omega)]
    refine ⟨q.1, q.2.1, q.2.2.1, q.2.2.2.1, q.2.2.2.2.1, ?_⟩
    by_cases c : u = v ∧ e = i
    · rw [c.1, c.2, ei]; omega
    · rw [e6 u e 6 (by decide) (by decide) (fun z => c ⟨z.1, z.2.1⟩)]; exact q.2.2.2.2.2
  refine arO_REL (F := F) (E := E) (T := zV T v (zR (T v) 5 i t)) (P := P) (S := S) (Av := Av) (Fv := Fv) (FM := FM) (A := A) (B := zB B v (10 * i + 6) t) (v := v) hM' h2 (fun u u0 u1 hu => ?_) ⟨hv.1, hv4⟩ ?_ r.2.2 h4
  · rw [zV_n _ hu]
    exact (h3 u u0 u1).same rfl (fun e _ _ w w0 w1 => e6 u e w w0 w1 (fun z => hu z.1))
  · rw [zV_s]
    refine ⟨r.1.1, by rw [bg]; exact r.1.2.1, by rw [bg]; exact r.1.2.2.1, fun e e0 e1 => ?_⟩
    obtain ⟨⟨t0, t1, t2, t3, t4, t5, t6⟩, hn, hr, hb9⟩ := r.1.2.2.2 e e0 e1
    have g : ∀ w : Nat, w ≠ 5 → zR (T v) 5 i t w e = T v w e := fun w hw => zR_n (Or.inl hw)
    unfold BRe
    rw [g 0 (by decide), g 1 (by decide), g 2 (by decide), g 3 (by decide), g 4 (by decide), g 6 (by decide), bg, bg, tk, tn, e6 v e 0 (by decide) (by decide) (by omega), e6 v e 1 (by decide) (by decide) (by omega), e6 v e 2 (by decide) (by decide) (by omega), e6 v e 3 (by decide) (by decide) (by omega), e6 v e 4 (by decide) (by decide) (by omega), e6 v e 5 (by decide) (by decide) (by omega)]
    by_cases c : e = i
    · subst c
      rw [zR_s, ei]
      exact ⟨⟨t0, t1, t2, t3, t4, rfl, t6⟩, hn, fun z => absurd z hnt, hb9⟩
    · rw [zR_n (Or.inr c), e6 v e 6 (by decide) (by decide) (fun z => c z.2.1)]
      exact ⟨⟨t0, t1, t2, t3, t4, t5, t6⟩, hn, hr, hb9⟩
/-! transposing -/
theorem mv_row {u v : Int} {tn : Int → Int} {P : Nat → Int → Int} : ∀ k : Nat, ∀ e, 0 ≤ e → e < (k : Int) →
    (tn e = -1 → (mvF u v tn P k).1 e = tn e ∧ ∀ w, (mvF u v tn P k).2 w e = P w e) ∧
    (¬ tn e = -1 → (mvF u v tn P k).1 e = toneF ((7 * P 2 e + P 0 e + u) % 7) (tn e + v - toneF ((7 * P 2 e + P 0 e + u) % 7) 0 ((7 * P 2 e + P 0 e + u) / 7)) ((7 * P 2 e + P 0 e + u) / 7) ∧ (mvF u v tn P k).2 0 e = (7 * P 2 e + P 0 e + u) % 7 ∧ (mvF u v tn P k).2 1 e = tn e + v - toneF ((7 * P 2 e + P 0 e + u) % 7) 0 ((7 * P 2 e + P 0 e + u) / 7) ∧ (mvF u v tn P k).2 2 e = (7 * P 2 e + P 0 e + u) / 7) := by
  intro k
  induction k with
  | zero => intro e e0 e1; exact absurd e1 (by omega)
  | succ k ih =>
    intro e e0 e1
    have off := mvF_off (u := u) (v := v) (tn := tn) (P := P) (i := (k : Int)) (by omega) (k : Int) (Int.le_refl _)
    rw [show ((k + 1 : Nat) : Int) = (k : Int) + 1 by omega, show mvF u v tn P ((k : Int) + 1) = mvS u v (k : Int) (mvF u v tn P (k : Int)) from pf_s _ _ (by omega)]
    have i9 := fun h => ih e e0 h
    generalize mvF u v tn P (k : Int) = z at i9 off
    unfold mvS
    rw [off.1, off.2 0, off.2 2]
    by_cases c : tn (k : Int) = -1
    · rw [if_pos c]
      rcases (by omega : e < (k : Int) ∨ e = (k : Int)) with d | d
      · exact i9 d
      · subst d
        exact ⟨fun _ => off, fun q => absurd c q⟩
    · rw [if_neg c]
      rcases (by omega : e < (k : Int) ∨ e = (k : Int)) with d | d
      · have ne : e ≠ (k : Int) := by omega
        have g1 : ∀ x, zU z.1 (k : Int) x e = z.1 e := fun x => zU_n ne
        have g2 : ∀ w a b c, zR (zR (zR z.2 0 (k : Int) a) 1 (k : Int) b) 2 (k : Int) c w e = z.2 w e := fun w a b c => by rw [zR_n (Or.inr ne), zR_n (Or.inr ne), zR_n (Or.inr ne)]
        simp only [g1, g2]
        exact i9 d
      · subst d
        have r0 : ∀ a b c, zR (zR (zR z.2 0 (k : Int) a) 1 (k : Int) b) 2 (k : Int) c 0 (k : Int) = a := fun a b c => by rw [zR_n (Or.inl (by decide)), zR_n (Or.inl (by decide)), zR_s]
        have r1 : ∀ a b c, zR (zR (zR z.2 0 (k : Int) a) 1 (k : Int) b) 2 (k : Int) c 1 (k : Int) = b := fun a b c => by rw [zR_n (Or.inl (by decide)), zR_s]
        have r2 : ∀ a b c, zR (zR (zR z.2 0 (k : Int) a) 1 (k : Int) b) 2 (k : Int) c 2 (k : Int) = c := fun a b c => by rw [zR_s]
        refine ⟨fun q => absurd q c, fun _ => ⟨zU_s _ _ _, ?_, ?_, ?_⟩⟩
        · dsimp only; rw [r0]
        · dsimp only; rw [r1]
        · dsimp only; rw [r2]
theorem tr_iff (h : REL F E T P S Av Fv FM A B) {v e : Int} (x y : Int) (hv : 0 ≤ v ∧ v < 4) (he : 0 ≤ e ∧ e < A 0 v) : trB (T v 4) (P v 0) (P v 2) x y e ↔ ¬ B v (10 * e + 2) = 0 ∧ ¬ okT B v e x y := by
  obtain ⟨⟨-, -, -, -, t4, -, -⟩, hn, -, -⟩ := (h.2.2.1 v hv.1 hv.2).1.2.2.2 e he.1 he.2
  have rest := ((h.2.2.1 v hv.1 hv.2).1.2.2.2 e he.1 he.2).rest
  show (¬ T v 4 e = -1 ∧ ¬ okP _ _ _) ↔ _
  rw [t4]
  constructor
  · rintro ⟨a, b⟩
    have nb : ¬ B v (10 * e + 2) = 0 := fun z => a (rest.mpr z)
    obtain ⟨⟨p0, p1, p2⟩, -⟩ := hn nb
    rw [p0, p2] at b
    exact ⟨nb, b⟩
  · rintro ⟨a, b⟩
    obtain ⟨⟨p0, p1, p2⟩, -⟩ := hn a
    rw [p0, p2]
    exact ⟨fun z => a (rest.mp z), b⟩
theorem tr_ok (h : REL F E T P S Av Fv FM A B) (x y : Int) : ¬ fp (trV T P Fv x y) (F 0) < F 0 ↔ okP9 A B x y (FM 4) 0 := by
  have n := h.2.1.nums h.1
  have e0 := h.2.1.1
  have a := fp_le (q := trV T P Fv x y) (n := F 0) n.1.1
  have s := fp_spec (q := trV T P Fv x y) (n := F 0) n.1.1
  constructor
  · intro c u e u0 hu e0' e1 hb
    have hu0 : u < F 0 := by omega
    refine Decidable.byContradiction fun d => s.2 u u0 (by omega) ?_
    have q := (tr_iff h x y ⟨u0, by omega⟩ ⟨e0', e1⟩).mpr ⟨hb, d⟩
    exact trV_of e0' (by rw [(h.2.2.1 u u0 (by omega)).1.1]; exact e1) q
  · intro c d
    have q := s.1 d
    have hv : 0 ≤ fp (trV T P Fv x y) (F 0) ∧ fp (trV T P Fv x y) (F 0) < 4 := by omega
    generalize fp (trV T P Fv x y) (F 0) = v at a d q hv
    have r := h.2.2.1 v hv.1 hv.2
    have m := h.1.many hv
    have hq : fp (trB (T v 4) (P v 0) (P v 2) x y) (Fv v 0) < Fv v 0 := q
    rw [r.1.1] at hq
    have a2 := fp_le (q := trB (T v 4) (P v 0) (P v 2) x y) (n := A 0 v) m.1
    have s2 := (fp_spec (q := trB (T v 4) (P v 0) (P v 2) x y) (n := A 0 v) m.1).1 hq
    have w := (tr_iff h x y hv ⟨a2.1, hq⟩).mp s2
    exact w.2 (c v _ hv.1 (Or.inl (by omega)) a2.1 hq w.1)
theorem mvB_ix (A : Nat → Int → Int) (B : Int → Int → Int) (x y i u e w : Int) (hw : 0 ≤ w ∧ w < 10) : mvB A B x y i 0 u (10 * e + w) = if 0 ≤ u ∧ u < i ∧ 0 ≤ e ∧ e < A 0 u ∧ ¬ B u (10 * e + 2) = 0 then (if w = 3 then plT B u e x % 7 else if w = 4 then sgT B u e x y else if w = 5 then plT B u e x / 7 else B u (10 * e + w)) else B u (10 * e + w) := by
  unfold mvB
  rw [show (10 * e + w) / 10 = e by omega, show (10 * e + w) % 10 = w by omega]
  exact zite9 ⟨fun z => ⟨z.1, by omega, z.2.2.1, z.2.2.2.1, z.2.2.2.2⟩, fun z => ⟨z.1, Or.inl z.2.1, z.2.2.1, z.2.2.2.1, z.2.2.2.2⟩⟩
theorem REL.transpose (h : REL F E T P S Av Fv FM A B) {x y : Int} (hk : -7 ≤ F 3 + 7 * y - 12 * x ∧ F 3 + 7 * y - 12 * x ≤ 7) (hok : okP9 A B x y (FM 4) 0) : ARA (zN F 3 (F 3 + 7 * y - 12 * x)) E (upV (trT T P Fv x y) T (F 0)) (upV (trP T P Fv x y) P (F 0)) S Av Fv (zN FM 3 (F 3 + 7 * y - 12 * x)) A (mvB A B x y (FM 4) 0) := by
  have n := h.2.1.nums h.1
  have hF0 := h.2.1.1
  have hvk := h.vok
  have hti := fun v e hv he => tr_iff h (v := v) (e := e) x y hv he
  obtain ⟨h1, h2, h3, h4, h5⟩ := h
  have at9 := fun u e w hw => mvB_ix A B x y (FM 4) u e w hw
  have lo : ∀ u e w, 0 ≤ w → w < 3 → mvB A B x y (FM 4) 0 u (10 * e + w) = B u (10 * e + w) := fun u e w w0 w1 => by
    rw [at9 u e w ⟨w0, by omega⟩, if_neg (show ¬ w = 3 by omega), if_neg (show ¬ w = 4 by omega), if_neg (show ¬ w = 5 by omega)]
    split <;> rfl
  have l6 : ∀ u e, mvB A B x y (FM 4) 0 u (10 * e + 6) = B u (10 * e + 6) := fun u e => by
    rw [at9 u e 6 ⟨by decide, by decide⟩, if_neg (show ¬ (6 : Int) = 3 by decide), if_neg (show ¬ (6 : Int) = 4 by decide), if_neg (show ¬ (6 : Int) = 5 by decide)]
    split <;> rfl
  have tk : ∀ u e, mTk (mvB A B x y (FM 4) 0) u e = mTk B u e := fun u e => by
    unfold mTk
    rw [lo u e 0 (by decide) (by decide), lo u e 1 (by decide) (by decide)]
  have bg : ∀ u e, bgM (mvB A B x y (FM 4) 0) u e = bgM B u e := fun u e => pf_congr fun j a _ _ => by rw [tk]
  have note : ∀ u e, 0 ≤ u → u < FM 4 → 0 ≤ e → e < A 0 u → ¬ B u (10 * e + 2) = 0 → mvB A B x y (FM 4) 0 u (10 * e + 3) = plT B u e x % 7 ∧ mvB A B x y (FM 4) 0 u (10 * e + 4) = sgT B u e x y ∧ mvB A B x y (FM 4) 0 u (10 * e + 5) = plT B u e x / 7 := fun u e u0 u1 e0 e1 hb => by
    refine ⟨?_, ?_, ?_⟩
    · rw [at9 u e 3 ⟨by decide, by decide⟩, if_pos ⟨u0, u1, e0, e1, hb⟩, if_pos (show (3 : Int) = 3 from rfl)]
    · rw [at9 u e 4 ⟨by decide, by decide⟩, if_pos ⟨u0, u1, e0, e1, hb⟩, if_neg (show ¬ (4 : Int) = 3 by decide), if_pos (show (4 : Int) = 4 from rfl)]
    · rw [at9 u e 5 ⟨by decide, by decide⟩, if_pos ⟨u0, u1, e0, e1, hb⟩, if_neg (show ¬ (5 : Int) = 3 by decide), if_neg (show ¬ (5 : Int) = 4 by decide), if_pos (show (5 : Int) = 5 from rfl)]
  have same : ∀ u e w, 0 ≤ w → w < 7 → ¬ (0 ≤ u ∧ u < FM 4 ∧ 0 ≤ e ∧ e < A 0 u ∧ ¬ B u (10 * e + 2) = 0) → mvB A B x y (FM 4) 0 u (10 * e + w) = B u (10 * e + w) := fun u e w w0 w1 c => by rw [at9 u e w ⟨w0, by omega⟩, if_neg c]
  have hM' : MOK FM A (mvB A B x y (FM 4) 0) := by
    obtain ⟨m1, m2, m3, m4, m5⟩ := h1
    refine ⟨m1, m2, m3, m4, fun u u0 u1 => ⟨(m5 u u0 u1).1, fun e e0 e1 => ?_⟩⟩
    have q := (m5 u u0 u1).2 e e0 e1
    rw [lo u e 0 (by decide) (by decide), lo u e 1 (by decide) (by decide), lo u e 2 (by decide) (by decide), l6]
    by_cases c : u < FM 4 ∧ ¬ B u (10 * e + 2) = 0
    · obtain ⟨a1, a2, a3⟩ := note u e u0 c.1 e0 e1 c.2
      have ok := hok u e u0 (Or.inl c.1) e0 e1 c.2
      rw [a1, a2, a3]
      exact ⟨q.1, q.2.1, ⟨ok.1, ok.2.1⟩, ⟨ok.2.2.2.2.1, ok.2.2.2.2.2.1⟩, ⟨ok.2.2.1, ok.2.2.2.1⟩, q.2.2.2.2.2⟩
    · have d : ¬ (0 ≤ u ∧ u < FM 4 ∧ 0 ≤ e ∧ e < A 0 u ∧ ¬ B u (10 * e + 2) = 0) := fun z => c ⟨z.2.1, z.2.2.2.2⟩
      rw [same u e 3 (by decide) (by decide) d, same u e 4 (by decide) (by decide) d, same u e 5 (by decide) (by decide) d]
      exact q
  refine arA_REL (F := zN F 3 (F 3 + 7 * y - 12 * x)) (FM := zN FM 3 (F 3 + 7 * y - 12 * x)) (key0 := F 3) (beat0 := F 1) (T := upV (trT T P Fv x y) T (F 0)) (P := upV (trP T P Fv x y) P (F 0)) (S := S) (Av := Av) (Fv := Fv) ⟨hM'.1, hM'.2.1, hk, hM'.2.2.2⟩ ⟨h2.1, h2.2.1, h2.2.2.1, rfl, h2.2.2.2.2⟩ (fun u u0 u1 => ?_) (fun u u0 u1 => ?_) h4
  · have u1 : u < F 0 := u1
    have u4 : u < 4 := by omega
    have q3 : upV (trT T P Fv x y) T (F 0) u = trT T P Fv x y u := if_pos ⟨u0, u1⟩
    have q4 : upV (trP T P Fv x y) P (F 0) u = trP T P Fv x y u := if_pos ⟨u0, u1⟩
    rw [q3, q4]
    have r := h3 u u0 u4
    have m := h1.many ⟨u0, u4⟩
    have nob : ∀ e, 0 ≤ e → e < Fv u 0 → ¬ trB (T u 4) (P u 0) (P u 2) x y e := fun e e0 e1 z => by
      rw [r.1.1] at e1
      have w := (hti u e ⟨u0, u4⟩ ⟨e0, e1⟩).mp z
      exact w.2 (hok u e u0 (Or.inl (by omega)) e0 e1 w.1)
    have pk := (mvF_ok (hvk u u0 u4) nob).2.2.2
    refine ⟨?_, pk, r.2.2.2⟩
    show BR (F 2) (zW (T u) 4 (mvF x y (T u 4) (P u) (Fv u 0)).1) (mvF x y (T u 4) (P u) (Fv u 0)).2 (Fv u) A _ u
    refine ⟨r.1.1, by rw [bg]; exact r.1.2.1, by rw [bg]; exact r.1.2.2.1, fun e e0 e1 => ?_⟩
    obtain ⟨⟨t0, t1, t2, t3, t4, t5, t6⟩, hn, hr, hb9⟩ := r.1.2.2.2 e e0 e1
    have rest := (r.1.2.2.2 e e0 e1).rest
    have row := mv_row (u := x) (v := y) (tn := T u 4) (P := P u) (A 0 u).toNat e e0 (by omega)
    rw [Int.toNat_of_nonneg m.1, ← r.1.1] at row
    have g : ∀ w : Nat, w ≠ 4 → zW (T u) 4 (mvF x y (T u 4) (P u) (Fv u 0)).1 w = T u w := fun w hw => zW_n _ hw
    unfold BRe
    rw [g 0 (by decide), g 1 (by decide), g 2 (by decide), g 3 (by decide), g 5 (by decide), g 6 (by decide), zW_s, bg, bg, tk, lo u e 0 (by decide) (by decide), lo u e 1 (by decide) (by decide), lo u e 2 (by decide) (by decide), l6]
    by_cases c : B u (10 * e + 2) = 0
    · have e4 : T u 4 e = -1 := by rw [t4]; exact rest.mpr c
      have tn' : mTn (mvB A B x y (FM 4) 0) u e = -1 := by
        unfold mTn
        rw [lo u e 2 (by decide) (by decide), if_pos c]
      rw [(row.1 e4).1, tn', e4]
      exact ⟨⟨t0, t1, t2, t3, rfl, t5, t6⟩, fun z => absurd c z, hr, hb9⟩
    · have e4 : ¬ T u 4 e = -1 := by rw [t4]; exact fun z => c (rest.mp z)
      obtain ⟨⟨p0, p1, p2⟩, -⟩ := hn c
      obtain ⟨a1, a2, a3⟩ := note u e u0 (by omega) e0 e1 c
      obtain ⟨w1, w2, w3, w4⟩ := row.2 e4
      rw [p0, p2, t4] at w1
      rw [p0, p2] at w2 w4
      rw [p0, p2, t4] at w3
      have ok := hok u e u0 (Or.inl (by omega)) e0 e1 c
      have tn' : mTn (mvB A B x y (FM 4) 0) u e = toneF (plT B u e x % 7) (sgT B u e x y) (plT B u e x / 7) := by
        unfold mTn
        rw [lo u e 2 (by decide) (by decide), if_neg c, a1, a2, a3]
      rw [w1, w2, w3, w4, tn', a1, a2, a3]
      exact ⟨⟨t0, t1, t2, t3, rfl, t5, t6⟩, fun _ => ⟨⟨rfl, rfl, rfl⟩, ok.2.2.2.2.2.2⟩, hr, hb9⟩
  · have u0 : F 0 ≤ u := u0
    have q3 : upV (trT T P Fv x y) T (F 0) u = T u := if_neg (by omega)
    have q4 : upV (trP T P Fv x y) P (F 0) u = P u := if_neg (by omega)
    rw [q3, q4]
    have z := h4 u u0 u1
    exact (h3 u (by omega) u1).same rfl (fun e e0 e1 => absurd e1 (by omega))
end RL8
