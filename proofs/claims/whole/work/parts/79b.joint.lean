section JJ8
variable {G : zG} {ad am : Nat → Nat} {oa : Nat} {O w : Int64} {tb : Int} {F : Nat → Int} {AC E : Nat → Int → Int} {T P S Av : Int → Nat → Int → Int} {Fv : Int → Nat → Int} {FM : Nat → Int} {A A' : Nat → Int → Int} {B B' : Int → Int → Int} {k r : Int} {vl : Int64} {H1 H2 : Heap}
set_option maxHeartbeats 1000000 in
theorem j_addRest {kq : Int} {v pa d : Int}   (h : REL F E T P S Av Fv FM A B) (ht : ecT A B (FM 4) ≤ tb) (h1 : HP G oa O (PI (fun r H => r = plN F AC Fv v (findV pa d) ∧ (0 ≤ v ∧ v < F 0) ∧ 0 ≤ (findV pa d) ∧ ¬ (200 < Fv v 0 + plN F AC Fv v (findV pa d) ∨ 100 * F 2 < Fv v 1 + valT (findV pa d)) ∧ arO G ad F (zW AC 1 (plC F AC Fv v (findV pa d))) E (zV T v (plA F AC T Fv v (findV pa d)).1) P S Av (zV Fv v (plA F AC T Fv v (findV pa d)).2) v H)) [(1, xIO), (2, xIA), (3, xIS)] (fun E9 H => ((E9 = xIO ∧ ¬ (0 ≤ v ∧ v < F 0)) ∨ (E9 = xIA ∧ (0 ≤ v ∧ v < F 0) ∧ (findV pa d) < 0) ∨ (E9 = xIS ∧ (0 ≤ v ∧ v < F 0) ∧ 0 ≤ (findV pa d) ∧ (200 < Fv v 0 + plN F AC Fv v (findV pa d) ∨ 100 * F 2 < Fv v 1 + valT (findV pa d)))) ∧ ∃ AC', AC' 0 = AC 0 ∧ CP G ad F AC' E T P S Av Fv H) kq H1) (h2 : ∃ sd, (sd 0 = pa ∧ sd 1 = d ∧ sd 2 = 0 ∧ sd 3 = 0 ∧ sd 4 = 0 ∧ sd 5 = 0 ∧ sd 6 = 0) ∧ addQ G am FM A B v (isV pa d 15) sd (FM 1 * 384 / FM 2) (bgM B v (A 0 v)) (bgM B v (A 0 v) + tkO (sd 0) (sd 1)) r H2) : JO G ad am oa tb kq (zI r).toInt64 H1 H2 := by
  have n := h.2.1.nums h.1
  have hF := h.2.1
  have e0 := hF.1
  have kp := KP.rfl' A B
  have iv := isV_iff (pa := pa) (d := d)
  have iv9 := isV_01 (pa := pa) (d := d) (n := 15) (by decide)
  have fr := findV_rng pa d
  obtain ⟨sd, ⟨s0, s1, s2, s3, s4, s5, s6⟩, h2⟩ := h2
  unfold addQ at h2
  rw [s0, s1, ← hF.2.2.1] at h2
  generalize hrt9 : isV pa d 15 = rt at h2 iv iv9
  have hrt : rt = 1 ∧ 0 ≤ findV pa d ∨ rt = 0 ∧ ¬ 0 ≤ findV pa d := by omega
  have core := fun (hv : 0 ≤ v ∧ v < F 0) (hx : 0 ≤ findV pa d) => (show plN F AC Fv v (findV pa d) = cutN (F 2) (bgM B v (A 0 v) + tkO pa d) (bgM B v (A 0 v)) ∧ valT (findV pa d) = tkO pa d ∧ Fv v 0 = A 0 v ∧ Fv v 1 = bgM B v (A 0 v) from by
    have fa := findV_at hx
    have b := h.BRs v hv.1 (by omega)
    have c := (add_core h AC hv fa.1 rfl).1
    rw [fa.2.2.2] at c
    exact ⟨c, fa.2.2.2, b.1, b.2.1⟩)
  rcases h1.c3 with ⟨rfl, w, hO, r1, rfl, p1, p2, p3, p4, hC⟩ | ⟨rfl, hO, hE, AC2, -, hC⟩ | ⟨rfl, hO, hE, AC2, -, hC⟩ | ⟨rfl, hO, hE, AC2, -, hC⟩
  · obtain ⟨c1, c2, c3, c4⟩ := core p2 p3
    rw [c1, c2, c3, c4] at p4
    rcases h2 with ⟨m1, -⟩ | ⟨m1, m2, -⟩ | ⟨m1, m2, m3, -⟩ | ⟨m1, m2, m3, hr9, m5, A', B', hM, hA, hB⟩
    · omega
    · rcases hrt with ⟨z, -⟩ | ⟨-, z⟩
      · omega
      · exact absurd p3 z
    · exact absurd m3 p4
    · have fa := findV_at p3
      rw [hr9] at hM hB m5 ⊢
      have hA2 : ∀ u, zR A' 0 v (A 0 v + cutN (F 2) (bgM B v (A 0 v) + tkO pa d) (bgM B v (A 0 v))) 0 u = if u = v then A 0 v + cutN (F 2) (bgM B v (A 0 v) + tkO pa d) (bgM B v (A 0 v)) else A 0 u := fun u => by
        by_cases c : u = v
        · rw [c, zR_s, if_pos rfl]
        · rw [zR_n (Or.inr c), if_neg c, hA]
      have q4 : A 0 v + cutN (F 2) (bgM B v (A 0 v) + tkO pa d) (bgM B v (A 0 v)) ≤ 200 ∧ bgM B v (A 0 v) + tkO pa d ≤ 100 * F 2 := by omega
      rw [p1, c1] at hO
      rw [← c2] at hA2 hB q4 hM m5 hO ⊢
      have hR := (h.f0 0).addRest AC p2 fa.1 rfl q4 (s0.trans fa.2.1.symm) (s1.trans fa.2.2.1.symm) s2 s3 s4 s5 s6 hA2 hB
      exact JO.mk9 hC hO hM rfl (fun _ => rfl) hR (Int.le_trans (cnt_add h p2 fa.1 rfl (s0.trans fa.2.1.symm) (s1.trans fa.2.2.1.symm) (Or.inl s2) hA2 hB hR rfl) (by omega))
  · rcases hE with ⟨-, c⟩ | ⟨e, -⟩ | ⟨e, -⟩
    · rcases h2 with ⟨-, -, hM⟩ | ⟨m1, -⟩ | ⟨m1, -⟩ | ⟨m1, -⟩
      · exact JO.thr h ht (by decide) hC hO kp hM
      · omega
      · omega
      · omega
    · exact absurd e xne.2.2.2.2.1
    · exact absurd e xne.2.2.2.2.2
  · rcases hE with ⟨e, -⟩ | ⟨-, c, d9⟩ | ⟨e, -⟩
    · exact absurd e xne.2.1
    · rcases hrt with ⟨-, z⟩ | ⟨z, -⟩
      · omega
      · rcases h2 with ⟨m1, -⟩ | ⟨-, -, -, hM⟩ | ⟨m1, m2, -⟩ | ⟨m1, m2, -⟩
        · omega
        · exact JO.thr h ht (by decide) hC hO kp hM
        · omega
        · omega
    · exact absurd e xne.1
  · rcases hE with ⟨e, -⟩ | ⟨e, -⟩ | ⟨-, c, d9, g9⟩
    · exact absurd e xne.2.2.2.1
    · exact absurd e xne.2.2.1
    · obtain ⟨c1, c2, c3, c4⟩ := core c d9
      rw [c1, c2, c3, c4] at g9
      rcases hrt with ⟨z, -⟩ | ⟨-, z⟩
      · rcases h2 with ⟨m1, -⟩ | ⟨m1, m2, -⟩ | ⟨m1, m2, m3, -, A', B', hM, kp⟩ | ⟨m1, m2, m3, -⟩
        · omega
        · omega
        · exact JO.thr h ht (by decide) hC hO kp hM
        · exact absurd g9 m3
      · exact absurd d9 z
set_option maxHeartbeats 1000000 in
theorem j_addNote {kq : Int} {v pa d st sg oc t : Int}  (ht9 : t = 0 ∨ t = 1) (h : REL F E T P S Av Fv FM A B) (ht : ecT A B (FM 4) ≤ tb) (h1 : HP G oa O (PI (fun r H => r = plN F AC Fv v (findV pa d) ∧ (0 ≤ v ∧ v < F 0) ∧ (0 ≤ (findV pa d) ∧ (0 ≤ st ∧ st < 7 ∧ 0 ≤ oc ∧ oc < 9 ∧ -2 ≤ sg ∧ sg ≤ 2 ∧ 0 ≤ toneF st sg oc)) ∧ ¬ (200 < Fv v 0 + plN F AC Fv v (findV pa d) ∨ 100 * F 2 < Fv v 1 + valT (findV pa d)) ∧ arO G ad F (zW AC 1 (plC F AC Fv v (findV pa d))) E (zV T v (anF (Fv v 0) (Fv v 0 + plN F AC Fv v (findV pa d)) st sg oc t (plA F AC T Fv v (findV pa d)).1 (P v) (Fv v 0 + plN F AC Fv v (findV pa d))).1) (zV P v (anF (Fv v 0) (Fv v 0 + plN F AC Fv v (findV pa d)) st sg oc t (plA F AC T Fv v (findV pa d)).1 (P v) (Fv v 0 + plN F AC Fv v (findV pa d))).2) S Av (zV Fv v (plA F AC T Fv v (findV pa d)).2) v H)) [(1, xIO), (2, xIA), (3, xIS)] (fun E9 H => ((E9 = xIO ∧ ¬ (0 ≤ v ∧ v < F 0)) ∨ (E9 = xIA ∧ (0 ≤ v ∧ v < F 0) ∧ ¬ (0 ≤ (findV pa d) ∧ (0 ≤ st ∧ st < 7 ∧ 0 ≤ oc ∧ oc < 9 ∧ -2 ≤ sg ∧ sg ≤ 2 ∧ 0 ≤ toneF st sg oc))) ∨ (E9 = xIS ∧ (0 ≤ v ∧ v < F 0) ∧ (0 ≤ (findV pa d) ∧ (0 ≤ st ∧ st < 7 ∧ 0 ≤ oc ∧ oc < 9 ∧ -2 ≤ sg ∧ sg ≤ 2 ∧ 0 ≤ toneF st sg oc)) ∧ (200 < Fv v 0 + plN F AC Fv v (findV pa d) ∨ 100 * F 2 < Fv v 1 + valT (findV pa d)))) ∧ ∃ AC', AC' 0 = AC 0 ∧ CP G ad F AC' E T P S Av Fv H) kq H1) (h2 : ∃ rt sd, (rt = 1 ∧ isV pa d 15 = 1 ∧ (0 ≤ st ∧ st < 7 ∧ 0 ≤ oc ∧ oc < 9 ∧ -2 ≤ sg ∧ sg ≤ 2 ∧ 0 ≤ toneF st sg oc) ∨ rt = 0 ∧ ¬ (isV pa d 15 = 1 ∧ (0 ≤ st ∧ st < 7 ∧ 0 ≤ oc ∧ oc < 9 ∧ -2 ≤ sg ∧ sg ≤ 2 ∧ 0 ≤ toneF st sg oc))) ∧ (sd 0 = pa ∧ sd 1 = d ∧ sd 2 = 1 ∧ sd 3 = st ∧ sd 4 = sg ∧ sd 5 = oc ∧ sd 6 = t) ∧ addQ G am FM A B v rt sd (FM 1 * 384 / FM 2) (bgM B v (A 0 v)) (bgM B v (A 0 v) + tkO (sd 0) (sd 1)) r H2) : JO G ad am oa tb kq (zI r).toInt64 H1 H2 := by
  have n := h.2.1.nums h.1
  have hF := h.2.1
  have e0 := hF.1
  have kp := KP.rfl' A B
  have iv := isV_iff (pa := pa) (d := d)
  have iv9 := isV_01 (pa := pa) (d := d) (n := 15) (by decide)
  have fr := findV_rng pa d
  obtain ⟨rt, sd, hrt, ⟨s0, s1, s2, s3, s4, s5, s6⟩, h2⟩ := h2
  unfold addQ at h2
  rw [s0, s1, ← hF.2.2.1] at h2
  rw [iv] at hrt
  have core := fun (hv : 0 ≤ v ∧ v < F 0) (hx : 0 ≤ findV pa d) => (show plN F AC Fv v (findV pa d) = cutN (F 2) (bgM B v (A 0 v) + tkO pa d) (bgM B v (A 0 v)) ∧ valT (findV pa d) = tkO pa d ∧ Fv v 0 = A 0 v ∧ Fv v 1 = bgM B v (A 0 v) from by
    have fa := findV_at hx
    have b := h.BRs v hv.1 (by omega)
    have c := (add_core h AC hv fa.1 rfl).1
    rw [fa.2.2.2] at c
    exact ⟨c, fa.2.2.2, b.1, b.2.1⟩)
  rcases h1.c3 with ⟨rfl, w, hO, r1, rfl, p1, p2, p3, p4, hC⟩ | ⟨rfl, hO, hE, AC2, -, hC⟩ | ⟨rfl, hO, hE, AC2, -, hC⟩ | ⟨rfl, hO, hE, AC2, -, hC⟩
  · obtain ⟨c1, c2, c3, c4⟩ := core p2 p3.1
    rw [c1, c2, c3, c4] at p4
    rcases h2 with ⟨m1, -⟩ | ⟨m1, m2, -⟩ | ⟨m1, m2, m3, -⟩ | ⟨m1, m2, m3, hr9, m5, A', B', hM, hA, hB⟩
    · omega
    · rcases hrt with ⟨z, -⟩ | ⟨-, z⟩
      · omega
      · exact absurd p3 z
    · exact absurd m3 p4
    · have fa := findV_at p3.1
      rw [hr9] at hM hB m5 ⊢
      have hA2 : ∀ u, zR A' 0 v (A 0 v + cutN (F 2) (bgM B v (A 0 v) + tkO pa d) (bgM B v (A 0 v))) 0 u = if u = v then A 0 v + cutN (F 2) (bgM B v (A 0 v) + tkO pa d) (bgM B v (A 0 v)) else A 0 u := fun u => by
        by_cases c : u = v
        · rw [c, zR_s, if_pos rfl]
        · rw [zR_n (Or.inr c), if_neg c, hA]
      have q4 : A 0 v + cutN (F 2) (bgM B v (A 0 v) + tkO pa d) (bgM B v (A 0 v)) ≤ 200 ∧ bgM B v (A 0 v) + tkO pa d ≤ 100 * F 2 := by omega
      rw [p1, c1] at hO
      rw [c1] at hC
      rw [← c2] at hA2 hB q4 hM m5 hO ⊢
      rw [← c2] at hC
      have hR := (h.f0 0).addNote AC p2 fa.1 rfl q4 p3.2 ht9 (s0.trans fa.2.1.symm) (s1.trans fa.2.2.1.symm) s2 s3 s4 s5 s6 hA2 hB
      exact JO.mk9 hC hO hM rfl (fun _ => rfl) hR (Int.le_trans (cnt_add h p2 fa.1 rfl (s0.trans fa.2.1.symm) (s1.trans fa.2.2.1.symm) (Or.inr s2) hA2 hB hR rfl) (by omega))
  · rcases hE with ⟨-, c⟩ | ⟨e, -⟩ | ⟨e, -⟩
    · rcases h2 with ⟨-, -, hM⟩ | ⟨m1, -⟩ | ⟨m1, -⟩ | ⟨m1, -⟩
      · exact JO.thr h ht (by decide) hC hO kp hM
      · omega
      · omega
      · omega
    · exact absurd e xne.2.2.2.2.1
    · exact absurd e xne.2.2.2.2.2
  · rcases hE with ⟨e, -⟩ | ⟨-, c, d9⟩ | ⟨e, -⟩
    · exact absurd e xne.2.1
    · rcases hrt with ⟨-, z⟩ | ⟨z, -⟩
      · exact absurd z d9
      · rcases h2 with ⟨m1, -⟩ | ⟨-, -, -, hM⟩ | ⟨m1, m2, -⟩ | ⟨m1, m2, -⟩
        · omega
        · exact JO.thr h ht (by decide) hC hO kp hM
        · omega
        · omega
    · exact absurd e xne.1
  · rcases hE with ⟨e, -⟩ | ⟨e, -⟩ | ⟨-, c, d9, g9⟩
    · exact absurd e xne.2.2.2.1
    · exact absurd e xne.2.2.1
    · obtain ⟨c1, c2, c3, c4⟩ := core c d9.1
      rw [c1, c2, c3, c4] at g9
      rcases hrt with ⟨z, -⟩ | ⟨-, z⟩
      · rcases h2 with ⟨m1, -⟩ | ⟨m1, m2, -⟩ | ⟨m1, m2, m3, -, A', B', hM, kp⟩ | ⟨m1, m2, m3, -⟩
        · omega
        · omega
        · exact JO.thr h ht (by decide) hC hO kp hM
        · exact absurd g9 m3
      · exact absurd d9 z
theorem j_faults (h : REL F E T P S Av Fv FM A B) (ht : ecT A B (FM 4) ≤ tb) (hC : CP G ad F AC E T P S Av Fv H1) (hO : OP G oa O H1) (h2 : r = fauM (zN FM 0 0) A B (FM 4) ∧ ∃ A' B', MP G am (zN FM 0 0) A' B' H2 ∧ KP A B A' B') : JO G ad am oa tb 0 O H1 H2 ∧ fcF F T Fv (F 0) = r := by
  obtain ⟨rfl, A', B', hM, kp⟩ := h2
  exact ⟨JO.ans h ht hC hO rfl kp hM, (h.f0 0).faults⟩
theorem j_events (h : REL F E T P S Av Fv FM A B) (ht : ecT A B (FM 4) ≤ tb) (hC : CP G ad F AC E T P S Av Fv H1) (hO : OP G oa O H1) (h2 : r = ecT A B (FM 4) ∧ ∃ A' B', MP G am (zN (zN FM 0 0) 5 (ecT A B (FM 4))) A' B' H2 ∧ KP A B A' B') : JO G ad am oa tb 0 O H1 H2 ∧ 2 * nSou Fv (F 0) = r := by
  obtain ⟨rfl, A', B', hM, kp⟩ := h2
  exact ⟨JO.mk9 hC hO hM rfl (fun _ => rfl) (((h.f0 0).f5 _).kp kp) (by
    show ecT A' B' (FM 4) ≤ _
    rw [KPeT kp]; omega), h.count⟩
theorem j_meanTone {x y : UInt64} (h : REL F E T P S Av Fv FM A B) (ht : ecT A B (FM 4) ≤ tb) (hO : OP G oa O H1) (h1 : x = meanC F T Fv ∧ CP G ad F AC E T P S Av Fv H1) (h2 : y = meanM FM A B ∧ MP G am (zN FM 0 0) A B H2) : JO G ad am oa tb 0 O H1 H2 ∧ x = y := by
  obtain ⟨rfl, hC⟩ := h1
  obtain ⟨rfl, hM⟩ := h2
  exact ⟨JO.ans h ht hC hO rfl (KP.rfl' A B) hM, h.mean.1⟩
theorem j_digest {x y : Int64} (h : REL F E T P S Av Fv FM A B) (ht : ecT A B (FM 4) ≤ tb) (hO : OP G oa O H1) (h1 : ∃ F2 A2 E2, rfQ F AC E S Fv F2 A2 E2 ∧ x = dgC F E2 T Fv ∧ CP G ad F2 A2 E2 T P S Av Fv H1) (h2 : ∃ g, rngI g ∧ y = dgM (zN FM 0 0) A B g ∧ ∃ A' B', MP G am (zN (zN FM 0 0) 5 (ecT A B (FM 4))) A' B' H2 ∧ KP A B A' B') : JO G ad am oa tb 0 O H1 H2 ∧ x = y := by
  obtain ⟨F2, A2, E2, q1, rfl, hC⟩ := h1
  obtain ⟨g, -, rfl, A', B', hM, kp⟩ := h2
  exact ⟨JO.mk9 hC hO hM rfl (fun _ => rfl) ((((h.rf q1).1.f0 0).f5 _).kp kp) (by
    show ecT A' B' (FM 4) ≤ _
    rw [KPeT kp]; omega), (h.f0 0).digest q1 g⟩
end JJ8
