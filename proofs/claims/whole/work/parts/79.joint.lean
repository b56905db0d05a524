/-! a call of both: what the class does, what the model does, and that they agree -/
def JO (G : zG) (ad am : Nat → Nat) (oa : Nat) (tb k : Int) (vl : Int64) (H1 H2 : Heap) : Prop := ∃ (F : Nat → Int) (AC E : Nat → Int → Int) (T P S Av : Int → Nat → Int → Int) (Fv : Int → Nat → Int) (O : Int64) (FM : Nat → Int) (A : Nat → Int → Int) (B : Int → Int → Int), CP G ad F AC E T P S Av Fv H1 ∧ OP G oa O H1 ∧ MP G am FM A B H2 ∧ FM 0 = k ∧ (k = 0 → O = vl) ∧ REL F E T P S Av Fv FM A B ∧ ecT A B (FM 4) ≤ tb + 2
theorem HP.c1 {G : zG} {oa : Nat} {O : Int64} {PO : Int64 → Heap → Prop} {k1 : Int} {E1 : String} {PX : String → Heap → Prop} {k : Int} {H : Heap} (h : HP G oa O PO [(k1, E1)] PX k H) : (k = 0 ∧ ∃ w : Int64, OP G oa w H ∧ PO w H) ∨ (k = k1 ∧ OP G oa O H ∧ PX E1 H) := by
  rcases h with h | ⟨hO, q, hq, hk, hx⟩
  · exact Or.inl h
  · rcases List.mem_singleton.mp hq with rfl
    exact Or.inr ⟨hk, hO, hx⟩
theorem HP.c2 {G : zG} {oa : Nat} {O : Int64} {PO : Int64 → Heap → Prop} {k1 k2 : Int} {E1 E2 : String} {PX : String → Heap → Prop} {k : Int} {H : Heap} (h : HP G oa O PO [(k1, E1), (k2, E2)] PX k H) : (k = 0 ∧ ∃ w : Int64, OP G oa w H ∧ PO w H) ∨ (k = k1 ∧ OP G oa O H ∧ PX E1 H) ∨ (k = k2 ∧ OP G oa O H ∧ PX E2 H) := by
  rcases h with h | ⟨hO, q, hq, hk, hx⟩
  · exact Or.inl h
  · rcases List.mem_cons.mp hq with rfl | hq
    · exact Or.inr (Or.inl ⟨hk, hO, hx⟩)
    · rcases List.mem_singleton.mp hq with rfl
      exact Or.inr (Or.inr ⟨hk, hO, hx⟩)
theorem HP.c3 {G : zG} {oa : Nat} {O : Int64} {PO : Int64 → Heap → Prop} {k1 k2 k3 : Int} {E1 E2 E3 : String} {PX : String → Heap → Prop} {k : Int} {H : Heap} (h : HP G oa O PO [(k1, E1), (k2, E2), (k3, E3)] PX k H) : (k = 0 ∧ ∃ w : Int64, OP G oa w H ∧ PO w H) ∨ (k = k1 ∧ OP G oa O H ∧ PX E1 H) ∨ (k = k2 ∧ OP G oa O H ∧ PX E2 H) ∨ (k = k3 ∧ OP G oa O H ∧ PX E3 H) := by
  rcases h with h | ⟨hO, q, hq, hk, hx⟩
  · exact Or.inl h
  · rcases List.mem_cons.mp hq with rfl | hq
    · exact Or.inr (Or.inl ⟨hk, hO, hx⟩)
    · rcases List.mem_cons.mp hq with rfl | hq
      · exact Or.inr (Or.inr (Or.inl ⟨hk, hO, hx⟩))
      · rcases List.mem_singleton.mp hq with rfl
        exact Or.inr (Or.inr (Or.inr ⟨hk, hO, hx⟩))
theorem xne : ¬ xIA = xIS ∧ ¬ xIA = xIO ∧ ¬ xIS = xIA ∧ ¬ xIS = xIO ∧ ¬ xIO = xIA ∧ ¬ xIO = xIS := by decide
section JJ9
variable {G : zG} {ad am : Nat → Nat} {oa : Nat} {O w : Int64} {tb : Int} {F : Nat → Int} {AC E : Nat → Int → Int} {T P S Av : Int → Nat → Int → Int} {Fv : Int → Nat → Int} {FM : Nat → Int} {A A' : Nat → Int → Int} {B B' : Int → Int → Int} {k r : Int} {vl : Int64} {H1 H2 : Heap}
theorem JO.mk9 (hC : CP G ad F AC E T P S Av Fv H1) (hO : OP G oa O H1) (hM : MP G am FM A B H2) (hk : FM 0 = k) (hv : k = 0 → O = vl) (hR : REL F E T P S Av Fv FM A B) (hc : ecT A B (FM 4) ≤ tb + 2) : JO G ad am oa tb k vl H1 H2 := ⟨F, AC, E, T, P, S, Av, Fv, O, FM, A, B, hC, hO, hM, hk, hv, hR, hc⟩
theorem JO.thr (h : REL F E T P S Av Fv FM A B) (ht : ecT A B (FM 4) ≤ tb) (hk : ¬ k = 0) (hC : CP G ad F AC E T P S Av Fv H1) (hO : OP G oa O H1) (kp : KP A B A' B') (hM : MP G am (zN FM 0 k) A' B' H2) : JO G ad am oa tb k vl H1 H2 := JO.mk9 hC hO hM rfl (fun e => absurd e hk) ((h.f0 k).kp kp) (by
  show ecT A' B' (FM 4) ≤ _
  rw [KPeT kp]; omega)
theorem JO.ans (h : REL F E T P S Av Fv FM A B) (ht : ecT A B (FM 4) ≤ tb) (hC : CP G ad F AC E T P S Av Fv H1) (hO : OP G oa w H1) (hw : w = vl) (kp : KP A B A' B') (hM : MP G am (zN FM 0 0) A' B' H2) : JO G ad am oa tb 0 vl H1 H2 := JO.mk9 hC hO hM rfl (fun _ => hw) ((h.f0 0).kp kp) (by
  show ecT A' B' (FM 4) ≤ _
  rw [KPeT kp]; omega)
theorem JO.an5 (h : REL F E T P S Av Fv FM A B) (ht : ecT A B (FM 4) ≤ tb) {z x : Int} (hC : CP G ad F AC E T P S Av Fv H1) (hO : OP G oa w H1) (hw : z = 0 → w = vl) (kp : KP A B A' B') (hM : MP G am (zN (zN FM 5 x) 0 z) A' B' H2) : JO G ad am oa tb z vl H1 H2 := JO.mk9 hC hO hM rfl hw (((h.f5 x).f0 z).kp kp) (by
  show ecT A' B' (FM 4) ≤ _
  rw [KPeT kp]; omega)
set_option maxHeartbeats 1000000 in
theorem j_setBars {kq : Int} {b q : Int}   (h : REL F E T P S Av Fv FM A B) (ht : ecT A B (FM 4) ≤ tb) (h1 : HP G oa O (PI (fun r H => r = b * (384 / q) ∧ (1 ≤ b ∧ b ≤ 12 ∧ (q = 2 ∨ q = 4 ∨ q = 8)) ∧ gEnd Fv (F 0) = 0 ∧ CP G ad (zN (zN F 1 (384 / q)) 2 (b * (384 / q))) AC E T P S Av Fv H)) [(1, xIA), (2, xIS)] (fun E9 H => ((E9 = xIA ∧ ¬ (1 ≤ b ∧ b ≤ 12 ∧ (q = 2 ∨ q = 4 ∨ q = 8))) ∨ (E9 = xIS ∧ (1 ≤ b ∧ b ≤ 12 ∧ (q = 2 ∨ q = 4 ∨ q = 8)) ∧ 0 < gEnd Fv (F 0))) ∧ CP G ad F AC E T P S Av Fv H) kq H1) (h2 : (¬ ((1 ≤ b ∧ b ≤ 12) ∧ (q = 2 ∨ q = 4 ∨ q = 8)) ∧ r = 0 ∧ MP G am (zN FM 0 1) A B H2) ∨ (((1 ≤ b ∧ b ≤ 12) ∧ (q = 2 ∨ q = 4 ∨ q = 8)) ∧ (∃ v, 0 ≤ v ∧ v < FM 4 ∧ 0 < A 0 v) ∧ r = 0 ∧ MP G am (zN FM 0 2) A B H2) ∨ (((1 ≤ b ∧ b ≤ 12) ∧ (q = 2 ∨ q = 4 ∨ q = 8)) ∧ (∀ v, 0 ≤ v → v < FM 4 → A 0 v ≤ 0) ∧ r = b * 384 / q ∧ MP G am (zN (zN (zN FM 0 0) 1 b) 2 q) A B H2)) : JO G ad am oa tb kq (zI r).toInt64 H1 H2 := by
  have n := h.2.1.nums h.1
  have hF := h.2.1
  have hg := gEnd_0 h (F 0).toNat (by omega)
  rw [Int.toNat_of_nonneg n.1.1] at hg
  have kp := KP.rfl' A B
  rcases h1.c2 with ⟨rfl, w, hO, r1, rfl, p1, p2, p3, hC⟩ | ⟨rfl, hO, hE, hC⟩ | ⟨rfl, hO, hE, hC⟩
  · have hz := hg.2.1.mp p3
    rcases h2 with ⟨m1, -⟩ | ⟨m1, ⟨v, v0, v1, m2⟩, -⟩ | ⟨m1, m2, rfl, hM⟩
    · exact absurd ⟨⟨p2.1, p2.2.1⟩, p2.2.2⟩ m1
    · have := hz v v0 (by have := hF.1; omega); omega
    · refine JO.mk9 hC hO hM rfl (fun _ => ?_) ((h.f0 0).setBars m1.1 p2.2.2 hz) (Int.le_trans ht (by omega))
      rw [p1]
      rcases p2.2.2 with e | e | e <;> rw [e] <;> congr 2 <;> omega
  · rcases hE with ⟨-, c⟩ | ⟨e, -⟩
    · rcases h2 with ⟨-, -, hM⟩ | ⟨m1, -⟩ | ⟨m1, -⟩
      · exact JO.thr h ht (by decide) hC hO kp hM
      · exact absurd ⟨m1.1.1, m1.1.2, m1.2⟩ c
      · exact absurd ⟨m1.1.1, m1.1.2, m1.2⟩ c
    · exact absurd e xne.1
  · rcases hE with ⟨e, -⟩ | ⟨-, c, d⟩
    · exact absurd e xne.2.2.1
    · rcases h2 with ⟨m1, -⟩ | ⟨-, -, -, hM⟩ | ⟨m1, m2, -⟩
      · exact absurd ⟨⟨c.1, c.2.1⟩, c.2.2⟩ m1
      · exact JO.thr h ht (by decide) hC hO kp hM
      · exfalso
        have := hg.2.1.mpr (fun v v0 v1 => by
          have a := m2 v v0 (by have := hF.1; omega)
          have b := (h.1.many (v := v) ⟨v0, by omega⟩).1
          omega)
        omega
set_option maxHeartbeats 1000000 in
theorem j_setKey {kq : Int} {k : Int}   (h : REL F E T P S Av Fv FM A B) (ht : ecT A B (FM 4) ≤ tb) (h1 : HP G oa O (PI (fun r H => r = F 3 ∧ (-7 ≤ k ∧ k ≤ 7) ∧ arA G ad (zN F 3 k) AC E T P S Av Fv H)) [(1, xIA)] (fun E9 H => ((E9 = xIA ∧ ¬ (-7 ≤ k ∧ k ≤ 7))) ∧ CP G ad F AC E T P S Av Fv H) kq H1) (h2 : (¬ (-7 ≤ k ∧ k ≤ 7) ∧ r = 0 ∧ MP G am (zN FM 0 1) A B H2) ∨ ((-7 ≤ k ∧ k ≤ 7) ∧ r = FM 3 ∧ MP G am (zN (zN FM 0 0) 3 k) A B H2)) : JO G ad am oa tb kq (zI r).toInt64 H1 H2 := by
  have n := h.2.1.nums h.1
  have hF := h.2.1
  have kp := KP.rfl' A B
  rcases h1.c1 with ⟨rfl, w, hO, r1, rfl, p1, p2, hC⟩ | ⟨rfl, hO, ⟨-, c⟩, hC⟩
  · rcases h2 with ⟨m1, -⟩ | ⟨m1, rfl, hM⟩
    · exact absurd p2 m1
    · exact JO.mk9 hC hO hM rfl (fun _ => by rw [p1, hF.2.2.2.1]) ((h.f0 0).setKey p2) (Int.le_trans ht (by omega))
  · rcases h2 with ⟨-, -, hM⟩ | ⟨m1, -⟩
    · exact JO.thr h ht (by decide) hC hO kp hM
    · exact absurd m1 c
set_option maxHeartbeats 1000000 in
theorem j_addVoice {kq : Int}    (h : REL F E T P S Av Fv FM A B) (ht : ecT A B (FM 4) ≤ tb) (h1 : HP G oa O (PI (fun r H => r = F 0 ∧ F 0 < 4 ∧ CP G ad (zN F 0 (F 0 + 1)) AC E T P S Av Fv H)) [(1, xIS)] (fun E9 H => ((E9 = xIS ∧ ¬ F 0 < 4)) ∧ CP G ad F AC E T P S Av Fv H) kq H1) (h2 : (FM 4 = 4 ∧ r = 0 ∧ MP G am (zN FM 0 1) A B H2) ∨ (¬ FM 4 = 4 ∧ r = FM 4 ∧ MP G am (zN (zN FM 0 0) 4 (FM 4 + 1)) A B H2)) : JO G ad am oa tb kq (zI r).toInt64 H1 H2 := by
  have n := h.2.1.nums h.1
  have hF := h.2.1
  have kp := KP.rfl' A B
  rcases h1.c1 with ⟨rfl, w, hO, r1, rfl, p1, p2, hC⟩ | ⟨rfl, hO, ⟨-, c⟩, hC⟩
  · rcases h2 with ⟨m1, -⟩ | ⟨m1, rfl, hM⟩
    · have := hF.1; omega
    · refine JO.mk9 hC hO hM rfl (fun _ => by rw [p1, hF.1]) ((h.f0 0).addVoice p2) ?_
      show ecT A B (FM 4 + 1) ≤ _
      have e := (ecT_more h.1 (n := FM 4) (m := FM 4 + 1) (by have := hF.1; omega) (fun v v0 v1 => h.2.2.2.1 v (by have := hF.1; omega) (by have := hF.1; omega))).1
      omega
  · rcases h2 with ⟨-, -, hM⟩ | ⟨m1, -⟩
    · exact JO.thr h ht (by decide) hC hO kp hM
    · have := hF.1; omega
set_option maxHeartbeats 1000000 in
theorem j_score {kq : Int} {w : Int}   (h : REL F E T P S Av Fv FM A B) (ht : ecT A B (FM 4) ≤ tb) (h1 : HP G oa O (PI (fun r H => r = scC F T Fv w ∧ (0 ≤ w ∧ w < 5) ∧ CP G ad F AC E T P S Av Fv H)) [(1, xIO)] (fun E9 H => ((E9 = xIO ∧ ¬ (0 ≤ w ∧ w < 5))) ∧ CP G ad F AC E T P S Av Fv H) kq H1) (h2 : (¬ (0 ≤ w ∧ w ≤ 4) ∧ r = 0 ∧ MP G am (zN FM 0 1) A B H2) ∨ ((0 ≤ w ∧ w ≤ 4) ∧ r = scM (zN FM 0 0) A B w ∧ ∃ A' B', MP G am (zN FM 0 0) A' B' H2 ∧ KP A B A' B')) : JO G ad am oa tb kq (zI r).toInt64 H1 H2 := by
  have n := h.2.1.nums h.1
  have hF := h.2.1
  have kp := KP.rfl' A B
  rcases h1.c1 with ⟨rfl, w9, hO, r1, rfl, p1, p2, hC⟩ | ⟨rfl, hO, ⟨-, c⟩, hC⟩
  · rcases h2 with ⟨m1, -⟩ | ⟨m1, rfl, A', B', hM, kp⟩
    · omega
    · exact JO.ans h ht hC hO (by rw [p1, (h.f0 0).score w p2]) kp hM
  · rcases h2 with ⟨-, -, hM⟩ | ⟨m1, -⟩
    · exact JO.thr h ht (by decide) hC hO kp hM
    · omega
set_option maxHeartbeats 1000000 in
theorem j_sign {kq : Int} {st : Int}   (h : REL F E T P S Av Fv FM A B) (ht : ecT A B (FM 4) ≤ tb) (h1 : HP G oa O (PI (fun r H => r = sgK (F 3) st ∧ (0 ≤ st ∧ st < 7) ∧ CP G ad F AC E T P S Av Fv H)) [(1, xIA)] (fun E9 H => ((E9 = xIA ∧ ¬ (0 ≤ st ∧ st < 7))) ∧ CP G ad F AC E T P S Av Fv H) kq H1) (h2 : (¬ (0 ≤ st ∧ st ≤ 6) ∧ r = 0 ∧ MP G am (zN FM 0 1) A B H2) ∨ ((0 ≤ st ∧ st ≤ 6) ∧ r = sgM (FM 3) st ∧ MP G am (zN FM 0 0) A B H2)) : JO G ad am oa tb kq (zI r).toInt64 H1 H2 := by
  have n := h.2.1.nums h.1
  have hF := h.2.1
  have kp := KP.rfl' A B
  rcases h1.c1 with ⟨rfl, w9, hO, r1, rfl, p1, p2, hC⟩ | ⟨rfl, hO, ⟨-, c⟩, hC⟩
  · rcases h2 with ⟨m1, -⟩ | ⟨m1, rfl, hM⟩
    · omega
    · exact JO.ans h ht hC hO (by rw [p1, sg_eq n.2.2.2 p2, hF.2.2.2.1]) kp hM
  · rcases h2 with ⟨-, -, hM⟩ | ⟨m1, -⟩
    · exact JO.thr h ht (by decide) hC hO kp hM
    · omega
set_option maxHeartbeats 1000000 in
theorem j_ticks {kq : Int} {pa d : Int}   (h : REL F E T P S Av Fv FM A B) (ht : ecT A B (FM 4) ≤ tb) (h1 : HP G oa O (PI (fun r H => r = valT (findV pa d) ∧ 0 ≤ findV pa d ∧ CP G ad F AC E T P S Av Fv H)) [(1, xIA)] (fun E9 H => ((E9 = xIA ∧ findV pa d < 0)) ∧ CP G ad F AC E T P S Av Fv H) kq H1) (h2 : (isV pa d 15 = 0 ∧ r = 0 ∧ MP G am (zN FM 0 1) A B H2) ∨ (isV pa d 15 = 1 ∧ r = tkO pa d ∧ MP G am (zN FM 0 0) A B H2)) : JO G ad am oa tb kq (zI r).toInt64 H1 H2 := by
  have n := h.2.1.nums h.1
  have hF := h.2.1
  have kp := KP.rfl' A B
  have iv := isV_iff (pa := pa) (d := d)
  rcases h1.c1 with ⟨rfl, w9, hO, r1, rfl, p1, p2, hC⟩ | ⟨rfl, hO, ⟨-, c⟩, hC⟩
  · rcases h2 with ⟨m1, -⟩ | ⟨m1, rfl, hM⟩
    · have := iv.mpr p2; omega
    · exact JO.ans h ht hC hO (by rw [p1, (findV_at p2).2.2.2]) kp hM
  · rcases h2 with ⟨-, -, hM⟩ | ⟨m1, -⟩
    · exact JO.thr h ht (by decide) hC hO kp hM
    · have := iv.mp m1; omega
set_option maxHeartbeats 1000000 in
theorem j_removeLast {kq : Int} {v : Int}   (h : REL F E T P S Av Fv FM A B) (ht : ecT A B (FM 4) ≤ tb) (h1 : HP G oa O (PI (fun r H => r = Fv v 0 - 1 ∧ (0 ≤ v ∧ v < F 0) ∧ 0 < Fv v 0 ∧ arO G ad F AC E T P S Av (zV Fv v (zN (zN (Fv v) 0 (Fv v 0 - 1)) 1 (T v 0 (Fv v 0 - 1)))) v H)) [(1, xIO), (2, xIS)] (fun E9 H => ((E9 = xIO ∧ ¬ (0 ≤ v ∧ v < F 0)) ∨ (E9 = xIS ∧ (0 ≤ v ∧ v < F 0) ∧ Fv v 0 = 0)) ∧ CP G ad F AC E T P S Av Fv H) kq H1) (h2 : (¬ (0 ≤ v ∧ v ≤ FM 4 - 1) ∧ r = 0 ∧ MP G am (zN FM 0 1) A B H2) ∨ ((0 ≤ v ∧ v ≤ FM 4 - 1) ∧ A 0 v = 0 ∧ r = 0 ∧ MP G am (zN FM 0 2) A B H2) ∨ ((0 ≤ v ∧ v ≤ FM 4 - 1) ∧ ¬ A 0 v = 0 ∧ r = A 0 v - 1 ∧ MP G am (zN FM 0 0) (zR A 0 v (A 0 v - 1)) B H2)) : JO G ad am oa tb kq (zI r).toInt64 H1 H2 := by
  have n := h.2.1.nums h.1
  have hF := h.2.1
  have kp := KP.rfl' A B
  rcases h1.c2 with ⟨rfl, w9, hO, r1, rfl, p1, p2, p3, hC⟩ | ⟨rfl, hO, hE, hC⟩ | ⟨rfl, hO, hE, hC⟩
  · have b := (h.BRs v p2.1 (by omega)).1
    rcases h2 with ⟨m1, -⟩ | ⟨m1, m2, -⟩ | ⟨m1, m2, rfl, hM⟩
    · have := hF.1; omega
    · omega
    · have hR := (h.f0 0).removeLast p2 (by omega)
      exact JO.mk9 hC hO hM rfl (fun _ => by rw [p1, b]) hR (Int.le_trans (cnt_less h (by omega) hR rfl) (by omega))
  · rcases hE with ⟨-, c⟩ | ⟨e, -⟩
    · rcases h2 with ⟨-, -, hM⟩ | ⟨m1, -⟩ | ⟨m1, -⟩
      · exact JO.thr h ht (by decide) hC hO kp hM
      · have := hF.1; omega
      · have := hF.1; omega
    · exact absurd e xne.2.2.2.2.2
  · rcases hE with ⟨e, -⟩ | ⟨-, c, d⟩
    · exact absurd e xne.2.2.2.1
    · have b := (h.BRs v c.1 (by omega)).1
      rcases h2 with ⟨m1, -⟩ | ⟨-, -, -, hM⟩ | ⟨m1, m2, -⟩
      · have := hF.1; omega
      · exact JO.thr h ht (by decide) hC hO kp hM
      · omega
set_option maxHeartbeats 1000000 in
theorem j_tie {kq : Int} {v i t : Int}  (ht9 : t = 0 ∨ t = 1) (h : REL F E T P S Av Fv FM A B) (ht : ecT A B (FM 4) ≤ tb) (h1 : HP G oa O (PI (fun r H => r = bI (T v 5 i = 1) ∧ (0 ≤ v ∧ v < F 0 ∧ 0 ≤ i ∧ i < Fv v 0) ∧ ¬ T v 4 i = -1 ∧ arO G ad F AC E (zV T v (zR (T v) 5 i t)) P S Av Fv v H)) [(1, xIO), (2, xIS)] (fun E9 H => ((E9 = xIO ∧ ¬ (0 ≤ v ∧ v < F 0 ∧ 0 ≤ i ∧ i < Fv v 0)) ∨ (E9 = xIS ∧ (0 ≤ v ∧ v < F 0 ∧ 0 ≤ i ∧ i < Fv v 0) ∧ T v 4 i = -1)) ∧ CP G ad F AC E T P S Av Fv H) kq H1) (h2 : (¬ ((0 ≤ v ∧ v ≤ FM 4 - 1) ∧ 0 ≤ i ∧ i ≤ A 0 v - 1) ∧ r = 0 ∧ MP G am (zN FM 0 1) A B H2) ∨ (((0 ≤ v ∧ v ≤ FM 4 - 1) ∧ 0 ≤ i ∧ i ≤ A 0 v - 1) ∧ B v (10 * i + 2) = 0 ∧ r = 0 ∧ MP G am (zN FM 0 2) A B H2) ∨ (((0 ≤ v ∧ v ≤ FM 4 - 1) ∧ 0 ≤ i ∧ i ≤ A 0 v - 1) ∧ ¬ B v (10 * i + 2) = 0 ∧ r = bI (B v (10 * i + 6) = 1) ∧ MP G am (zN FM 0 0) A (zB B v (10 * i + 6) t) H2)) : JO G ad am oa tb kq (zI r).toInt64 H1 H2 := by
  have n := h.2.1.nums h.1
  have hF := h.2.1
  have b := fun (v0 : 0 ≤ v) (v1 : v < F 0) => (h.BRs v v0 (by omega)).1
  have kp := KP.rfl' A B
  have e0 := hF.1
  rcases h1.c2 with ⟨rfl, w9, hO, r1, rfl, p1, p2, p3, hC⟩ | ⟨rfl, hO, hE, hC⟩ | ⟨rfl, hO, hE, hC⟩
  · have b := b p2.1 p2.2.1
    have nt := h.note p2.1 (v := v) (by omega) (e := i) ⟨p2.2.2.1, by omega⟩
    rcases h2 with ⟨m1, -⟩ | ⟨m1, m2, -⟩ | ⟨m1, m2, rfl, hM⟩
    · omega
    · exact absurd (nt.mpr m2) p3
    · have hR := (h.f0 0).tie (v := v) (i := i) (t := t) ⟨p2.1, p2.2.1⟩ ⟨p2.2.2.1, by omega⟩ ht9 m2
      have t5 := ((h.BRs v p2.1 (by omega)).2.2.2 i p2.2.2.1 (by omega)).1.2.2.2.2.2.1
      exact JO.mk9 hC hO hM rfl (fun _ => by rw [p1, t5]) hR (Int.le_trans (cnt_tie h hR rfl) (by omega))
  · rcases hE with ⟨-, c⟩ | ⟨e, -⟩
    · rcases h2 with ⟨-, -, hM⟩ | ⟨m1, -⟩ | ⟨m1, -⟩
      · exact JO.thr h ht (by decide) hC hO kp hM
      · exfalso; have b := b (by omega) (by omega); omega
      · exfalso; have b := b (by omega) (by omega); omega
    · exact absurd e xne.2.2.2.2.2
  · rcases hE with ⟨e, -⟩ | ⟨-, c, d⟩
    · exact absurd e xne.2.2.2.1
    · have b := b c.1 c.2.1
      have nt := h.note c.1 (v := v) (by omega) (e := i) ⟨c.2.2.1, by omega⟩
      rcases h2 with ⟨m1, -⟩ | ⟨-, -, -, hM⟩ | ⟨m1, m2, -⟩
      · omega
      · exact JO.thr h ht (by decide) hC hO kp hM
      · exact absurd (nt.mp d) m2
set_option maxHeartbeats 1000000 in
theorem j_element {kq : Int} {v i w : Int}   (h : REL F E T P S Av Fv FM A B) (ht : ecT A B (FM 4) ≤ tb) (h1 : HP G oa O (PI (fun r H => r = T v w.toNat i ∧ (0 ≤ v ∧ v < F 0 ∧ 0 ≤ i ∧ i < Fv v 0 ∧ 0 ≤ w ∧ w < 9) ∧ CP G ad F AC E T P S Av Fv H)) [(1, xIO)] (fun E9 H => ((E9 = xIO ∧ ¬ (0 ≤ v ∧ v < F 0 ∧ 0 ≤ i ∧ i < Fv v 0 ∧ 0 ≤ w ∧ w < 9))) ∧ CP G ad F AC E T P S Av Fv H) kq H1) (h2 : (¬ (((0 ≤ v ∧ v ≤ FM 4 - 1) ∧ 0 ≤ i ∧ i ≤ A 0 v - 1) ∧ (0 ≤ w ∧ w ≤ 8)) ∧ r = 0 ∧ MP G am (zN FM 0 1) A B H2) ∨ ((((0 ≤ v ∧ v ≤ FM 4 - 1) ∧ 0 ≤ i ∧ i ≤ A 0 v - 1) ∧ (0 ≤ w ∧ w ≤ 8)) ∧ r = elP (zN FM 0 0) A B (A 3) v i w ∧ ∃ A' B', MP G am (zN FM 0 0) A' B' H2 ∧ KP A B A' B')) : JO G ad am oa tb kq (zI r).toInt64 H1 H2 := by
  have n := h.2.1.nums h.1
  have hF := h.2.1
  have b := fun (v0 : 0 ≤ v) (v1 : v < F 0) => (h.BRs v v0 (by omega)).1
  have kp := KP.rfl' A B
  have e0 := hF.1
  rcases h1.c1 with ⟨rfl, w9, hO, r1, rfl, p1, p2, hC⟩ | ⟨rfl, hO, ⟨-, c⟩, hC⟩
  · have b := b p2.1 p2.2.1
    rcases h2 with ⟨m1, -⟩ | ⟨m1, rfl, A', B', hM, kp⟩
    · omega
    · exact JO.ans h ht hC hO (by rw [p1, (h.f0 0).element p2.1 (by omega) (A 3) ⟨p2.2.2.1, by omega⟩ p2.2.2.2.2]) kp hM
  · rcases h2 with ⟨-, -, hM⟩ | ⟨m1, -⟩
    · exact JO.thr h ht (by decide) hC hO kp hM
    · exfalso; have b := b (by omega) (by omega); omega
set_option maxHeartbeats 1000000 in
theorem j_pitch {kq : Int} {v i w : Int}   (h : REL F E T P S Av Fv FM A B) (ht : ecT A B (FM 4) ≤ tb) (h1 : HP G oa O (PI (fun r H => r = P v w.toNat i ∧ (0 ≤ v ∧ v < F 0 ∧ 0 ≤ i ∧ i < Fv v 0 ∧ 0 ≤ w ∧ w < 3) ∧ ¬ T v 4 i = -1 ∧ CP G ad F AC E T P S Av Fv H)) [(1, xIO), (2, xIS)] (fun E9 H => ((E9 = xIO ∧ ¬ (0 ≤ v ∧ v < F 0 ∧ 0 ≤ i ∧ i < Fv v 0 ∧ 0 ≤ w ∧ w < 3)) ∨ (E9 = xIS ∧ (0 ≤ v ∧ v < F 0 ∧ 0 ≤ i ∧ i < Fv v 0 ∧ 0 ≤ w ∧ w < 3) ∧ T v 4 i = -1)) ∧ CP G ad F AC E T P S Av Fv H) kq H1) (h2 : (¬ (((0 ≤ v ∧ v ≤ FM 4 - 1) ∧ 0 ≤ i ∧ i ≤ A 0 v - 1) ∧ (0 ≤ w ∧ w ≤ 2)) ∧ r = 0 ∧ MP G am (zN FM 0 1) A B H2) ∨ ((((0 ≤ v ∧ v ≤ FM 4 - 1) ∧ 0 ≤ i ∧ i ≤ A 0 v - 1) ∧ (0 ≤ w ∧ w ≤ 2)) ∧ B v (10 * i + 2) = 0 ∧ r = 0 ∧ MP G am (zN FM 0 2) A B H2) ∨ ((((0 ≤ v ∧ v ≤ FM 4 - 1) ∧ 0 ≤ i ∧ i ≤ A 0 v - 1) ∧ (0 ≤ w ∧ w ≤ 2)) ∧ ¬ B v (10 * i + 2) = 0 ∧ r = B v (10 * i + (3 + w)) ∧ MP G am (zN FM 0 0) A B H2)) : JO G ad am oa tb kq (zI r).toInt64 H1 H2 := by
  have n := h.2.1.nums h.1
  have hF := h.2.1
  have b := fun (v0 : 0 ≤ v) (v1 : v < F 0) => (h.BRs v v0 (by omega)).1
  have kp := KP.rfl' A B
  have e0 := hF.1
  rcases h1.c2 with ⟨rfl, w9, hO, r1, rfl, p1, p2, p3, hC⟩ | ⟨rfl, hO, hE, hC⟩ | ⟨rfl, hO, hE, hC⟩
  · have b := b p2.1 p2.2.1
    have nt := h.note p2.1 (v := v) (by omega) (e := i) ⟨p2.2.2.1, by omega⟩
    rcases h2 with ⟨m1, -⟩ | ⟨m1, m2, -⟩ | ⟨m1, m2, rfl, hM⟩
    · omega
    · exact absurd (nt.mpr m2) p3
    · exact JO.ans h ht hC hO (by rw [p1, h.pitch p2.1 (by omega) ⟨p2.2.2.1, by omega⟩ p2.2.2.2.2 m2]) kp hM
  · rcases hE with ⟨-, c⟩ | ⟨e, -⟩
    · rcases h2 with ⟨-, -, hM⟩ | ⟨m1, -⟩ | ⟨m1, -⟩
      · exact JO.thr h ht (by decide) hC hO kp hM
      · exfalso; have b := b (by omega) (by omega); omega
      · exfalso; have b := b (by omega) (by omega); omega
    · exact absurd e xne.2.2.2.2.2
  · rcases hE with ⟨e, -⟩ | ⟨-, c, d⟩
    · exact absurd e xne.2.2.2.1
    · have b := b c.1 c.2.1
      have nt := h.note c.1 (v := v) (by omega) (e := i) ⟨c.2.2.1, by omega⟩
      rcases h2 with ⟨m1, -⟩ | ⟨-, -, -, hM⟩ | ⟨m1, m2, -⟩
      · omega
      · exact JO.thr h ht (by decide) hC hO kp hM
      · exact absurd (nt.mp d) m2
set_option maxHeartbeats 1000000 in
theorem j_voice {kq : Int} {v w : Int}   (h : REL F E T P S Av Fv FM A B) (ht : ecT A B (FM 4) ≤ tb) (h1 : HP G oa O (PI (fun r H => r = vTell (Fv v) w ∧ (0 ≤ v ∧ v < F 0 ∧ 0 ≤ w ∧ w < 7) ∧ CP G ad F AC E T P S Av Fv H)) [(1, xIO)] (fun E9 H => ((E9 = xIO ∧ ¬ (0 ≤ v ∧ v < F 0 ∧ 0 ≤ w ∧ w < 7))) ∧ CP G ad F AC E T P S Av Fv H) kq H1) (h2 : (¬ ((0 ≤ v ∧ v ≤ FM 4 - 1) ∧ (0 ≤ w ∧ w ≤ 6)) ∧ r = 0 ∧ MP G am (zN FM 0 1) A B H2) ∨ (((0 ≤ v ∧ v ≤ FM 4 - 1) ∧ (0 ≤ w ∧ w ≤ 6)) ∧ r = vpM (zN FM 0 0) A B (A 3) v w ∧ ∃ A' B', MP G am (zN FM 0 0) A' B' H2 ∧ KP A B A' B')) : JO G ad am oa tb kq (zI r).toInt64 H1 H2 := by
  have n := h.2.1.nums h.1
  have hF := h.2.1
  have kp := KP.rfl' A B
  have e0 := hF.1
  rcases h1.c1 with ⟨rfl, w9, hO, r1, rfl, p1, p2, hC⟩ | ⟨rfl, hO, ⟨-, c⟩, hC⟩
  · rcases h2 with ⟨m1, -⟩ | ⟨m1, rfl, A', B', hM, kp⟩
    · omega
    · exact JO.ans h ht hC hO (by rw [p1, (h.f0 0).voice p2.1 (by omega) (A 3) p2.2.2]) kp hM
  · rcases h2 with ⟨-, -, hM⟩ | ⟨m1, -⟩
    · exact JO.thr h ht (by decide) hC hO kp hM
    · omega
set_option maxHeartbeats 1000000 in
theorem j_transpose {kq : Int} {x y : Int}   (h : REL F E T P S Av Fv FM A B) (ht : ecT A B (FM 4) ≤ tb) (h1 : HP G oa O (PI (fun r H => r = (F 3 + 7 * y - 12 * x) ∧ (-14 ≤ x ∧ x ≤ 14 ∧ -24 ≤ y ∧ y ≤ 24) ∧ (-7 ≤ (F 3 + 7 * y - 12 * x) ∧ (F 3 + 7 * y - 12 * x) ≤ 7) ∧ ¬ fp (trV T P Fv x y) (F 0) < F 0 ∧ arA G ad (zN F 3 (F 3 + 7 * y - 12 * x)) AC E (upV (trT T P Fv x y) T (F 0)) (upV (trP T P Fv x y) P (F 0)) S Av Fv H)) [(1, xIA), (2, xIS)] (fun E9 H => ((E9 = xIA ∧ ¬ (-14 ≤ x ∧ x ≤ 14 ∧ -24 ≤ y ∧ y ≤ 24)) ∨ (E9 = xIS ∧ (-14 ≤ x ∧ x ≤ 14 ∧ -24 ≤ y ∧ y ≤ 24) ∧ ((-7 ≤ (F 3 + 7 * y - 12 * x) ∧ (F 3 + 7 * y - 12 * x) ≤ 7) → fp (trV T P Fv x y) (F 0) < F 0))) ∧ CP G ad F AC E T P S Av Fv H) kq H1) (h2 : (¬ ((-14 ≤ x ∧ x ≤ 14) ∧ -24 ≤ y ∧ y ≤ 24) ∧ r = 0 ∧ MP G am (zN FM 0 1) A B H2) ∨ (((-14 ≤ x ∧ x ≤ 14) ∧ -24 ≤ y ∧ y ≤ 24) ∧ ¬ (-7 ≤ (FM 3 + 7 * y - 12 * x) ∧ (FM 3 + 7 * y - 12 * x) ≤ 7) ∧ r = 0 ∧ MP G am (zN FM 0 2) A B H2) ∨ (((-14 ≤ x ∧ x ≤ 14) ∧ -24 ≤ y ∧ y ≤ 24) ∧ (-7 ≤ (FM 3 + 7 * y - 12 * x) ∧ (FM 3 + 7 * y - 12 * x) ≤ 7) ∧ ¬ okP9 A B x y (FM 4) 0 ∧ r = 0 ∧ MP G am (zN FM 0 2) A B H2) ∨ (((-14 ≤ x ∧ x ≤ 14) ∧ -24 ≤ y ∧ y ≤ 24) ∧ (-7 ≤ (FM 3 + 7 * y - 12 * x) ∧ (FM 3 + 7 * y - 12 * x) ≤ 7) ∧ okP9 A B x y (FM 4) 0 ∧ r = (FM 3 + 7 * y - 12 * x) ∧ MP G am (zN (zN FM 0 0) 3 (FM 3 + 7 * y - 12 * x)) A (mvB A B x y (FM 4) 0) H2)) : JO G ad am oa tb kq (zI r).toInt64 H1 H2 := by
  have n := h.2.1.nums h.1
  have hF := h.2.1
  have kp := KP.rfl' A B
  have e3 := hF.2.2.2.1
  have ok := tr_ok h x y
  rw [← e3] at h2
  rcases h1.c2 with ⟨rfl, w9, hO, r1, rfl, p1, p2, p3, p4, hC⟩ | ⟨rfl, hO, hE, hC⟩ | ⟨rfl, hO, hE, hC⟩
  · rcases h2 with ⟨m1, -⟩ | ⟨m1, m2, -⟩ | ⟨m1, m2, m3, -⟩ | ⟨m1, m2, m3, rfl, hM⟩
    · omega
    · exact absurd p3 m2
    · exact absurd (ok.mp p4) m3
    · have hR := (h.f0 0).transpose (x := x) (y := y) p3 m3
      exact JO.mk9 hC hO hM rfl (fun _ => by rw [p1]) hR (Int.le_trans (cnt_tr h m3 hR rfl) (by omega))
  · rcases hE with ⟨-, c⟩ | ⟨e, -⟩
    · rcases h2 with ⟨-, -, hM⟩ | ⟨m1, -⟩ | ⟨m1, -⟩ | ⟨m1, -⟩
      · exact JO.thr h ht (by decide) hC hO kp hM
      · omega
      · omega
      · omega
    · exact absurd e xne.1
  · rcases hE with ⟨e, -⟩ | ⟨-, c, d⟩
    · exact absurd e xne.2.2.1
    · rcases h2 with ⟨m1, -⟩ | ⟨m1, m2, -, hM⟩ | ⟨m1, m2, m3, -, hM⟩ | ⟨m1, m2, m3, -⟩
      · omega
      · exact JO.thr h ht (by decide) hC hO kp hM
      · exact JO.thr h ht (by decide) hC hO kp hM
      · exact absurd (d m2) (ok.mpr m3)
set_option maxHeartbeats 1000000 in
theorem j_interval {kq : Int} {a b t : Int}   (h : REL F E T P S Av Fv FM A B) (ht : ecT A B (FM 4) ≤ tb) (h1 : HP G oa O (PI (fun r H => r = (if tAt (T a 0) (T a 1) (T a 4) (Fv a 0) t = -1 ∨ tAt (T b 0) (T b 1) (T b 4) (Fv b 0) t = -1 then -100 else tAt (T b 0) (T b 1) (T b 4) (Fv b 0) t - tAt (T a 0) (T a 1) (T a 4) (Fv a 0) t) ∧ (0 ≤ a ∧ a < F 0 ∧ 0 ≤ b ∧ b < F 0) ∧ 0 ≤ t ∧ CP G ad F AC E T P S Av Fv H)) [(1, xIO), (2, xIA)] (fun E9 H => ((E9 = xIO ∧ ¬ (0 ≤ a ∧ a < F 0 ∧ 0 ≤ b ∧ b < F 0)) ∨ (E9 = xIA ∧ (0 ≤ a ∧ a < F 0 ∧ 0 ≤ b ∧ b < F 0) ∧ t < 0)) ∧ CP G ad F AC E T P S Av Fv H) kq H1) (h2 : (¬ ((0 ≤ a ∧ a ≤ FM 4 - 1) ∧ 0 ≤ b ∧ b ≤ FM 4 - 1) ∧ r = 0 ∧ MP G am (zN FM 0 1) A B H2) ∨ (((0 ≤ a ∧ a ≤ FM 4 - 1) ∧ 0 ≤ b ∧ b ≤ FM 4 - 1) ∧ t < 0 ∧ r = 0 ∧ MP G am (zN FM 0 2) A B H2) ∨ (((0 ≤ a ∧ a ≤ FM 4 - 1) ∧ 0 ≤ b ∧ b ≤ FM 4 - 1) ∧ ¬ t < 0 ∧ r = (if tAt (bgM B a) (mTk B a) (mTn B a) (A 0 a) t = -1 ∨ tAt (bgM B b) (mTk B b) (mTn B b) (A 0 b) t = -1 then -100 else tAt (bgM B b) (mTk B b) (mTn B b) (A 0 b) t - tAt (bgM B a) (mTk B a) (mTn B a) (A 0 a) t) ∧ ∃ A' B', MP G am (zN FM 0 0) A' B' H2 ∧ KP A B A' B')) : JO G ad am oa tb kq (zI r).toInt64 H1 H2 := by
  have n := h.2.1.nums h.1
  have hF := h.2.1
  have kp := KP.rfl' A B
  have e0 := hF.1
  rcases h1.c2 with ⟨rfl, w9, hO, r1, rfl, p1, p2, p3, hC⟩ | ⟨rfl, hO, hE, hC⟩ | ⟨rfl, hO, hE, hC⟩
  · rcases h2 with ⟨m1, -⟩ | ⟨m1, m2, -⟩ | ⟨m1, m2, rfl, A', B', hM, kp⟩
    · omega
    · omega
    · have ba := h.BRs a p2.1 (by omega)
      have bb := h.BRs b p2.2.2.1 (by omega)
      exact JO.ans h ht hC hO (by rw [p1, ba.1, bb.1, ba.tA, bb.tA]) kp hM
  · rcases hE with ⟨-, c⟩ | ⟨e, -⟩
    · rcases h2 with ⟨-, -, hM⟩ | ⟨m1, -⟩ | ⟨m1, -⟩
      · exact JO.thr h ht (by decide) hC hO kp hM
      · omega
      · omega
    · exact absurd e xne.2.2.2.2.1
  · rcases hE with ⟨e, -⟩ | ⟨-, c, d⟩
    · exact absurd e xne.2.1
    · rcases h2 with ⟨m1, -⟩ | ⟨-, -, -, hM⟩ | ⟨m1, m2, -⟩
      · omega
      · exact JO.thr h ht (by decide) hC hO kp hM
      · omega
set_option maxHeartbeats 1000000 in
theorem j_event {kq : Int} {i w : Int}   (h : REL F E T P S Av Fv FM A B) (ht : ecT A B (FM 4) ≤ tb) (h1 : HP G oa O (PI (fun r H => (0 ≤ i ∧ i < 2 * nSou Fv (F 0) ∧ 0 ≤ w ∧ w < 4) ∧ ∃ F2 A2 E2, rfQ F AC E S Fv F2 A2 E2 ∧ r = E2 w.toNat i ∧ CP G ad F2 A2 E2 T P S Av Fv H)) [(1, xIO)] (fun E9 H => ((E9 = xIO ∧ ¬ (0 ≤ i ∧ i < 2 * nSou Fv (F 0) ∧ 0 ≤ w ∧ w < 4))) ∧ CP G ad F AC E T P S Av Fv H) kq H1) (h2 : (¬ ((0 ≤ i ∧ i ≤ (ecT A B (FM 4)) - 1) ∧ 0 ≤ w ∧ w ≤ 3) ∧ r = 0 ∧ ∃ A' B', MP G am (zN (zN (zN FM 0 0) 5 (ecT A B (FM 4))) 0 1) A' B' H2 ∧ KP A B A' B') ∨ (((0 ≤ i ∧ i ≤ (ecT A B (FM 4)) - 1) ∧ 0 ≤ w ∧ w ≤ 3) ∧ r = evO A B (A 4) (FM 4) (4 * i + w) ∧ ∃ A' B', MP G am (zN (zN FM 0 0) 5 (ecT A B (FM 4))) A' B' H2 ∧ KP A B A' B')) : JO G ad am oa tb kq (zI r).toInt64 H1 H2 := by
  have n := h.2.1.nums h.1
  have hF := h.2.1
  have kp := KP.rfl' A B
  have hc := h.count
  rcases h1.c1 with ⟨rfl, w9, hO, r1, rfl, p1, F2, A2, E2, q1, q2, hC⟩ | ⟨rfl, hO, ⟨-, c⟩, hC⟩
  · rcases h2 with ⟨m1, -⟩ | ⟨m1, rfl, A', B', hM, kp⟩
    · omega
    · have q := h.rf q1
      refine JO.mk9 hC hO hM rfl (fun _ => ?_) (((q.1.f0 0).f5 _).kp kp) (by
        show ecT A' B' (FM 4) ≤ _
        rw [KPeT kp]; omega)
      have a := q.2 (A 4) i p1.1 p1.2.1 w.toNat (by omega)
      rw [Int.toNat_of_nonneg p1.2.2.1] at a
      rw [q2, a]
  · rcases h2 with ⟨-, -, A', B', hM, kp⟩ | ⟨m1, -⟩
    · refine JO.mk9 hC hO hM rfl (fun e => absurd e (by decide)) ((((h.f0 0).f5 _).f0 1).kp kp) (by
        show ecT A' B' (FM 4) ≤ _
        rw [KPeT kp]; omega)
    · omega
set_option maxHeartbeats 1000000 in
theorem j_time {kq : Int} {x y : Int} {r : Int64}  (h : REL F E T P S Av Fv FM A B) (ht : ecT A B (FM 4) ≤ tb) (h1 : HP G oa O (fun r H => r = (zI x).toInt64 * 625000 / (zI y).toInt64 ∧ (0 ≤ x ∧ x ≤ 100000 ∧ 10 ≤ y ∧ y ≤ 400) ∧ CP G ad F AC E T P S Av Fv H) [(1, xIA)] (fun E9 H => ((E9 = xIA ∧ ¬ (0 ≤ x ∧ x ≤ 100000 ∧ 10 ≤ y ∧ y ≤ 400))) ∧ CP G ad F AC E T P S Av Fv H) kq H1) (h2 : (¬ ((0 ≤ x ∧ x ≤ 100000) ∧ 10 ≤ y ∧ y ≤ 400) ∧ r = 0 ∧ MP G am (zN FM 0 1) A B H2) ∨ (((0 ≤ x ∧ x ≤ 100000) ∧ 10 ≤ y ∧ y ≤ 400) ∧ r = (zI x).toInt64 * 625000 / (zI y).toInt64 ∧ MP G am (zN FM 0 0) A B H2)) : JO G ad am oa tb kq r H1 H2 := by
  have kp := KP.rfl' A B
  rcases h1.c1 with ⟨rfl, w9, hO, p1, p2, hC⟩ | ⟨rfl, hO, ⟨-, c⟩, hC⟩
  · rcases h2 with ⟨m1, -⟩ | ⟨m1, rfl, hM⟩
    · omega
    · exact JO.ans h ht hC hO p1 kp hM
  · rcases h2 with ⟨-, -, hM⟩ | ⟨m1, -⟩
    · exact JO.thr h ht (by decide) hC hO kp hM
    · omega
end JJ9
