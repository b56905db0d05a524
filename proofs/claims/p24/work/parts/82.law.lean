/-! the law: the score is told again, element by element, to a second one -/
theorem lC_self (x : Int64) : lC x x = 0 := by
  unfold lC lg_cmp
  rw [if_neg (by exact fun h => absurd h (by simp)), if_pos rfl]
  rfl
theorem lI_sub (x y : Int) : lI x - lI y = lI (x - y) := (Int64.ofInt_sub x y).symm
def AL (s : State) : Nat → Prop := fun q => s.heap.size ≤ q
/-- what q has of the voices when e elements of voice v are told -/
def nQ (n : Int → Int) (v e : Int) : Int → Int := fun u => if 0 ≤ u ∧ u < v then n u else if u = v then e else 0
theorem nQ_at (n : Int → Int) (v e : Int) : nQ n v e v = e := by unfold nQ; rw [if_neg (by omega), if_pos rfl]
theorem nQ_up (n : Int → Int) (v e : Int) : zU (nQ n v e) v (nQ n v e v + 1) = nQ n v (e + 1) := by
  rw [nQ_at]
  funext u
  unfold zU nQ
  by_cases c : u = v
  · rw [if_pos c, if_neg (by omega), if_pos c]
  · rw [if_neg c, if_neg c, if_neg c]
theorem nQ_next (n : Int → Int) {v : Int} (hv : 0 ≤ v) : nQ n v (n v) = nQ n (v + 1) 0 := by
  funext u
  unfold nQ
  by_cases c : 0 ≤ u ∧ u < v
  · rw [if_pos c, if_pos (by omega)]
  · by_cases d : u = v
    · rw [if_neg c, if_pos d, if_pos (by omega), d]
    · rw [if_neg c, if_neg d, if_neg (by omega)]
      split <;> rfl
theorem nQ_0 (n : Int → Int) : nQ n 0 0 = n00 := by
  funext u
  unfold nQ
  rw [if_neg (by omega)]
  split <;> rfl
theorem nQ_end {bt pt ky nv : Int} {n : Int → Int} {B : Int → Int → Int} (h : GP bt pt ky nv n B) (hZ : RZ n B) (h4 : nv ≤ 4) : nQ n nv 0 = n := by
  funext u
  unfold nQ
  by_cases c : 0 ≤ u ∧ u < nv
  · rw [if_pos c]
  · rw [if_neg c, show (if u = nv then (0 : Int) else 0) = 0 by split <;> rfl]
    by_cases d : 0 ≤ u ∧ u < 4
    · exact (h.2.2 u (by omega) d.2).symm
    · exact (hZ.2 u d).symm
theorem stC_le {g : Int → Prop} [DecidablePred g] : ∀ m : Nat, 0 ≤ stC g m ∧ stC g m ≤ m := by
  intro m
  induction m with
  | zero => exact ⟨Int.le_refl 0, Int.le_refl 0⟩
  | succ m ih =>
    rw [show ((m + 1 : Nat) : Int) = (m : Int) + 1 by omega, stC_s' (by omega)]
    split <;> omega
theorem bm_step {g : Int → Prop} [DecidablePred g] (hg : ∀ i, g i → 0 ≤ i) (e : Nat) : (bmN g e = -1 ∧ stC g ((e : Int) + 1) = stC g e) ∨ (bmN g e = stC g ((e : Int) + 1) - 1 ∧ 1 ≤ stC g ((e : Int) + 1) ∧ (g ((e : Int) - 1) ∨ g e) ∧ (stC g ((e : Int) + 1) = stC g e + 1 ∨ (stC g ((e : Int) + 1) = stC g e ∧ g ((e : Int) - 1)))) := by
  have s := stC_s' (g := g) (m := (e : Int)) (by omega)
  unfold bmN
  by_cases c1 : g ((e : Int) - 1)
  · have p := (stC_pos hg e).2 c1
    rw [if_neg (fun z => z.1 c1)] at s
    rw [if_pos (Or.inl c1)]
    exact Or.inr ⟨rfl, by omega, Or.inl c1, Or.inr ⟨by omega, c1⟩⟩
  · by_cases c2 : g (e : Int)
    · have p := (stC_pos hg e).1
      rw [if_pos ⟨c1, c2⟩] at s
      rw [if_pos (Or.inr c2)]
      exact Or.inr ⟨rfl, by omega, Or.inr c2, Or.inl (by omega)⟩
    · rw [if_neg (fun z => c2 z.2)] at s
      rw [if_neg (fun z => z.elim c1 c2)]
      exact Or.inl ⟨rfl, by omega⟩
/-- the same element, told as one piece -/
theorem lw_B {b fr x v e0 n0 : Int} {B : Int → Int → Int} (hn0 : n0 = e0) (hx : 0 ≤ x ∧ x < 15) (hb : 48 ≤ b ∧ b % 12 = 0) (hf : 0 ≤ fr ∧ fr % 12 = 0) (h0 : B v (10 * e0 + 0) = valP x) (h1 : B v (10 * e0 + 1) = valD x) (hin : (fr + valT x - 1) / b = fr / b) : 1 = cutN b (fr + valT x) fr ∧ ∀ u e w, 0 ≤ w → w < 7 → B u (10 * e + w) = if u = v ∧ n0 ≤ e ∧ e < n0 + 1 ∧ w < 7 then elC b (fr + valT x) fr (fun w => B v (10 * e0 + w)) (e - n0) w else B u (10 * e + w) := by
  subst hn0
  have o := af_one hx hb hf rfl hin
  refine ⟨o.1.symm, fun u e w w0 w1 => ?_⟩
  by_cases c : u = v ∧ n0 ≤ e ∧ e < n0 + 1 ∧ w < 7
  · obtain ⟨rfl, c1, c2, -⟩ := c
    have he : e = n0 := by omega
    subst he
    rw [if_pos ⟨rfl, c1, c2, w1⟩, show e - e = 0 by omega]
    have q := el_pc hx hb hf (sd := fun w => B u (10 * e + w)) h0 h1 o.1.symm (j := 0) (by decide)
    rw [o.2] at q
    rcases (by omega : w = 0 ∨ w = 1 ∨ (2 ≤ w ∧ w ≤ 5) ∨ w = 6) with z | z | z | z
    · rw [z, q.1]; exact h0
    · rw [z, q.2.1]; exact h1
    · rw [q.2.2.1 w z.1 z.2]
    · rw [z, q.2.2.2, if_pos (by decide)]
  · rw [if_neg c]
theorem REL.sou {F : Nat → Int} {E : Nat → Int → Int} {T P S Av : Int → Nat → Int → Int} {Fv : Int → Nat → Int} {FM : Nat → Int} {A : Nat → Int → Int} {B : Int → Int → Int} (h : REL F E T P S Av Fv FM A B) {v : Int} (hv : 0 ≤ v ∧ v < 4) : ec A B v (A 0 v) = 2 * vpM FM A B h00 v 2 := by
  have q := ec_so (h.BRs v hv.1 hv.2) (shM FM A B v h00) (h.1.many hv).1 (Int.le_refl (A 0 v))
  rw [if_neg (fun z => by have := z.2.1; omega)] at q
  rw [q, Int.sub_zero]
  rfl
/-- the events of the score, row 0 and row 3 -/
def XE (n : Int → Int) (B : Int → Int → Int) (nv : Int) : Int → Int := fun k => evO (ghA n) B h00 nv (4 * k + 0)
def WE (n : Int → Int) (B : Int → Int → Int) (nv : Int) : Int → Int := fun k => evO (ghA n) B h00 nv (4 * k + 3)
section LF9
variable {G : zG} {ad : Nat → Nat} {bt pt ky nv : Int} {n : Int → Int} {B : Int → Int → Int} {H : Heap}
theorem GI.evs (h : GI G ad bt pt ky nv n B H) : (0 ≤ ecT (ghA n) B nv ∧ ecT (ghA n) B nv ≤ 1600) ∧ (∀ k, 0 ≤ k → k + 1 < ecT (ghA n) B nv → XE n B nv k ≤ XE n B nv (k + 1)) ∧ (∀ k, 0 ≤ k → k < ecT (ghA n) B nv → (0 ≤ XE n B nv k ∧ XE n B nv k ≤ 1000000) ∧ (WE n B nv k = 0 ∨ WE n B nv k = 1)) ∧ (∀ i, 0 ≤ i → i ≤ ecT (ghA n) B nv → 0 ≤ opn (WE n B nv) i ∧ opn (WE n B nv) i ≤ nv) ∧ opn (WE n B nv) (ecT (ghA n) B nv) = 0 ∧ las (XE n B nv) (WE n B nv) (ecT (ghA n) B nv) = mtT (ghA n) B nv := by
  obtain ⟨F, AC, E, T, P, S, Av, Fv, hC, hR⟩ := h
  exact hR.evs h00 (XE n B nv) (WE n B nv) (fun _ => rfl) (fun _ => rfl)
theorem GI.sou (h : GI G ad bt pt ky nv n B H) {v : Int} (hv : 0 ≤ v ∧ v < 4) : ec (ghA n) B v (n v) = 2 * vpM (fmB bt pt ky nv) (ghA n) B h00 v 2 := by
  obtain ⟨F, AC, E, T, P, S, Av, Fv, hC, hR⟩ := h
  exact hR.sou hv
end LF9
/-- where the two scores and the Hand stand -/
def LX9 (p : Program) (l : Launch) (s : State) (m : MethodId) (args : Array Value) (c : Code) (G : zG) (adp adq : Nat → Nat) (h : Nat) : Prop := (p.tables.exec = Jvm.exec ∧ c.code = cL_law ∧ c.maxLocals = 19 ∧ s.vm.findClass RL = some m.cls ∧ ∀ w ∈ lw_all, w.before args s = true) ∧ GK G s ∧ l.stackTraces = false ∧ G.2.2 = s.heap.size ∧ (∀ k, k < 94 → s.heap.size ≤ adp k ∧ adp k < h) ∧ ∀ k, k < 94 → h < adq k
def LI9 (G : zG) (adp adq : Nat → Nat) (h vs : Nat) (bt pt ky nv : Int) (n : Int → Int) (B : Int → Int → Int) (bq pq kq vq : Int) (nq : Int → Int) (H : Heap) : Prop := GI G adp bt pt ky nv n B H ∧ GI G adq bq pq kq vq nq B H ∧ HO G h vs bt pt ky H
section LY9
variable {p : Program} {l : Launch} {s : State} {m : MethodId} {args : Array Value} {c : Code} {G : zG} {adp adq : Nat → Nat} {h vs : Nat}
theorem LX9.toP (X : LX9 p l s m args c G adp adq h) {sz : Nat} (hs : s.heap.size ≤ sz) : ∀ q, fA 94 adp sz q → AL s q := fun q z => z.elim (fun ⟨k, hk, e⟩ => by have := (X.2.2.2.2.1 k hk).1; show s.heap.size ≤ q; omega) (fun z => Nat.le_trans hs z)
theorem LX9.toQ (X : LX9 p l s m args c G adp adq h) {sz : Nat} (hs : s.heap.size ≤ sz) : ∀ q, fA 94 adq sz q → AL s q := fun q z => z.elim (fun ⟨k, hk, e⟩ => by have := X.2.2.2.2.2 k hk; have := X.2.2.2.2.1 0 (by decide); show s.heap.size ≤ q; omega) (fun z => Nat.le_trans hs z)
variable {bt pt ky nv bq pq kq vq b2 p2 k2 v2 : Int} {n nq n2 : Int → Int} {B : Int → Int → Int} {H H1 : Heap}
theorem LI9.toP (hI : LI9 G adp adq h vs bt pt ky nv n B bq pq kq vq nq H) (X : LX9 p l s m args c G adp adq h) (hg : GI G adp bt pt ky nv n B H1) (hk : ∀ q : Nat, q < H.size → ¬ fA 94 adp H.size q → H1[q]? = H[q]?) : LI9 G adp adq h vs bt pt ky nv n B bq pq kq vq nq H1 := by
  have hO : va_at G.1 vwCl _ H := hI.2.2
  refine ⟨hg, hI.2.1.kept (fun k hk9 => hk _ (hI.2.1.lt hk9) (fun z => ?_)), va_at.kept hO (hk _ (va_at.lt hO) (fun z => ?_))⟩
  · have a := X.2.2.2.2.2 k hk9
    have b := hI.2.1.lt hk9
    rcases z with ⟨j, hj, e⟩ | z
    · have := (X.2.2.2.2.1 j hj).2; omega
    · omega
  · have b := va_at.lt hO
    rcases z with ⟨j, hj, e⟩ | z
    · have := (X.2.2.2.2.1 j hj).2; omega
    · omega
theorem LI9.toQ (hI : LI9 G adp adq h vs bt pt ky nv n B bq pq kq vq nq H) (X : LX9 p l s m args c G adp adq h) (hg : GI G adq b2 p2 k2 v2 n2 B H1) (hk : ∀ q : Nat, q < H.size → ¬ fA 94 adq H.size q → H1[q]? = H[q]?) : LI9 G adp adq h vs bt pt ky nv n B b2 p2 k2 v2 n2 H1 := by
  have hO : va_at G.1 vwCl _ H := hI.2.2
  refine ⟨hI.1.kept (fun k hk9 => hk _ (hI.1.lt hk9) (fun z => ?_)), hg, va_at.kept hO (hk _ (va_at.lt hO) (fun z => ?_))⟩
  · have a := (X.2.2.2.2.1 k hk9).2
    have b := hI.1.lt hk9
    rcases z with ⟨j, hj, e⟩ | z
    · have := X.2.2.2.2.2 j hj; omega
    · omega
  · have b := va_at.lt hO
    rcases z with ⟨j, hj, e⟩ | z
    · have := X.2.2.2.2.2 j hj; omega
    · omega
end LY9
section ZB2
variable {p : Program} {l : Launch} {e : Env} {R : Room} {s : State} {m : MethodId} {args : Array Value} {below : List Frame} {meth : Method} {c : Code} {H : Heap} {locs : List Loc} {cells slots : Nat} {Q : State → Prop}
variable {cc : ByteArray} {ls : Array Slot} {rest : List Value}
/-- a number that is 1 or not, as a truth -/
theorem z_b2 (hx : p.tables.exec = Jvm.exec) (hb : c.code = cc) {ti : Int} (ht : ti = 0 ∨ ti = 1) (d0 : decode cc 171 = .ok (.if_icmp .ne 7, 3)) (d1 : decode cc 174 = .ok (.iconst 1, 1)) (d2 : decode cc 175 = .ok (.goto 4, 3)) (d3 : decode cc 178 = .ok (.iconst 0, 1))
    (kk : W p l e R s m args below meth c H locs cells slots Q (F0 m 179 ls (.int (zI ti) :: rest))) : W p l e R s m args below meth c H locs cells slots Q (F0 m 171 ls (.int (zI 1) :: .int (zI ti) :: rest)) := by
  refine z_icmp_ne (a := ti) (b := 1) (tgt := 178) hx hb d0 (by decide) (by omega) (by decide) (fun h => ?_) (fun h => ?_)
  · rw [show ti = 0 by omega] at kk
    exact z_iconst hx hb d3 kk
  · rw [h] at kk
    exact z_iconst hx hb d1 (lv_goto (tgt := 179) hx hb d2 (by decide) kk)
end ZB2
section LW9
variable {p : Program} {l : Launch} {env : Env} {s : State} {m : MethodId} {args : Array Value} {below : List Frame} {meth : Method} {c : Code} {Q : State → Prop} {G : zG} {adp adq : Nat → Nat} {h vs : Nat} {bt pt ky nv : Int} {n : Int → Int} {B : Int → Int → Int} {CB SB : Nat}
set_option maxHeartbeats 4000000 in
theorem law_events (X : LX9 p l s m args c G adp adq h) (hgp : GP bt pt ky nv n B) (hnv : 1 ≤ nv ∧ nv ≤ 3) {T0 : Int} (hT : T0 = mtT (ghA n) B nv) {vq : Int} {nq : Int → Int} (hCB : CB + 9700 ≤ 600064) (hSB : SB + 58000 ≤ 7301640)
    (ke : ∀ (H : Heap) (locs : List Loc), va_S (AL s) s.heap H locs → ∀ ls : Array Slot, W p l env room_1 s m args below meth c H locs (CB + 9700) (SB + 58000) Q (F0 m 637 ls [.int (zI 1)])) :
    ∀ (w k : Nat), (k : Int) ≤ ecT (ghA n) B nv → ecT (ghA n) B nv - k < w → ∀ b9 : Int, (0 ≤ b9 ∧ b9 ≤ 1000000 ∧ ((k : Int) < ecT (ghA n) B nv → b9 ≤ XE n B nv k)) → ∀ (H : Heap) (locs : List Loc), LI9 G adp adq h vs bt pt ky nv n B bt pt ky vq nq H → va_S (AL s) s.heap H locs → ∀ ls : Array Slot, lv_has ls 19 [(10, .int (zI (k : Int))), (9, .int (zI b9)), (8, .int (zI (opn (WE n B nv) k))), (6, .long (lI (T0 - las (XE n B nv) (WE n B nv) k))), (1, .ref (adp 0))] → W p l env room_1 s m args below meth c H locs (CB + 6 * k) (SB + 36 * k) Q (F0 m 519 ls []) := by
  have hx := X.1.1
  have hb := X.1.2.1
  have hts := X.1.2.2.2.2
  have hown := X.1.2.2.2.1
  have hK := X.2.1.1
  have hst := X.2.2.1
  have hA : ∀ q : Nat, AL s q → G.2.2 ≤ q := fun q hq => by rw [X.2.2.2.1]; exact hq
  have nms := hgp.nums
  have hbr := hgp.bar
  have ev := fun H (hI : LI9 G adp adq h vs bt pt ky nv n B bt pt ky vq nq H) => hI.1.evs
  intro w
  induction w with
  | zero => intro k k0 hm; omega
  | succ w ih =>
    intro k k0 hm b9 hb9 H locs hI hS ls hl
    have ev := ev H hI
    obtain ⟨⟨hM0, hM1⟩, hup, hrow, hop, hop0, hlas⟩ := ev
    have hok := hop k (by omega) k0
    refine lv_iload hx hb dL_law_519 (lv_at hl 0 rfl) ?_
    refine lv_aload_n hx hb dL_law_521 rfl (lv_at hl 4 rfl) ?_
    refine k_Wi (c_VW (As := []) (rest := [.int (zI (k : Int))]) X.1 X.2.1 hS hA (g_events (sz := H.size)) ⟨q_ml_RL_97, q_im_X2_events, q_sel_X2_events, q_ini_RX2, q_code_X2_events⟩ hv_X2_events (hI.1.rec hK) hI.1 ⟨Nat.le_of_ble_eq_true rfl, Nat.le_of_ble_eq_true rfl⟩ ⟨(by show CB + 6 * k + 0 ≤ 600064; omega), (by show SB + 36 * k + 0 ≤ 7301640; omega)⟩ rfl hl.1 rfl (Nat.le_of_ble_eq_true rfl) dL_law_522) hS (X.toP hS.1) (fun r H522 locs522 hq hz hk hS => ?_)
    obtain ⟨hr, hg⟩ := hq
    have hI := hI.toP X hg hk
    rw [hr]
    refine z_icmp_ge (a := (k : Int)) (b := ecT (ghA n) B nv) (tgt := 620) hx hb dL_law_525 (by decide) (by omega) (by omega) (fun h525 => ?_) (fun h525 => ?_)
    · skip
      have hke : (k : Int) = ecT (ghA n) B nv := by omega
      rw [hke, hop0, hlas, hT, Int.sub_self] at hl
      refine lv_iload hx hb dL_law_620 (lv_at hl 2 rfl) ?_
      refine z_if_ne (a := 0) (tgt := 636) hx hb dL_law_622 (by decide) (by decide) (fun h9 => absurd rfl h9) (fun _ => ?_)
      refine lv_lload hx hb dL_law_625 (lv_at hl 3 rfl) ?_
      refine lv_lconst (v := 0) hx hb dL_law_627 rfl ?_
      refine z_lcmp hx hb dL_law_628 ?_
      rw [show (0 : Int64) = lI 0 from rfl, lC_self]
      refine z_if_ne (a := 0) (tgt := 636) hx hb dL_law_629 (by decide) (by decide) (fun h9 => absurd rfl h9) (fun _ => ?_)
      refine z_iconst hx hb dL_law_632 ?_
      refine lv_goto (tgt := 637) hx hb dL_law_633 (by decide) ?_
      exact W.widen (k := CB + 9700) (n := SB + 58000) (by omega) (by omega) (ke _ _ hS ls)
    · skip
      have hk9 : (k : Int) < ecT (ghA n) B nv := by omega
      obtain ⟨hX9, hW9⟩ := hrow k (by omega) hk9
      refine lv_aload_n hx hb dL_law_528 rfl (lv_at hl 4 rfl) ?_
      refine lv_iload hx hb dL_law_529 (lv_at hl 0 rfl) ?_
      refine z_iconst hx hb dL_law_531 ?_
      refine k_Wi (c_VW (As := [.int (zI (k : Int)), .int (zI 0)]) (rest := []) X.1 X.2.1 hS hA (g_event (sz := H522.size) (i := (k : Int)) (w := 0) hst ⟨by omega, hk9⟩ (by omega) (by decide)) ⟨q_ml_RL_100, q_im_X2_event, q_sel_X2_event, q_ini_RX2, q_code_X2_event⟩ hv_X2_event (hI.1.rec hK) hI.1 ⟨Nat.le_of_ble_eq_true rfl, Nat.le_of_ble_eq_true rfl⟩ ⟨(by show CB + 6 * k + 0 + 1 ≤ 600064; omega), (by show SB + 36 * k + 0 + 6 ≤ 7301640; omega)⟩ rfl hl.1 rfl (Nat.le_of_ble_eq_true rfl) dL_law_532) hS (X.toP hS.1) (fun r H532 locs532 hq hz hk hS => ?_)
      obtain ⟨hr, hg⟩ := hq
      have hI := hI.toP X hg hk
      rw [show r = XE n B nv k from hr]
      refine lv_istore (lv' := [(11, .int (zI (XE n B nv k))), (10, .int (zI (k : Int))), (9, .int (zI b9)), (8, .int (zI (opn (WE n B nv) k))), (6, .long (lI (T0 - las (XE n B nv) (WE n B nv) k))), (1, .ref (adp 0))]) hx hb dL_law_535 hl (by decide) rfl (fun ls hl => ?_)
      refine lv_iload hx hb dL_law_537 (lv_at hl 0 rfl) ?_
      refine lv_iload hx hb dL_law_539 (lv_at hl 2 rfl) ?_
      refine z_icmp_ge (a := XE n B nv k) (b := b9) (tgt := 546) hx hb dL_law_541 (by decide) (by omega) (by omega) (fun _ => ?_) (fun h541 => absurd (hb9.2.2 hk9) h541)
      refine lv_iload hx hb dL_law_546 (lv_at hl 0 rfl) ?_
      refine lv_istore (lv' := [(9, .int (zI (XE n B nv k))), (11, .int (zI (XE n B nv k))), (10, .int (zI (k : Int))), (8, .int (zI (opn (WE n B nv) k))), (6, .long (lI (T0 - las (XE n B nv) (WE n B nv) k))), (1, .ref (adp 0))]) hx hb dL_law_548 hl (by decide) rfl (fun ls hl => ?_)
      refine lv_iload hx hb dL_law_550 (lv_at hl 3 rfl) ?_
      refine lv_aload_n hx hb dL_law_552 rfl (lv_at hl 5 rfl) ?_
      refine lv_iload hx hb dL_law_553 (lv_at hl 2 rfl) ?_
      refine z_iconst hx hb dL_law_555 ?_
      refine k_Wi (c_VW (As := [.int (zI (k : Int)), .int (zI 3)]) (rest := [.int (zI (opn (WE n B nv) k))]) X.1 X.2.1 hS hA (g_event (sz := H532.size) (i := (k : Int)) (w := 3) hst ⟨by omega, hk9⟩ (by omega) (by decide)) ⟨q_ml_RL_100, q_im_X2_event, q_sel_X2_event, q_ini_RX2, q_code_X2_event⟩ hv_X2_event (hI.1.rec hK) hI.1 ⟨Nat.le_of_ble_eq_true rfl, Nat.le_of_ble_eq_true rfl⟩ ⟨(by show CB + 6 * k + 0 + 1 + 1 ≤ 600064; omega), (by show SB + 36 * k + 0 + 6 + 6 ≤ 7301640; omega)⟩ rfl hl.1 rfl (Nat.le_of_ble_eq_true rfl) dL_law_556) hS (X.toP hS.1) (fun r H556 locs556 hq hz hk hS => ?_)
      obtain ⟨hr, hg⟩ := hq
      have hI := hI.toP X hg hk
      rw [show r = WE n B nv k from hr]
      refine z_iconst hx hb dL_law_559 ?_
      have J568 : ∀ x : Int, x = (if WE n B nv k = 1 then 1 else -1) → ∀ ls : Array Slot, lv_has ls 19 [(9, .int (zI (XE n B nv k))), (11, .int (zI (XE n B nv k))), (10, .int (zI (k : Int))), (8, .int (zI (opn (WE n B nv) k))), (6, .long (lI (T0 - las (XE n B nv) (WE n B nv) k))), (1, .ref (adp 0))] → W p l env room_1 s m args below meth c H556 locs556 (CB + 6 * k + 0 + 1 + 1) (SB + 36 * k + 0 + 6 + 6) Q (F0 m 568 ls [.int (zI x), .int (zI (opn (WE n B nv) k))]) := by
        intro x hxx ls hl
        refine z_iadd (x := opn (WE n B nv) k) (y := x) hx hb dL_law_568 ?_
        have hos : opn (WE n B nv) k + x = opn (WE n B nv) ((k : Int) + 1) := by rw [opn_s _ (by omega), hxx]
        rw [hos]
        refine lv_istore (lv' := [(8, .int (zI (opn (WE n B nv) ((k : Int) + 1)))), (9, .int (zI (XE n B nv k))), (11, .int (zI (XE n B nv k))), (10, .int (zI (k : Int))), (6, .long (lI (T0 - las (XE n B nv) (WE n B nv) k))), (1, .ref (adp 0))]) hx hb dL_law_569 hl (by decide) rfl (fun ls hl => ?_)
        refine lv_lload hx hb dL_law_571 (lv_at hl 4 rfl) ?_
        refine lv_aload_n hx hb dL_law_573 rfl (lv_at hl 5 rfl) ?_
        refine lv_iload hx hb dL_law_574 (lv_at hl 3 rfl) ?_
        refine z_iconst hx hb dL_law_576 ?_
        refine k_Wi (c_VW (As := [.int (zI (k : Int)), .int (zI 3)]) (rest := [.long (lI (T0 - las (XE n B nv) (WE n B nv) k))]) X.1 X.2.1 hS hA (g_event (sz := H556.size) (i := (k : Int)) (w := 3) hst ⟨by omega, hk9⟩ (by omega) (by decide)) ⟨q_ml_RL_100, q_im_X2_event, q_sel_X2_event, q_ini_RX2, q_code_X2_event⟩ hv_X2_event (hI.1.rec hK) hI.1 ⟨Nat.le_of_ble_eq_true rfl, Nat.le_of_ble_eq_true rfl⟩ ⟨(by show CB + 6 * k + 0 + 1 + 1 + 1 ≤ 600064; omega), (by show SB + 36 * k + 0 + 6 + 6 + 6 ≤ 7301640; omega)⟩ rfl hl.1 rfl (Nat.le_of_ble_eq_true rfl) dL_law_577) hS (X.toP hS.1) (fun r H577 locs577 hq hz hk hS => ?_)
        obtain ⟨hr, hg⟩ := hq
        have hI := hI.toP X hg hk
        rw [show r = WE n B nv k from hr]
        refine z_iconst hx hb dL_law_580 ?_
        have J594 : ∀ x : Int, x = (if WE n B nv k = 1 then -XE n B nv k else XE n B nv k) → ∀ ls : Array Slot, lv_has ls 19 [(8, .int (zI (opn (WE n B nv) ((k : Int) + 1)))), (9, .int (zI (XE n B nv k))), (11, .int (zI (XE n B nv k))), (10, .int (zI (k : Int))), (6, .long (lI (T0 - las (XE n B nv) (WE n B nv) k))), (1, .ref (adp 0))] → W p l env room_1 s m args below meth c H577 locs577 (CB + 6 * k + 0 + 1 + 1 + 1) (SB + 36 * k + 0 + 6 + 6 + 6) Q (F0 m 594 ls [.long (lI x), .long (lI (T0 - las (XE n B nv) (WE n B nv) k))]) := by
          intro x hxx ls hl
          refine lv_lsub hx hb dL_law_594 ?_
          rw [lI_sub, show T0 - las (XE n B nv) (WE n B nv) k - x = T0 - las (XE n B nv) (WE n B nv) ((k : Int) + 1) by rw [las_s _ _ (by omega), hxx]; omega]
          refine lv_lstore (lv' := [(6, .long (lI (T0 - las (XE n B nv) (WE n B nv) ((k : Int) + 1)))), (8, .int (zI (opn (WE n B nv) ((k : Int) + 1)))), (9, .int (zI (XE n B nv k))), (11, .int (zI (XE n B nv k))), (10, .int (zI (k : Int))), (1, .ref (adp 0))]) hx hb dL_law_595 hl (by decide) rfl (fun ls hl => ?_)
          have hop1 := hop ((k : Int) + 1) (by omega) (by omega)
          have fin : ∀ (C S9 : Nat) (H9 : Heap) (locs9 : List Loc), C ≤ CB + 6 * (k + 1) → S9 ≤ SB + 36 * (k + 1) → LI9 G adp adq h vs bt pt ky nv n B bt pt ky vq nq H9 → va_S (AL s) s.heap H9 locs9 → W p l env room_1 s m args below meth c H9 locs9 C S9 Q (F0 m 614 ls []) := by
            intro C S9 H9 locs9 c1 c2 hI hS
            refine z_iinc (lv' := [(10, .int (zI ((k : Int) + 1))), (6, .long (lI (T0 - las (XE n B nv) (WE n B nv) ((k : Int) + 1)))), (8, .int (zI (opn (WE n B nv) ((k : Int) + 1)))), (9, .int (zI (XE n B nv k))), (11, .int (zI (XE n B nv k))), (1, .ref (adp 0))]) hx hb dL_law_614 hl (k := 4) rfl (by decide) rfl (fun ls hl => ?_)
            refine lv_goto (tgt := 519) hx hb dL_law_617 (by decide) ?_
            refine W.widen (k := CB + 6 * (k + 1)) (n := SB + 36 * (k + 1)) (by omega) (by omega) (ih (k + 1) (by omega) (by omega) (XE n B nv k) ⟨by omega, by omega, fun z => hup k (by omega) (by omega)⟩ H9 locs9 hI hS ls ?_)
            rw [show ((k + 1 : Nat) : Int) = (k : Int) + 1 by omega]
            exact (lv_sub hl [0, 3, 2, 1, 5] rfl)
          refine lv_iload hx hb dL_law_597 (lv_at hl 1 rfl) ?_
          refine z_if_lt (a := opn (WE n B nv) ((k : Int) + 1)) (tgt := 612) hx hb dL_law_599 (by decide) (by omega) (fun h9 => absurd h9 (by omega)) (fun _ => ?_)
          refine lv_iload hx hb dL_law_602 (lv_at hl 1 rfl) ?_
          refine lv_aload_n hx hb dL_law_604 rfl (lv_at hl 5 rfl) ?_
          refine z_iconst hx hb dL_law_605 ?_
          refine k_Wi (c_VW (As := [.int (zI 0)]) (rest := [.int (zI (opn (WE n B nv) ((k : Int) + 1)))]) X.1 X.2.1 hS hA (g_score (sz := H577.size) (w := 0) hst (by decide)) ⟨q_ml_RL_80, q_im_X2_score, q_sel_X2_score, q_ini_RX2, q_code_X2_score⟩ hv_X2_score (hI.1.rec hK) hI.1 ⟨Nat.le_of_ble_eq_true rfl, Nat.le_of_ble_eq_true rfl⟩ ⟨(by show CB + 6 * k + 0 + 1 + 1 + 1 + 1 ≤ 600064; omega), (by show SB + 36 * k + 0 + 6 + 6 + 6 + 6 ≤ 7301640; omega)⟩ rfl hl.1 rfl (Nat.le_of_ble_eq_true rfl) dL_law_606) hS (X.toP hS.1) (fun r H606 locs606 hq hz hk hS => ?_)
          obtain ⟨hr, hg⟩ := hq
          have hI := hI.toP X hg hk
          rw [show r = nv from hr]
          refine z_icmp_le (a := opn (WE n B nv) ((k : Int) + 1)) (b := nv) (tgt := 614) hx hb dL_law_609 (by decide) (by omega) (by omega) (fun _ => ?_) (fun h9 => absurd hop1.2 h9)
          exact fin _ _ _ _ (by omega) (by omega) hI hS
        refine z_icmp_ne (a := WE n B nv k) (b := 1) (tgt := 591) hx hb dL_law_581 (by decide) (by omega) (by decide) (fun h9 => ?_) (fun h9 => ?_)
        · skip
          refine lv_iload hx hb dL_law_591 (lv_at hl 2 rfl) ?_
          refine lv_i2l (v := lI (XE n B nv k)) hx hb dL_law_593 (lI_z (by omega)) ?_
          exact J594 (XE n B nv k) (by rw [if_neg h9]) ls hl
        · skip
          refine lv_iload hx hb dL_law_584 (lv_at hl 2 rfl) ?_
          refine z_ineg (x := XE n B nv k) hx hb dL_law_586 ?_
          refine lv_i2l (v := lI (-XE n B nv k)) hx hb dL_law_587 (lI_z (by omega)) ?_
          refine lv_goto (tgt := 594) hx hb dL_law_588 (by decide) ?_
          exact J594 (-XE n B nv k) (by rw [if_pos h9]) ls hl
      refine z_icmp_ne (a := WE n B nv k) (b := 1) (tgt := 567) hx hb dL_law_560 (by decide) (by omega) (by decide) (fun h9 => ?_) (fun h9 => ?_)
      · skip
        refine z_iconst hx hb dL_law_567 ?_
        exact J568 (-1) (by rw [if_neg h9]) ls hl
      · skip
        refine z_iconst hx hb dL_law_563 ?_
        refine lv_goto (tgt := 568) hx hb dL_law_564 (by decide) ?_
        exact J568 1 (by rw [if_pos h9]) ls hl
set_option maxHeartbeats 8000000 in
theorem law_inner (X : LX9 p l s m args c G adp adq h) (hgp : GP bt pt ky nv n B) (hZ : RZ n B) (hnv : 1 ≤ nv ∧ nv ≤ 3) {v sn T0 : Int} (hv : 0 ≤ v ∧ v < nv) (hCB : CB + 10100 ≤ 600064) (hSB : SB + 60700 ≤ 7301640)
    (ke : ∀ (H : Heap) (locs : List Loc), LI9 G adp adq h vs bt pt ky nv n B bt pt ky (v + 1) (nQ n v (n v)) H → va_S (AL s) s.heap H locs → ∀ ls : Array Slot, lv_has ls 19 [(10, .int (zI (stC (gM (fmB bt pt ky nv) (ghA n) B v) (n v) - 1))), (9, .int (zI (bgM B v (n v)))), (6, .long (lI (T0 + mtV B v (n v)))), (8, .int (zI v)), (5, .int (zI sn)), (4, .int (zI (bt * 384 / pt))), (3, .ref (adq 0)), (2, .ref h), (1, .ref (adp 0))] → W p l env room_1 s m args below meth c H locs (CB + 10060) (SB + 60400) Q (F0 m 451 ls [])) :
    ∀ (w e : Nat), (e : Int) ≤ n v → n v - e < w → ∀ (H : Heap) (locs : List Loc), LI9 G adp adq h vs bt pt ky nv n B bt pt ky (v + 1) (nQ n v e) H → va_S (AL s) s.heap H locs → ∀ ls : Array Slot, lv_has ls 19 [(11, .int (zI ((e : Int)))), (10, .int (zI (stC (gM (fmB bt pt ky nv) (ghA n) B v) ((e : Int)) - 1))), (9, .int (zI (bgM B v ((e : Int))))), (6, .long (lI (T0 + mtV B v ((e : Int))))), (8, .int (zI v)), (5, .int (zI sn)), (4, .int (zI (bt * 384 / pt))), (3, .ref (adq 0)), (2, .ref h), (1, .ref (adp 0))] → W p l env room_1 s m args below meth c H locs (CB + 50 * e) (SB + 300 * e) Q (F0 m 105 ls []) := by
  have hx := X.1.1
  have hb := X.1.2.1
  have hts := X.1.2.2.2.2
  have hown := X.1.2.2.2.1
  have hK := X.2.1.1
  have hst := X.2.2.1
  have hA : ∀ q : Nat, AL s q → G.2.2 ≤ q := fun q hq => by rw [X.2.2.2.1]; exact hq
  have nms := hgp.nums
  have hbr := hgp.bar
  have hM := hgp.1
  have hv4 : 0 ≤ v ∧ v < 4 := by omega
  have hmn := hgp.many hv4
  intro w
  induction w with
  | zero => intro e e0 hm; omega
  | succ w ih =>
    intro e e0 hm H locs hI hS ls hl
    refine lv_iload hx hb dL_law_105 (lv_at hl 0 rfl) ?_
    refine lv_aload_n hx hb dL_law_107 rfl (lv_at hl 9 rfl) ?_
    refine lv_iload hx hb dL_law_108 (lv_at hl 4 rfl) ?_
    refine z_iconst hx hb dL_law_110 ?_
    refine k_Wi (c_VW (As := [.int (zI v), .int (zI 0)]) (rest := [.int (zI ((e : Int)))]) X.1 X.2.1 hS hA (g_voice (sz := H.size) (v := v) (w := 0) hst hv (by decide)) ⟨q_ml_RL_83, q_im_X2_voice, q_sel_X2_voice, q_ini_RX2, q_code_X2_voice⟩ hv_X2_voice (hI.1.rec hK) hI.1 ⟨Nat.le_of_ble_eq_true rfl, Nat.le_of_ble_eq_true rfl⟩ ⟨(by show CB + 50 * e + 2 ≤ 600064; omega), (by show SB + 300 * e + 12 ≤ 7301640; omega)⟩ rfl hl.1 rfl (Nat.le_of_ble_eq_true rfl) dL_law_111) hS (X.toP hS.1) (fun r H111 locs111 hq hz hk hS => ?_)
    obtain ⟨hr, hg⟩ := hq
    have hI := hI.toP X hg hk
    rw [show r = n v from hr]
    refine z_icmp_ge (a := (e : Int)) (b := n v) (tgt := 451) hx hb dL_law_114 (by decide) (by omega) (by omega) (fun h114 => ?_) (fun h114 => ?_)
    · skip
      have hee : (e : Int) = n v := by omega
      rw [hee] at hl hI
      exact W.widen (k := CB + 10060) (n := SB + 60400) (by omega) (by omega) (ke _ _ hI hS ls (lv_sub hl [1, 2, 3, 4, 5, 6, 7, 8, 9] rfl))
    · skip
      have he : 0 ≤ (e : Int) ∧ (e : Int) < n v := by omega
      have hVK := (hM.2.2.2.2 v hv4.1 hv4.2).2 e he.1 he.2
      obtain ⟨x, hx9, hpx, hdx⟩ := hVK.1
      have hel := hM.el hv4 (e := (e : Int)) he
      have vt := valT_rng hx9
      have vp := valP_rng hx9
      have vd := valD_rng hx9
      obtain ⟨hnt, hrt, hsb⟩ := (hgp.2.1 v hv4.1 hv4.2).2 e he.1 he.2
      have hbg := hgp.bg (v := v) (e := (e : Int)) hv4 ⟨he.1, by omega⟩
      have hbg1 := hgp.bg (v := v) (e := (e : Int) + 1) hv4 ⟨by omega, by omega⟩
      have hTk : mTk B v e = valT x := by unfold mTk; rw [← hpx, ← hdx]; exact tkO_val hx9
      have hbs : bgM B v ((e : Int) + 1) = bgM B v e + valT x := by rw [bgM_s B v he.1, hTk]
      have hmt : mtV B v ((e : Int) + 1) = mtV B v e + mtE B v e := pf_s _ _ he.1
      have tn9 := mTn_rng hM hv4 (e := (e : Int)) he
      have tr : B v (10 * (e : Int) + 2) = 0 → mTn B v e = -1 := fun q => by unfold mTn; rw [if_pos q]
      have ti9 : B v (10 * (e : Int) + 6) = 0 ∨ B v (10 * (e : Int) + 6) = 1 := by omega
      have hgg : ∀ i, gM (fmB bt pt ky nv) (ghA n) B v i → 0 ≤ i := fun i z => z.1
      have hst9 := bm_step hgg e
      have hsl := stC_le (g := gM (fmB bt pt ky nv) (ghA n) B v) e
      have hsl1 := stC_le (g := gM (fmB bt pt ky nv) (ghA n) B v) (e + 1)
      rw [show ((e + 1 : Nat) : Int) = (e : Int) + 1 by omega] at hsl1
      have hcb : (gM (fmB bt pt ky nv) (ghA n) B v ((e : Int) - 1) ∨ gM (fmB bt pt ky nv) (ghA n) B v e) → B v (10 * (e : Int) + 2) = 1 ∧ 8 ≤ B v (10 * (e : Int) + 0) := fun z => by
        rcases z with z | z
        · have q := z.2.2.2.1; rw [show (e : Int) - 1 + 1 = (e : Int) by omega] at q; exact q
        · exact z.2.2.1
      have hE1 : elP (fmB bt pt ky nv) (ghA n) B h00 v e 1 = valT x := hTk
      have hE2 : elP (fmB bt pt ky nv) (ghA n) B h00 v e 2 = valP x := hpx.symm
      have hE3 : elP (fmB bt pt ky nv) (ghA n) B h00 v e 3 = valD x := hdx.symm
      refine lv_aload_n hx hb dL_law_117 rfl (lv_at hl 9 rfl) ?_
      refine lv_iload hx hb dL_law_118 (lv_at hl 4 rfl) ?_
      refine lv_iload hx hb dL_law_120 (lv_at hl 0 rfl) ?_
      refine z_iconst hx hb dL_law_122 ?_
      refine k_Wi (c_VW (As := [.int (zI v), .int (zI ((e : Int))), .int (zI 1)]) (rest := []) X.1 X.2.1 hS hA (g_element (sz := H111.size) (v := v) (i := (e : Int)) (w := 1) hst hv he (by decide) (by omega)) ⟨q_ml_RL_86, q_im_X2_element, q_sel_X2_element, q_ini_RX2, q_code_X2_element⟩ hv_X2_element (hI.1.rec hK) hI.1 ⟨Nat.le_of_ble_eq_true rfl, Nat.le_of_ble_eq_true rfl⟩ ⟨(by show CB + 50 * e + 2 + 3 ≤ 600064; omega), (by show SB + 300 * e + 12 + 18 ≤ 7301640; omega)⟩ rfl hl.1 rfl (Nat.le_of_ble_eq_true rfl) dL_law_123) hS (X.toP hS.1) (fun r H123 locs123 hq hz hk hS => ?_)
      obtain ⟨hr, hg⟩ := hq
      have hI := hI.toP X hg hk
      rw [hr.trans hE1]
      refine lv_istore (lv' := [(12, .int (zI (valT x))), (11, .int (zI ((e : Int)))), (10, .int (zI (stC (gM (fmB bt pt ky nv) (ghA n) B v) ((e : Int)) - 1))), (9, .int (zI (bgM B v ((e : Int))))), (6, .long (lI (T0 + mtV B v ((e : Int))))), (8, .int (zI v)), (5, .int (zI sn)), (4, .int (zI (bt * 384 / pt))), (3, .ref (adq 0)), (2, .ref h), (1, .ref (adp 0))]) hx hb dL_law_126 hl (by decide) rfl (fun ls hl => ?_)
      refine lv_aload_n hx hb dL_law_128 rfl (lv_at hl 10 rfl) ?_
      refine lv_iload hx hb dL_law_129 (lv_at hl 5 rfl) ?_
      refine lv_iload hx hb dL_law_131 (lv_at hl 1 rfl) ?_
      refine z_iconst hx hb dL_law_133 ?_
      refine k_Wi (c_VW (As := [.int (zI v), .int (zI ((e : Int))), .int (zI 2)]) (rest := []) X.1 X.2.1 hS hA (g_element (sz := H123.size) (v := v) (i := (e : Int)) (w := 2) hst hv he (by decide) (by omega)) ⟨q_ml_RL_86, q_im_X2_element, q_sel_X2_element, q_ini_RX2, q_code_X2_element⟩ hv_X2_element (hI.1.rec hK) hI.1 ⟨Nat.le_of_ble_eq_true rfl, Nat.le_of_ble_eq_true rfl⟩ ⟨(by show CB + 50 * e + 2 + 3 + 3 ≤ 600064; omega), (by show SB + 300 * e + 12 + 18 + 18 ≤ 7301640; omega)⟩ rfl hl.1 rfl (Nat.le_of_ble_eq_true rfl) dL_law_134) hS (X.toP hS.1) (fun r H134 locs134 hq hz hk hS => ?_)
      obtain ⟨hr, hg⟩ := hq
      have hI := hI.toP X hg hk
      rw [hr.trans hE2]
      refine lv_istore (lv' := [(13, .int (zI (valP x))), (12, .int (zI (valT x))), (11, .int (zI ((e : Int)))), (10, .int (zI (stC (gM (fmB bt pt ky nv) (ghA n) B v) ((e : Int)) - 1))), (9, .int (zI (bgM B v ((e : Int))))), (6, .long (lI (T0 + mtV B v ((e : Int))))), (8, .int (zI v)), (5, .int (zI sn)), (4, .int (zI (bt * 384 / pt))), (3, .ref (adq 0)), (2, .ref h), (1, .ref (adp 0))]) hx hb dL_law_137 hl (by decide) rfl (fun ls hl => ?_)
      refine lv_aload_n hx hb dL_law_139 rfl (lv_at hl 11 rfl) ?_
      refine lv_iload hx hb dL_law_140 (lv_at hl 6 rfl) ?_
      refine lv_iload hx hb dL_law_142 (lv_at hl 2 rfl) ?_
      refine z_iconst hx hb dL_law_144 ?_
      refine k_Wi (c_VW (As := [.int (zI v), .int (zI ((e : Int))), .int (zI 3)]) (rest := []) X.1 X.2.1 hS hA (g_element (sz := H134.size) (v := v) (i := (e : Int)) (w := 3) hst hv he (by decide) (by omega)) ⟨q_ml_RL_86, q_im_X2_element, q_sel_X2_element, q_ini_RX2, q_code_X2_element⟩ hv_X2_element (hI.1.rec hK) hI.1 ⟨Nat.le_of_ble_eq_true rfl, Nat.le_of_ble_eq_true rfl⟩ ⟨(by show CB + 50 * e + 2 + 3 + 3 + 3 ≤ 600064; omega), (by show SB + 300 * e + 12 + 18 + 18 + 18 ≤ 7301640; omega)⟩ rfl hl.1 rfl (Nat.le_of_ble_eq_true rfl) dL_law_145) hS (X.toP hS.1) (fun r H145 locs145 hq hz hk hS => ?_)
      obtain ⟨hr, hg⟩ := hq
      have hI := hI.toP X hg hk
      rw [hr.trans hE3]
      refine lv_istore (lv' := [(14, .int (zI (valD x))), (13, .int (zI (valP x))), (12, .int (zI (valT x))), (11, .int (zI ((e : Int)))), (10, .int (zI (stC (gM (fmB bt pt ky nv) (ghA n) B v) ((e : Int)) - 1))), (9, .int (zI (bgM B v ((e : Int))))), (6, .long (lI (T0 + mtV B v ((e : Int))))), (8, .int (zI v)), (5, .int (zI sn)), (4, .int (zI (bt * 384 / pt))), (3, .ref (adq 0)), (2, .ref h), (1, .ref (adp 0))]) hx hb dL_law_148 hl (by decide) rfl (fun ls hl => ?_)
      refine lv_aload_n hx hb dL_law_150 rfl (lv_at hl 12 rfl) ?_
      refine lv_iload hx hb dL_law_151 (lv_at hl 7 rfl) ?_
      refine lv_iload hx hb dL_law_153 (lv_at hl 3 rfl) ?_
      refine z_iconst hx hb dL_law_155 ?_
      refine k_Wi (c_VW (As := [.int (zI v), .int (zI ((e : Int))), .int (zI 4)]) (rest := []) X.1 X.2.1 hS hA (g_element (sz := H145.size) (v := v) (i := (e : Int)) (w := 4) hst hv he (by decide) (by omega)) ⟨q_ml_RL_86, q_im_X2_element, q_sel_X2_element, q_ini_RX2, q_code_X2_element⟩ hv_X2_element (hI.1.rec hK) hI.1 ⟨Nat.le_of_ble_eq_true rfl, Nat.le_of_ble_eq_true rfl⟩ ⟨(by show CB + 50 * e + 2 + 3 + 3 + 3 + 3 ≤ 600064; omega), (by show SB + 300 * e + 12 + 18 + 18 + 18 + 18 ≤ 7301640; omega)⟩ rfl hl.1 rfl (Nat.le_of_ble_eq_true rfl) dL_law_156) hS (X.toP hS.1) (fun r H156 locs156 hq hz hk hS => ?_)
      obtain ⟨hr, hg⟩ := hq
      have hI := hI.toP X hg hk
      rw [show r = mTn B v e from hr]
      refine lv_istore (lv' := [(15, .int (zI (mTn B v e))), (14, .int (zI (valD x))), (13, .int (zI (valP x))), (12, .int (zI (valT x))), (11, .int (zI ((e : Int)))), (10, .int (zI (stC (gM (fmB bt pt ky nv) (ghA n) B v) ((e : Int)) - 1))), (9, .int (zI (bgM B v ((e : Int))))), (6, .long (lI (T0 + mtV B v ((e : Int))))), (8, .int (zI v)), (5, .int (zI sn)), (4, .int (zI (bt * 384 / pt))), (3, .ref (adq 0)), (2, .ref h), (1, .ref (adp 0))]) hx hb dL_law_159 hl (by decide) rfl (fun ls hl => ?_)
      refine lv_aload_n hx hb dL_law_161 rfl (lv_at hl 13 rfl) ?_
      refine lv_iload hx hb dL_law_162 (lv_at hl 8 rfl) ?_
      refine lv_iload hx hb dL_law_164 (lv_at hl 4 rfl) ?_
      refine z_iconst hx hb dL_law_166 ?_
      refine k_Wi (c_VW (As := [.int (zI v), .int (zI ((e : Int))), .int (zI 5)]) (rest := []) X.1 X.2.1 hS hA (g_element (sz := H156.size) (v := v) (i := (e : Int)) (w := 5) hst hv he (by decide) (by omega)) ⟨q_ml_RL_86, q_im_X2_element, q_sel_X2_element, q_ini_RX2, q_code_X2_element⟩ hv_X2_element (hI.1.rec hK) hI.1 ⟨Nat.le_of_ble_eq_true rfl, Nat.le_of_ble_eq_true rfl⟩ ⟨(by show CB + 50 * e + 2 + 3 + 3 + 3 + 3 + 3 ≤ 600064; omega), (by show SB + 300 * e + 12 + 18 + 18 + 18 + 18 + 18 ≤ 7301640; omega)⟩ rfl hl.1 rfl (Nat.le_of_ble_eq_true rfl) dL_law_167) hS (X.toP hS.1) (fun r H167 locs167 hq hz hk hS => ?_)
      obtain ⟨hr, hg⟩ := hq
      have hI := hI.toP X hg hk
      rw [show r = B v (10 * (e : Int) + 6) from hr]
      refine z_iconst hx hb dL_law_170 ?_
      refine z_b2 hx hb ti9 dL_law_171 dL_law_174 dL_law_175 dL_law_178 ?_
      refine lv_istore (lv' := [(16, .int (zI (B v (10 * (e : Int) + 6)))), (15, .int (zI (mTn B v e))), (14, .int (zI (valD x))), (13, .int (zI (valP x))), (12, .int (zI (valT x))), (11, .int (zI ((e : Int)))), (10, .int (zI (stC (gM (fmB bt pt ky nv) (ghA n) B v) ((e : Int)) - 1))), (9, .int (zI (bgM B v ((e : Int))))), (6, .long (lI (T0 + mtV B v ((e : Int))))), (8, .int (zI v)), (5, .int (zI sn)), (4, .int (zI (bt * 384 / pt))), (3, .ref (adq 0)), (2, .ref h), (1, .ref (adp 0))]) hx hb dL_law_179 hl (by decide) rfl (fun ls hl => ?_)
      refine lv_aload_n hx hb dL_law_181 rfl (lv_at hl 14 rfl) ?_
      refine lv_iload hx hb dL_law_182 (lv_at hl 9 rfl) ?_
      refine lv_iload hx hb dL_law_184 (lv_at hl 5 rfl) ?_
      refine z_iconst hx hb dL_law_186 ?_
      refine k_Wi (c_VW (As := [.int (zI v), .int (zI ((e : Int))), .int (zI 0)]) (rest := []) X.1 X.2.1 hS hA (g_element (sz := H167.size) (v := v) (i := (e : Int)) (w := 0) hst hv he (by decide) (by omega)) ⟨q_ml_RL_86, q_im_X2_element, q_sel_X2_element, q_ini_RX2, q_code_X2_element⟩ hv_X2_element (hI.1.rec hK) hI.1 ⟨Nat.le_of_ble_eq_true rfl, Nat.le_of_ble_eq_true rfl⟩ ⟨(by show CB + 50 * e + 2 + 3 + 3 + 3 + 3 + 3 + 3 ≤ 600064; omega), (by show SB + 300 * e + 12 + 18 + 18 + 18 + 18 + 18 + 18 ≤ 7301640; omega)⟩ rfl hl.1 rfl (Nat.le_of_ble_eq_true rfl) dL_law_187) hS (X.toP hS.1) (fun r H187 locs187 hq hz hk hS => ?_)
      obtain ⟨hr, hg⟩ := hq
      have hI := hI.toP X hg hk
      rw [show r = bgM B v e from hr]
      refine lv_iload hx hb dL_law_190 (lv_at hl 7 rfl) ?_
      refine z_icmp_ne (a := bgM B v e) (b := bgM B v e) (tgt := 236) hx hb dL_law_192 (by decide) (by omega) (by omega) (fun h9 => absurd rfl h9) (fun _ => ?_)
      refine lv_iload hx hb dL_law_195 (lv_at hl 4 rfl) ?_
      refine lv_aload_n hx hb dL_law_197 rfl (lv_at hl 14 rfl) ?_
      refine lv_iload hx hb dL_law_198 (lv_at hl 3 rfl) ?_
      refine lv_iload hx hb dL_law_200 (lv_at hl 2 rfl) ?_
      refine k_Wi (c_VW (As := [.int (zI (valP x)), .int (zI (valD x))]) (rest := [.int (zI (valT x))]) X.1 X.2.1 hS hA (g_ticks (sz := H187.size) hst hx9) ⟨q_ml_RL_89, q_im_X2_ticks, q_sel_X2_ticks, q_ini_RX2, q_code_X2_ticks⟩ hv_X2_ticks (hI.1.rec hK) hI.1 ⟨Nat.le_of_ble_eq_true rfl, Nat.le_of_ble_eq_true rfl⟩ ⟨(by show CB + 50 * e + 2 + 3 + 3 + 3 + 3 + 3 + 3 + 1 ≤ 600064; omega), (by show SB + 300 * e + 12 + 18 + 18 + 18 + 18 + 18 + 18 + 6 ≤ 7301640; omega)⟩ rfl hl.1 rfl (Nat.le_of_ble_eq_true rfl) dL_law_202) hS (X.toP hS.1) (fun r H202 locs202 hq hz hk hS => ?_)
      obtain ⟨hr, hg⟩ := hq
      have hI := hI.toP X hg hk
      rw [hr]
      refine z_icmp_ne (a := valT x) (b := valT x) (tgt := 236) hx hb dL_law_205 (by decide) (by omega) (by omega) (fun h9 => absurd rfl h9) (fun _ => ?_)
      have J354 : ∀ (C S9 : Nat) (H9 : Heap) (locs9 : List Loc), C ≤ CB + 50 * e + 36 → S9 ≤ SB + 300 * e + 216 → LI9 G adp adq h vs bt pt ky nv n B bt pt ky (v + 1) (nQ n v e) H9 → va_S (AL s) s.heap H9 locs9 → ∀ ls : Array Slot, lv_has ls 19 [(16, .int (zI (B v (10 * (e : Int) + 6)))), (15, .int (zI (mTn B v e))), (14, .int (zI (valD x))), (13, .int (zI (valP x))), (12, .int (zI (valT x))), (11, .int (zI ((e : Int)))), (10, .int (zI (stC (gM (fmB bt pt ky nv) (ghA n) B v) ((e : Int) + 1) - 1))), (9, .int (zI (bgM B v ((e : Int))))), (6, .long (lI (T0 + mtV B v ((e : Int))))), (8, .int (zI v)), (5, .int (zI sn)), (4, .int (zI (bt * 384 / pt))), (3, .ref (adq 0)), (2, .ref h), (1, .ref (adp 0))] → W p l env room_1 s m args below meth c H9 locs9 C S9 Q (F0 m 354 ls []) := by
        intro C S9 H9 locs9 c1 c2 hI hS ls hl
        refine W.widen (k := CB + 50 * e + 36) (n := SB + 300 * e + 216) c1 c2 ?_
        refine lv_iload hx hb dL_law_354 (lv_at hl 7 rfl) ?_
        refine lv_iload hx hb dL_law_356 (lv_at hl 4 rfl) ?_
        refine z_iadd (x := bgM B v e) (y := valT x) hx hb dL_law_358 ?_
        rw [← hbs]
        refine lv_istore (lv' := [(9, .int (zI (bgM B v ((e : Int) + 1)))), (16, .int (zI (B v (10 * (e : Int) + 6)))), (15, .int (zI (mTn B v e))), (14, .int (zI (valD x))), (13, .int (zI (valP x))), (12, .int (zI (valT x))), (11, .int (zI ((e : Int)))), (10, .int (zI (stC (gM (fmB bt pt ky nv) (ghA n) B v) ((e : Int) + 1) - 1))), (6, .long (lI (T0 + mtV B v ((e : Int))))), (8, .int (zI v)), (5, .int (zI sn)), (4, .int (zI (bt * 384 / pt))), (3, .ref (adq 0)), (2, .ref h), (1, .ref (adp 0))]) hx hb dL_law_359 hl (by decide) rfl (fun ls hl => ?_)
        refine lv_lload hx hb dL_law_361 (lv_at hl 8 rfl) ?_
        have J375 : ∀ dl : Int64, dl = lI (mtE B v e) → ∀ ls : Array Slot, lv_has ls 19 [(9, .int (zI (bgM B v ((e : Int) + 1)))), (16, .int (zI (B v (10 * (e : Int) + 6)))), (15, .int (zI (mTn B v e))), (14, .int (zI (valD x))), (13, .int (zI (valP x))), (12, .int (zI (valT x))), (11, .int (zI ((e : Int)))), (10, .int (zI (stC (gM (fmB bt pt ky nv) (ghA n) B v) ((e : Int) + 1) - 1))), (6, .long (lI (T0 + mtV B v ((e : Int))))), (8, .int (zI v)), (5, .int (zI sn)), (4, .int (zI (bt * 384 / pt))), (3, .ref (adq 0)), (2, .ref h), (1, .ref (adp 0))] → W p l env room_1 s m args below meth c H9 locs9 (CB + 50 * e + 36) (SB + 300 * e + 216) Q (F0 m 375 ls [.long dl, .long (lI (T0 + mtV B v ((e : Int))))]) := by
          intro dl hdl ls hl
          refine lv_ladd hx hb dL_law_375 ?_
          rw [hdl, lI_add, show T0 + mtV B v e + mtE B v e = T0 + mtV B v ((e : Int) + 1) by omega]
          refine lv_lstore (lv' := [(6, .long (lI (T0 + mtV B v ((e : Int) + 1)))), (9, .int (zI (bgM B v ((e : Int) + 1)))), (16, .int (zI (B v (10 * (e : Int) + 6)))), (15, .int (zI (mTn B v e))), (14, .int (zI (valD x))), (13, .int (zI (valP x))), (12, .int (zI (valT x))), (11, .int (zI ((e : Int)))), (10, .int (zI (stC (gM (fmB bt pt ky nv) (ghA n) B v) ((e : Int) + 1) - 1))), (8, .int (zI v)), (5, .int (zI sn)), (4, .int (zI (bt * 384 / pt))), (3, .ref (adq 0)), (2, .ref h), (1, .ref (adp 0))]) hx hb dL_law_376 hl (by decide) rfl (fun ls hl => ?_)
          have J435 : ∀ (C S9 : Nat) (H9 : Heap) (locs9 : List Loc), C ≤ CB + 50 * (e + 1) → S9 ≤ SB + 300 * (e + 1) → LI9 G adp adq h vs bt pt ky nv n B bt pt ky (v + 1) (nQ n v ((e : Int) + 1)) H9 → va_S (AL s) s.heap H9 locs9 → W p l env room_1 s m args below meth c H9 locs9 C S9 Q (F0 m 435 ls [.int (zI 1)]) := by
            intro C S9 H9 locs9 c1 c2 hI hS
            refine lv_istore (lv' := [(18, .int (zI 1)), (6, .long (lI (T0 + mtV B v ((e : Int) + 1)))), (9, .int (zI (bgM B v ((e : Int) + 1)))), (16, .int (zI (B v (10 * (e : Int) + 6)))), (15, .int (zI (mTn B v e))), (14, .int (zI (valD x))), (13, .int (zI (valP x))), (12, .int (zI (valT x))), (11, .int (zI ((e : Int)))), (10, .int (zI (stC (gM (fmB bt pt ky nv) (ghA n) B v) ((e : Int) + 1) - 1))), (8, .int (zI v)), (5, .int (zI sn)), (4, .int (zI (bt * 384 / pt))), (3, .ref (adq 0)), (2, .ref h), (1, .ref (adp 0))]) hx hb dL_law_435 hl (by decide) rfl (fun ls hl => ?_)
            refine lv_iload hx hb dL_law_437 (lv_at hl 0 rfl) ?_
            refine z_iconst hx hb dL_law_439 ?_
            refine z_icmp_eq (a := 1) (b := 1) (tgt := 445) hx hb dL_law_440 (by decide) (by decide) (by decide) (fun _ => ?_) (fun h9 => absurd rfl h9)
            refine z_iinc (lv' := [(11, .int (zI ((e : Int) + 1))), (18, .int (zI 1)), (6, .long (lI (T0 + mtV B v ((e : Int) + 1)))), (9, .int (zI (bgM B v ((e : Int) + 1)))), (16, .int (zI (B v (10 * (e : Int) + 6)))), (15, .int (zI (mTn B v e))), (14, .int (zI (valD x))), (13, .int (zI (valP x))), (12, .int (zI (valT x))), (10, .int (zI (stC (gM (fmB bt pt ky nv) (ghA n) B v) ((e : Int) + 1) - 1))), (8, .int (zI v)), (5, .int (zI sn)), (4, .int (zI (bt * 384 / pt))), (3, .ref (adq 0)), (2, .ref h), (1, .ref (adp 0))]) hx hb dL_law_445 hl (k := 8) rfl (by decide) rfl (fun ls hl => ?_)
            refine lv_goto (tgt := 105) hx hb dL_law_448 (by decide) ?_
            refine W.widen (k := CB + 50 * (e + 1)) (n := SB + 300 * (e + 1)) c1 c2 (ih (e + 1) (by omega) (by omega) H9 locs9 ?_ hS ls ?_)
            · rw [show ((e + 1 : Nat) : Int) = (e : Int) + 1 by omega]; exact hI
            · rw [show ((e + 1 : Nat) : Int) = (e : Int) + 1 by omega]
              exact (lv_sub hl [0, 9, 3, 2, 10, 11, 12, 13, 14, 15] rfl)
          have hq0 := nQ_at n v e
          have lb := lw_B (b := bt * 384 / pt) (fr := bgM B v e) (v := v) (e0 := (e : Int)) (B := B) hq0 hx9 ⟨hbr.1, hbr.2.2⟩ ⟨hbg.1, hbg.2.2⟩ hpx.symm hdx.symm (by rw [← hbs]; exact hsb.symm)
          have hfl : nQ n v e v + 1 ≤ 200 ∧ bgM B v e + valT x ≤ 100 * (bt * 384 / pt) := by
            have a := (hgp.2.1 v hv4.1 hv4.2).1
            rw [hq0, ← hbs]
            refine ⟨by omega, ?_⟩
            rcases (by omega : (e : Int) + 1 = n v ∨ (e : Int) + 1 < n v) with z | z
            · rw [z]; exact a
            · have := bg_lt hM hv4 ((e : Int) + 1) (n v) (by omega) z (Int.le_refl _); omega
          have hfr : bgM B v e = bgM B v (nQ n v e v) := by rw [hq0]
          have hup := nQ_up n v e
          refine lv_iload hx hb dL_law_378 (lv_at hl 3 rfl) ?_
          refine z_if_ge (a := mTn B v e) (tgt := 396) hx hb dL_law_380 (by decide) (by omega) (fun h380 => ?_) (fun h380 => ?_)
          · skip
            have h2 : B v (10 * (e : Int) + 2) = 1 := by have := fun z => tr z; omega
            refine lv_aload_n hx hb dL_law_396 rfl (lv_at hl 12 rfl) ?_
            refine lv_iload hx hb dL_law_397 (lv_at hl 9 rfl) ?_
            refine lv_iload hx hb dL_law_399 (lv_at hl 5 rfl) ?_
            refine lv_iload hx hb dL_law_401 (lv_at hl 4 rfl) ?_
            refine lv_aload_n hx hb dL_law_403 rfl (lv_at hl 14 rfl) ?_
            refine lv_iload hx hb dL_law_404 (lv_at hl 9 rfl) ?_
            refine lv_iload hx hb dL_law_406 (lv_at hl 7 rfl) ?_
            refine z_iconst hx hb dL_law_408 ?_
            refine k_Wi (c_VW (As := [.int (zI v), .int (zI (e : Int)), .int (zI 0)]) (rest := [.int (zI (valD x)), .int (zI (valP x)), .int (zI v), .ref (adq 0)]) X.1 X.2.1 hS hA (g_pitch (sz := H9.size) (v := v) (i := (e : Int)) (w := 0) hst hv he (by decide) (by omega) (by omega)) ⟨q_ml_RL_90, q_im_X2_pitch, q_sel_X2_pitch, q_ini_RX2, q_code_X2_pitch⟩ hv_X2_pitch (hI.1.rec hK) hI.1 ⟨Nat.le_of_ble_eq_true rfl, Nat.le_of_ble_eq_true rfl⟩ ⟨(by show CB + 50 * e + 36 + 3 ≤ 600064; omega), (by show SB + 300 * e + 216 + 18 ≤ 7301640; omega)⟩ rfl hl.1 rfl (Nat.le_of_ble_eq_true rfl) dL_law_409) hS (X.toP hS.1) (fun r H409 locs409 hq hz hk hS => ?_)
            obtain ⟨hr, hg⟩ := hq
            have hI := hI.toP X hg hk
            rw [show r = B v (10 * (e : Int) + 3) from hr]
            refine lv_aload_n hx hb dL_law_412 rfl (lv_at hl 14 rfl) ?_
            refine lv_iload hx hb dL_law_413 (lv_at hl 9 rfl) ?_
            refine lv_iload hx hb dL_law_415 (lv_at hl 7 rfl) ?_
            refine z_iconst hx hb dL_law_417 ?_
            refine k_Wi (c_VW (As := [.int (zI v), .int (zI (e : Int)), .int (zI 1)]) (rest := [.int (zI (B v (10 * (e : Int) + 3))), .int (zI (valD x)), .int (zI (valP x)), .int (zI v), .ref (adq 0)]) X.1 X.2.1 hS hA (g_pitch (sz := H409.size) (v := v) (i := (e : Int)) (w := 1) hst hv he (by decide) (by omega) (by omega)) ⟨q_ml_RL_90, q_im_X2_pitch, q_sel_X2_pitch, q_ini_RX2, q_code_X2_pitch⟩ hv_X2_pitch (hI.1.rec hK) hI.1 ⟨Nat.le_of_ble_eq_true rfl, Nat.le_of_ble_eq_true rfl⟩ ⟨(by show CB + 50 * e + 36 + 3 + 3 ≤ 600064; omega), (by show SB + 300 * e + 216 + 18 + 18 ≤ 7301640; omega)⟩ rfl hl.1 rfl (Nat.le_of_ble_eq_true rfl) dL_law_418) hS (X.toP hS.1) (fun r H418 locs418 hq hz hk hS => ?_)
            obtain ⟨hr, hg⟩ := hq
            have hI := hI.toP X hg hk
            rw [show r = B v (10 * (e : Int) + 4) from hr]
            refine lv_aload_n hx hb dL_law_421 rfl (lv_at hl 14 rfl) ?_
            refine lv_iload hx hb dL_law_422 (lv_at hl 9 rfl) ?_
            refine lv_iload hx hb dL_law_424 (lv_at hl 7 rfl) ?_
            refine z_iconst hx hb dL_law_426 ?_
            refine k_Wi (c_VW (As := [.int (zI v), .int (zI (e : Int)), .int (zI 2)]) (rest := [.int (zI (B v (10 * (e : Int) + 4))), .int (zI (B v (10 * (e : Int) + 3))), .int (zI (valD x)), .int (zI (valP x)), .int (zI v), .ref (adq 0)]) X.1 X.2.1 hS hA (g_pitch (sz := H418.size) (v := v) (i := (e : Int)) (w := 2) hst hv he (by decide) (by omega) (by omega)) ⟨q_ml_RL_90, q_im_X2_pitch, q_sel_X2_pitch, q_ini_RX2, q_code_X2_pitch⟩ hv_X2_pitch (hI.1.rec hK) hI.1 ⟨Nat.le_of_ble_eq_true rfl, Nat.le_of_ble_eq_true rfl⟩ ⟨(by show CB + 50 * e + 36 + 3 + 3 + 3 ≤ 600064; omega), (by show SB + 300 * e + 216 + 18 + 18 + 18 ≤ 7301640; omega)⟩ rfl hl.1 rfl (Nat.le_of_ble_eq_true rfl) dL_law_427) hS (X.toP hS.1) (fun r H427 locs427 hq hz hk hS => ?_)
            obtain ⟨hr, hg⟩ := hq
            have hI := hI.toP X hg hk
            rw [show r = B v (10 * (e : Int) + 5) from hr]
            refine lv_iload hx hb dL_law_430 (lv_at hl 2 rfl) ?_
            have hnp := hnt (by omega)
            unfold mTn at hnp
            rw [if_neg (by omega)] at hnp
            refine k_Wi (c_VW (As := [.int (zI v), .int (zI (valP x)), .int (zI (valD x)), .int (zI (B v (10 * (e : Int) + 3))), .int (zI (B v (10 * (e : Int) + 4))), .int (zI (B v (10 * (e : Int) + 5))), .int (zI (B v (10 * (e : Int) + 6)))]) (rest := []) X.1 X.2.1 hS hA (g_addNote (sz := H427.size) (v := v) (x := x) (N := 1) (fr := bgM B v e) (B' := B) (sd := fun w => B v (10 * (e : Int) + w)) hst (by omega) hx9 hfr lb.1 hfl ⟨by omega, by omega, by omega, by omega, by omega, by omega, hnp⟩ ti9 hpx.symm hdx.symm h2 rfl rfl rfl rfl lb.2) ⟨q_ml_RL_71, q_im_X2_addNote, q_sel_X2_addNote, q_ini_RX2, q_code_X2_addNote⟩ hv_X2_addNote (hI.2.1.rec hK) hI.2.1 ⟨Nat.le_of_ble_eq_true rfl, Nat.le_of_ble_eq_true rfl⟩ ⟨(by show CB + 50 * e + 36 + 3 + 3 + 3 + 3 ≤ 600064; omega), (by show SB + 300 * e + 216 + 18 + 18 + 18 + 18 ≤ 7301640; omega)⟩ rfl hl.1 rfl (Nat.le_of_ble_eq_true rfl) dL_law_432) hS (X.toQ hS.1) (fun r H432 locs432 hq hz hk hS => ?_)
            obtain ⟨hr, hg⟩ := hq
            rw [hr]
            rw [hup] at hg
            have hI := hI.toQ X hg hk
            exact J435 _ _ _ _ (by omega) (by omega) hI hS
          · skip
            have h2 : B v (10 * (e : Int) + 2) = 0 := by have := fun z => hnt z; omega
            have hz9 := hZ.1 v hv4.1 hv4.2 e he.1 he.2 h2
            refine lv_aload_n hx hb dL_law_383 rfl (lv_at hl 12 rfl) ?_
            refine lv_iload hx hb dL_law_384 (lv_at hl 9 rfl) ?_
            refine lv_iload hx hb dL_law_386 (lv_at hl 5 rfl) ?_
            refine lv_iload hx hb dL_law_388 (lv_at hl 4 rfl) ?_
            refine k_Wi (c_VW (As := [.int (zI v), .int (zI (valP x)), .int (zI (valD x))]) (rest := []) X.1 X.2.1 hS hA (g_addRest (sz := H9.size) (v := v) (x := x) (N := 1) (fr := bgM B v e) (B' := B) (sd := fun w => B v (10 * (e : Int) + w)) hst (by omega) hx9 hfr lb.1 hfl hpx.symm hdx.symm h2 hz9.1 hz9.2.1 hz9.2.2 (hrt h2) lb.2) ⟨q_ml_RL_60, q_im_X2_addRest, q_sel_X2_addRest, q_ini_RX2, q_code_X2_addRest⟩ hv_X2_addRest (hI.2.1.rec hK) hI.2.1 ⟨Nat.le_of_ble_eq_true rfl, Nat.le_of_ble_eq_true rfl⟩ ⟨(by show CB + 50 * e + 36 + 2 ≤ 600064; omega), (by show SB + 300 * e + 216 + 12 ≤ 7301640; omega)⟩ rfl hl.1 rfl (Nat.le_of_ble_eq_true rfl) dL_law_390) hS (X.toQ hS.1) (fun r H390 locs390 hq hz hk hS => ?_)
            obtain ⟨hr, hg⟩ := hq
            rw [hr]
            rw [hup] at hg
            have hI := hI.toQ X hg hk
            refine lv_goto (tgt := 435) hx hb dL_law_393 (by decide) ?_
            exact J435 _ _ _ _ (by omega) (by omega) hI hS
        refine lv_iload hx hb dL_law_363 (lv_at hl 2 rfl) ?_
        refine z_if_ge (a := mTn B v e) (tgt := 372) hx hb dL_law_365 (by decide) (by omega) (fun h365 => ?_) (fun h365 => ?_)
        · skip
          refine lv_iload hx hb dL_law_372 (lv_at hl 5 rfl) ?_
          refine lv_i2l (v := lI (valT x)) hx hb dL_law_374 (lI_z (by omega)) ?_
          exact J375 _ (by unfold mtE; rw [if_neg (fun z => by have := tr z; omega), hTk]) ls hl
        · skip
          refine lv_lconst (v := 0) hx hb dL_law_368 rfl ?_
          refine lv_goto (tgt := 375) hx hb dL_law_369 (by decide) ?_
          exact J375 0 (by unfold mtE; rw [if_pos (Decidable.byContradiction fun z => h365 (hnt z))]; rfl) ls hl
      have J238 : W p l env room_1 s m args below meth c H202 locs202 (CB + 50 * e + 2 + 3 + 3 + 3 + 3 + 3 + 3 + 1) (SB + 300 * e + 12 + 18 + 18 + 18 + 18 + 18 + 18 + 6) Q (F0 m 238 ls []) := by
        refine lv_aload_n hx hb dL_law_238 rfl (lv_at hl 14 rfl) ?_
        refine lv_iload hx hb dL_law_239 (lv_at hl 9 rfl) ?_
        refine lv_iload hx hb dL_law_241 (lv_at hl 5 rfl) ?_
        refine z_bipush hx hb dL_law_243 (by decide) ?_
        refine k_Wi (c_VW (As := [.int (zI v), .int (zI ((e : Int))), .int (zI 8)]) (rest := []) X.1 X.2.1 hS hA (g_element (sz := H202.size) (v := v) (i := (e : Int)) (w := 8) hst hv he (by decide) (by omega)) ⟨q_ml_RL_86, q_im_X2_element, q_sel_X2_element, q_ini_RX2, q_code_X2_element⟩ hv_X2_element (hI.1.rec hK) hI.1 ⟨Nat.le_of_ble_eq_true rfl, Nat.le_of_ble_eq_true rfl⟩ ⟨(by show CB + 50 * e + 2 + 3 + 3 + 3 + 3 + 3 + 3 + 1 + 3 ≤ 600064; omega), (by show SB + 300 * e + 12 + 18 + 18 + 18 + 18 + 18 + 18 + 6 + 18 ≤ 7301640; omega)⟩ rfl hl.1 rfl (Nat.le_of_ble_eq_true rfl) dL_law_245) hS (X.toP hS.1) (fun r H245 locs245 hq hz hk hS => ?_)
        obtain ⟨hr, hg⟩ := hq
        have hI := hI.toP X hg hk
        rw [show r = bmN (gM (fmB bt pt ky nv) (ghA n) B v) e from hr]
        refine lv_istore (lv' := [(17, .int (zI (bmN (gM (fmB bt pt ky nv) (ghA n) B v) e))), (16, .int (zI (B v (10 * (e : Int) + 6)))), (15, .int (zI (mTn B v e))), (14, .int (zI (valD x))), (13, .int (zI (valP x))), (12, .int (zI (valT x))), (11, .int (zI ((e : Int)))), (10, .int (zI (stC (gM (fmB bt pt ky nv) (ghA n) B v) ((e : Int)) - 1))), (9, .int (zI (bgM B v ((e : Int))))), (6, .long (lI (T0 + mtV B v ((e : Int))))), (8, .int (zI v)), (5, .int (zI sn)), (4, .int (zI (bt * 384 / pt))), (3, .ref (adq 0)), (2, .ref h), (1, .ref (adp 0))]) hx hb dL_law_248 hl (by decide) rfl (fun ls hl => ?_)
        refine lv_iload hx hb dL_law_250 (lv_at hl 0 rfl) ?_
        refine z_if_lt (a := bmN (gM (fmB bt pt ky nv) (ghA n) B v) e) (tgt := 354) hx hb dL_law_252 (by decide) (by omega) (fun h252 => ?_) (fun h252 => ?_)
        · skip
          have e9 : stC (gM (fmB bt pt ky nv) (ghA n) B v) e = stC (gM (fmB bt pt ky nv) (ghA n) B v) ((e : Int) + 1) := by omega
          rw [e9] at hl
          exact J354 _ _ _ _ (by omega) (by omega) hI hS ls (lv_sub hl [1, 2, 3, 4, 5, 6, 7, 8, 9, 10, 11, 12, 13, 14, 15] rfl)
        · skip
          have hgr : bmN (gM (fmB bt pt ky nv) (ghA n) B v) e = stC (gM (fmB bt pt ky nv) (ghA n) B v) ((e : Int) + 1) - 1 ∧ 1 ≤ stC (gM (fmB bt pt ky nv) (ghA n) B v) ((e : Int) + 1) ∧ (gM (fmB bt pt ky nv) (ghA n) B v ((e : Int) - 1) ∨ gM (fmB bt pt ky nv) (ghA n) B v e) ∧ (stC (gM (fmB bt pt ky nv) (ghA n) B v) ((e : Int) + 1) = stC (gM (fmB bt pt ky nv) (ghA n) B v) e + 1 ∨ (stC (gM (fmB bt pt ky nv) (ghA n) B v) ((e : Int) + 1) = stC (gM (fmB bt pt ky nv) (ghA n) B v) e ∧ gM (fmB bt pt ky nv) (ghA n) B v ((e : Int) - 1))) := by
            rcases hst9 with z | z
            · omega
            · exact z
          obtain ⟨hits, hs1, hcc, hs2⟩ := hgr
          rw [hits] at hl
          have hc9 := hcb hcc
          have hs3 : stC (gM (fmB bt pt ky nv) (ghA n) B v) ((e : Int) + 1) = stC (gM (fmB bt pt ky nv) (ghA n) B v) e ∨ stC (gM (fmB bt pt ky nv) (ghA n) B v) ((e : Int) + 1) = stC (gM (fmB bt pt ky nv) (ghA n) B v) e + 1 := hs2.elim Or.inr (fun z => Or.inl z.1)
          have J350 : ∀ (C S9 : Nat) (H9 : Heap) (locs9 : List Loc), C ≤ CB + 50 * e + 36 → S9 ≤ SB + 300 * e + 216 → LI9 G adp adq h vs bt pt ky nv n B bt pt ky (v + 1) (nQ n v e) H9 → va_S (AL s) s.heap H9 locs9 → ∀ ls : Array Slot, lv_has ls 19 [(17, .int (zI (stC (gM (fmB bt pt ky nv) (ghA n) B v) ((e : Int) + 1) - 1))), (16, .int (zI (B v (10 * (e : Int) + 6)))), (15, .int (zI (mTn B v e))), (14, .int (zI (valD x))), (13, .int (zI (valP x))), (12, .int (zI (valT x))), (11, .int (zI ((e : Int)))), (10, .int (zI (stC (gM (fmB bt pt ky nv) (ghA n) B v) ((e : Int)) - 1))), (9, .int (zI (bgM B v ((e : Int))))), (6, .long (lI (T0 + mtV B v ((e : Int))))), (8, .int (zI v)), (5, .int (zI sn)), (4, .int (zI (bt * 384 / pt))), (3, .ref (adq 0)), (2, .ref h), (1, .ref (adp 0))] → W p l env room_1 s m args below meth c H9 locs9 C S9 Q (F0 m 350 ls []) := by
            intro C S9 H9 locs9 c1 c2 hI hS ls hl
            refine lv_iload hx hb dL_law_350 (lv_at hl 0 rfl) ?_
            refine lv_istore (lv' := [(10, .int (zI (stC (gM (fmB bt pt ky nv) (ghA n) B v) ((e : Int) + 1) - 1))), (17, .int (zI (stC (gM (fmB bt pt ky nv) (ghA n) B v) ((e : Int) + 1) - 1))), (16, .int (zI (B v (10 * (e : Int) + 6)))), (15, .int (zI (mTn B v e))), (14, .int (zI (valD x))), (13, .int (zI (valP x))), (12, .int (zI (valT x))), (11, .int (zI ((e : Int)))), (9, .int (zI (bgM B v ((e : Int))))), (6, .long (lI (T0 + mtV B v ((e : Int))))), (8, .int (zI v)), (5, .int (zI sn)), (4, .int (zI (bt * 384 / pt))), (3, .ref (adq 0)), (2, .ref h), (1, .ref (adp 0))]) hx hb dL_law_352 hl (by decide) rfl (fun ls hl => ?_)
            exact J354 C S9 H9 locs9 c1 c2 hI hS ls (lv_sub hl [2, 3, 4, 5, 6, 7, 0, 8, 9, 10, 11, 12, 13, 14, 15] rfl)
          have J285 : ∀ ls : Array Slot, lv_has ls 19 [(17, .int (zI (stC (gM (fmB bt pt ky nv) (ghA n) B v) ((e : Int) + 1) - 1))), (16, .int (zI (B v (10 * (e : Int) + 6)))), (15, .int (zI (mTn B v e))), (14, .int (zI (valD x))), (13, .int (zI (valP x))), (12, .int (zI (valT x))), (11, .int (zI ((e : Int)))), (10, .int (zI (stC (gM (fmB bt pt ky nv) (ghA n) B v) ((e : Int)) - 1))), (9, .int (zI (bgM B v ((e : Int))))), (6, .long (lI (T0 + mtV B v ((e : Int))))), (8, .int (zI v)), (5, .int (zI sn)), (4, .int (zI (bt * 384 / pt))), (3, .ref (adq 0)), (2, .ref h), (1, .ref (adp 0))] → W p l env room_1 s m args below meth c H245 locs245 (CB + 50 * e + 2 + 3 + 3 + 3 + 3 + 3 + 3 + 1 + 3) (SB + 300 * e + 12 + 18 + 18 + 18 + 18 + 18 + 18 + 6 + 18) Q (F0 m 285 ls []) := by
            intro ls hl
            refine lv_iload hx hb dL_law_285 (lv_at hl 0 rfl) ?_
            refine lv_iload hx hb dL_law_287 (lv_at hl 7 rfl) ?_
            refine z_icmp_ne (a := stC (gM (fmB bt pt ky nv) (ghA n) B v) ((e : Int) + 1) - 1) (b := stC (gM (fmB bt pt ky nv) (ghA n) B v) e - 1) (tgt := 350) hx hb dL_law_289 (by decide) (by omega) (by omega) (fun _ => ?_) (fun h289 => ?_)
            · exact J350 _ _ _ _ (by omega) (by omega) hI hS ls hl
            · skip
              refine lv_iload hx hb dL_law_292 (lv_at hl 6 rfl) ?_
              refine z_if_le (a := (e : Int)) (tgt := 350) hx hb dL_law_294 (by decide) (by omega) (fun _ => ?_) (fun h294 => ?_)
              · exact J350 _ _ _ _ (by omega) (by omega) hI hS ls hl
              · skip
                have hem : 0 ≤ (e : Int) - 1 ∧ (e : Int) - 1 < n v := by omega
                have hgm : gM (fmB bt pt ky nv) (ghA n) B v ((e : Int) - 1) := hs2.elim (fun z => by omega) (fun z => z.2)
                have hbe : bgM B v e / (384 / pt) = bgM B v ((e : Int) - 1) / (384 / pt) := by have q := hgm.2.2.2.2; rw [show (e : Int) - 1 + 1 = (e : Int) by omega] at q; exact q.symm
                have hbm := hgp.bg (v := v) (e := (e : Int) - 1) hv4 ⟨hem.1, by omega⟩
                have hbt9 : 48 ≤ 384 / pt ∧ 384 / pt ≤ 192 := by rcases nms.2.1 with z | z | z <;> rw [z] <;> decide
                have hpt9 : 2 ≤ pt ∧ pt ≤ 8 := by omega
                refine lv_aload_n hx hb dL_law_297 rfl (lv_at hl 15 rfl) ?_
                refine lv_iload hx hb dL_law_298 (lv_at hl 10 rfl) ?_
                refine lv_iload hx hb dL_law_300 (lv_at hl 6 rfl) ?_
                refine z_iconst hx hb dL_law_302 ?_
                refine z_isub (x := (e : Int)) (y := 1) hx hb dL_law_303 ?_
                refine z_bipush hx hb dL_law_304 (by decide) ?_
                have hbn : -1 ≤ bmN (gM (fmB bt pt ky nv) (ghA n) B v) ((e : Int) - 1) ∧ bmN (gM (fmB bt pt ky nv) (ghA n) B v) ((e : Int) - 1) ≤ 200 := by
                  have a := stC_le (g := gM (fmB bt pt ky nv) (ghA n) B v) e
                  unfold bmN
                  rw [show (e : Int) - 1 + 1 = (e : Int) by omega]
                  split <;> omega
                refine k_Wi (c_VW (As := [.int (zI v), .int (zI ((e : Int) - 1)), .int (zI 8)]) (rest := []) X.1 X.2.1 hS hA (g_element (sz := H245.size) (v := v) (i := (e : Int) - 1) (w := 8) hst hv hem (by decide) (by omega)) ⟨q_ml_RL_86, q_im_X2_element, q_sel_X2_element, q_ini_RX2, q_code_X2_element⟩ hv_X2_element (hI.1.rec hK) hI.1 ⟨Nat.le_of_ble_eq_true rfl, Nat.le_of_ble_eq_true rfl⟩ ⟨(by show CB + 50 * e + 2 + 3 + 3 + 3 + 3 + 3 + 3 + 1 + 3 + 3 ≤ 600064; omega), (by show SB + 300 * e + 12 + 18 + 18 + 18 + 18 + 18 + 18 + 6 + 18 + 18 ≤ 7301640; omega)⟩ rfl hl.1 rfl (Nat.le_of_ble_eq_true rfl) dL_law_306) hS (X.toP hS.1) (fun r H306 locs306 hq hz hk hS => ?_)
                obtain ⟨hr, hg⟩ := hq
                have hI := hI.toP X hg hk
                rw [show r = bmN (gM (fmB bt pt ky nv) (ghA n) B v) ((e : Int) - 1) from hr]
                refine lv_iload hx hb dL_law_309 (lv_at hl 0 rfl) ?_
                refine z_icmp_ne (a := bmN (gM (fmB bt pt ky nv) (ghA n) B v) ((e : Int) - 1)) (b := stC (gM (fmB bt pt ky nv) (ghA n) B v) ((e : Int) + 1) - 1) (tgt := 350) hx hb dL_law_311 (by decide) (by omega) (by omega) (fun _ => ?_) (fun h311 => ?_)
                · exact J350 _ _ _ _ (by omega) (by omega) hI hS ls hl
                · skip
                  refine lv_iload hx hb dL_law_314 (lv_at hl 8 rfl) ?_
                  refine z_sipush hx hb dL_law_316 (by decide) ?_
                  refine lv_aload_n hx hb dL_law_319 rfl (lv_at hl 14 rfl) ?_
                  refine z_get (C := RX3) (T := TX3) (N := 4) hx hb hK hts u_in_X3 hown hI.2.2 rfl 1 (by decide) q_fl_RL_26 (v := .int (zI pt)) rfl dL_law_320 ?_
                  refine z_idiv (x := 384) (y := pt) hx hb dL_law_323 (by omega) (by omega) ?_
                  refine z_idiv (x := bgM B v e) (y := 384 / pt) hx hb dL_law_324 (by omega) (by omega) ?_
                  refine lv_aload_n hx hb dL_law_325 rfl (lv_at hl 15 rfl) ?_
                  refine lv_iload hx hb dL_law_326 (lv_at hl 10 rfl) ?_
                  refine lv_iload hx hb dL_law_328 (lv_at hl 6 rfl) ?_
                  refine z_iconst hx hb dL_law_330 ?_
                  refine z_isub (x := (e : Int)) (y := 1) hx hb dL_law_331 ?_
                  refine z_iconst hx hb dL_law_332 ?_
                  refine k_Wi (c_VW (As := [.int (zI v), .int (zI ((e : Int) - 1)), .int (zI 0)]) (rest := [.int (zI (bgM B v e / (384 / pt)))]) X.1 X.2.1 hS hA (g_element (sz := H306.size) (v := v) (i := (e : Int) - 1) (w := 0) hst hv hem (by decide) (by omega)) ⟨q_ml_RL_86, q_im_X2_element, q_sel_X2_element, q_ini_RX2, q_code_X2_element⟩ hv_X2_element (hI.1.rec hK) hI.1 ⟨Nat.le_of_ble_eq_true rfl, Nat.le_of_ble_eq_true rfl⟩ ⟨(by show CB + 50 * e + 2 + 3 + 3 + 3 + 3 + 3 + 3 + 1 + 3 + 3 + 3 ≤ 600064; omega), (by show SB + 300 * e + 12 + 18 + 18 + 18 + 18 + 18 + 18 + 6 + 18 + 18 + 18 ≤ 7301640; omega)⟩ rfl hl.1 rfl (Nat.le_of_ble_eq_true rfl) dL_law_333) hS (X.toP hS.1) (fun r H333 locs333 hq hz hk hS => ?_)
                  obtain ⟨hr, hg⟩ := hq
                  have hI := hI.toP X hg hk
                  rw [show r = bgM B v ((e : Int) - 1) from hr]
                  refine z_sipush hx hb dL_law_336 (by decide) ?_
                  refine lv_aload_n hx hb dL_law_339 rfl (lv_at hl 14 rfl) ?_
                  refine z_get (C := RX3) (T := TX3) (N := 4) hx hb hK hts u_in_X3 hown hI.2.2 rfl 1 (by decide) q_fl_RL_26 (v := .int (zI pt)) rfl dL_law_340 ?_
                  refine z_idiv (x := 384) (y := pt) hx hb dL_law_343 (by omega) (by omega) ?_
                  refine z_idiv (x := bgM B v ((e : Int) - 1)) (y := 384 / pt) hx hb dL_law_344 (by omega) (by omega) ?_
                  have hd1 : 0 ≤ bgM B v e / (384 / pt) := Int.ediv_nonneg hbg.1 (by omega)
                  have hd2 : bgM B v e / (384 / pt) ≤ bgM B v e := Int.ediv_le_self _ hbg.1
                  rw [← hbe]
                  refine z_icmp_eq (a := bgM B v e / (384 / pt)) (b := bgM B v e / (384 / pt)) (tgt := 350) hx hb dL_law_345 (by decide) (by omega) (by omega) (fun _ => ?_) (fun h9 => absurd rfl h9)
                  exact J350 _ _ _ _ (by omega) (by omega) hI hS ls hl
          refine lv_iload hx hb dL_law_255 (lv_at hl 2 rfl) ?_
          refine z_if_lt (a := mTn B v e) (tgt := 283) hx hb dL_law_257 (by decide) (by omega) (fun h9 => absurd h9 (by have := hnt (by omega); omega)) (fun _ => ?_)
          refine lv_iload hx hb dL_law_260 (lv_at hl 4 rfl) ?_
          refine z_bipush hx hb dL_law_262 (by decide) ?_
          refine z_icmp_lt (a := valP x) (b := 8) (tgt := 283) hx hb dL_law_264 (by decide) (by omega) (by decide) (fun h9 => absurd h9 (by omega)) (fun _ => ?_)
          refine lv_iload hx hb dL_law_267 (lv_at hl 0 rfl) ?_
          refine lv_iload hx hb dL_law_269 (lv_at hl 7 rfl) ?_
          refine z_icmp_eq (a := stC (gM (fmB bt pt ky nv) (ghA n) B v) ((e : Int) + 1) - 1) (b := stC (gM (fmB bt pt ky nv) (ghA n) B v) e - 1) (tgt := 285) hx hb dL_law_271 (by decide) (by omega) (by omega) (fun _ => ?_) (fun h271 => ?_)
          · exact J285 ls hl
          · skip
            refine lv_iload hx hb dL_law_274 (lv_at hl 0 rfl) ?_
            refine lv_iload hx hb dL_law_276 (lv_at hl 7 rfl) ?_
            refine z_iconst hx hb dL_law_278 ?_
            refine z_iadd (x := stC (gM (fmB bt pt ky nv) (ghA n) B v) e - 1) (y := 1) hx hb dL_law_279 ?_
            refine z_icmp_eq (a := stC (gM (fmB bt pt ky nv) (ghA n) B v) ((e : Int) + 1) - 1) (b := stC (gM (fmB bt pt ky nv) (ghA n) B v) e - 1 + 1) (tgt := 285) hx hb dL_law_280 (by decide) (by omega) (by omega) (fun _ => ?_) (fun h280 => absurd h280 (by omega))
            exact J285 ls hl
      refine lv_iload hx hb dL_law_208 (lv_at hl 7 rfl) ?_
      refine lv_iload hx hb dL_law_210 (lv_at hl 4 rfl) ?_
      refine z_iadd (x := bgM B v e) (y := valT x) hx hb dL_law_212 ?_
      refine z_iconst hx hb dL_law_213 ?_
      refine z_isub (x := bgM B v e + valT x) (y := 1) hx hb dL_law_214 ?_
      refine lv_iload hx hb dL_law_215 (lv_at hl 11 rfl) ?_
      refine z_idiv (x := (bgM B v e + valT x - 1)) (y := bt * 384 / pt) hx hb dL_law_217 (by omega) (by omega) ?_
      refine lv_iload hx hb dL_law_218 (lv_at hl 7 rfl) ?_
      refine lv_iload hx hb dL_law_220 (lv_at hl 11 rfl) ?_
      refine z_idiv (x := bgM B v e) (y := bt * 384 / pt) hx hb dL_law_222 (by omega) (by omega) ?_
      rw [show (bgM B v e + valT x - 1) / (bt * 384 / pt) = bgM B v e / (bt * 384 / pt) by rw [← hbs]; exact hsb.symm]
      have hd1 : 0 ≤ bgM B v e / (bt * 384 / pt) := Int.ediv_nonneg hbg.1 (by omega)
      have hd2 : bgM B v e / (bt * 384 / pt) ≤ bgM B v e := Int.ediv_le_self _ hbg.1
      refine z_icmp_ne (a := bgM B v e / (bt * 384 / pt)) (b := bgM B v e / (bt * 384 / pt)) (tgt := 236) hx hb dL_law_223 (by decide) (by omega) (by omega) (fun h9 => absurd rfl h9) (fun _ => ?_)
      refine lv_iload hx hb dL_law_226 (lv_at hl 0 rfl) ?_
      refine z_if_eq (a := B v (10 * (e : Int) + 6)) (tgt := 238) hx hb dL_law_228 (by decide) (by omega) (fun _ => J238) (fun h228 => ?_)
      refine lv_iload hx hb dL_law_231 (lv_at hl 1 rfl) ?_
      refine z_if_ge (a := mTn B v e) (tgt := 238) hx hb dL_law_233 (by decide) (by omega) (fun _ => J238) (fun h233 => absurd (hnt (fun z => h228 (hrt z))) h233)
end LW9
