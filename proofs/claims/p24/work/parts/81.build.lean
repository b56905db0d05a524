/-! the law's build: a score that cells choose, and the Hand beside it -/
/-- rests have no pitch in the table; nothing stands beside the four voices -/
def RZ (n : Int → Int) (B : Int → Int → Int) : Prop := (∀ v, 0 ≤ v → v < 4 → ∀ e, 0 ≤ e → e < n v → B v (10 * e + 2) = 0 → B v (10 * e + 3) = 0 ∧ B v (10 * e + 4) = 0 ∧ B v (10 * e + 5) = 0) ∧ ∀ u, ¬ (0 ≤ u ∧ u < 4) → n u = 0
/-- the table with what is added -/
def tbN (B : Int → Int → Int) (v n0 N b fr en : Int) (sd : Int → Int) : Int → Int → Int := fun u i => if u = v ∧ 10 * n0 ≤ i ∧ i < 10 * (n0 + N) then elC b en fr sd (i / 10 - n0) (i % 10) else B u i
section TB9
variable {B : Int → Int → Int} {v n0 N b fr en : Int} {sd : Int → Int}
theorem tbN_B : ∀ u e w, 0 ≤ w → w < 7 → tbN B v n0 N b fr en sd u (10 * e + w) = if u = v ∧ n0 ≤ e ∧ e < n0 + N ∧ w < 7 then elC b en fr sd (e - n0) w else B u (10 * e + w) := by
  intro u e w w0 w1
  unfold tbN
  by_cases c : u = v ∧ n0 ≤ e ∧ e < n0 + N ∧ w < 7
  · rw [if_pos c, if_pos ⟨c.1, by omega, by omega⟩, show (10 * e + w) / 10 = e by omega, show (10 * e + w) % 10 = w by omega]
  · rw [if_neg c, if_neg (fun z => c ⟨z.1, by omega, by omega, w1⟩)]
theorem tbN_lo {u i : Int} (h : u ≠ v ∨ i < 10 * n0) : tbN B v n0 N b fr en sd u i = B u i := if_neg (fun z => by rcases h with h | h; exact h z.1; omega)
theorem tbN_at {j w : Int} (hj : 0 ≤ j ∧ j < N) (hw : 0 ≤ w ∧ w < 7) : tbN B v n0 N b fr en sd v (10 * (n0 + j) + w) = elC b en fr sd j w := by
  rw [tbN_B v (n0 + j) w hw.1 hw.2, if_pos ⟨rfl, by omega, by omega, hw.2⟩, show n0 + j - n0 = j by omega]
end TB9
theorem RZ.step {n : Int → Int} {B : Int → Int → Int} (h : RZ n B) {v N b fr en : Int} {sd : Int → Int} (hs : sd 2 = 0 → sd 3 = 0 ∧ sd 4 = 0 ∧ sd 5 = 0) (hn : 0 ≤ n v) (hv : 0 ≤ v ∧ v < 4) : RZ (zU n v (n v + N)) (tbN B v (n v) N b fr en sd) := by
  refine ⟨?_, fun u hu => (zU_n (fun e => hu (by rw [e]; exact hv))).trans (h.2 u hu)⟩
  intro u u0 u1 e e0 e1 h2
  have el : ∀ j w, (w = 2 ∨ w = 3 ∨ w = 4 ∨ w = 5) → elC b en fr sd j w = sd w := fun j w hw => by
    unfold elC
    rw [if_neg (fun z => by omega), if_neg (fun z => by omega), if_neg (fun z => by omega)]
  by_cases c : u = v ∧ n v ≤ e
  · obtain ⟨rfl, c⟩ := c
    rw [zU_s] at e1
    obtain ⟨j, rfl⟩ : ∃ j, e = n u + j := ⟨e - n u, by omega⟩
    rw [tbN_at ⟨by omega, by omega⟩ ⟨by decide, by decide⟩, el _ _ (Or.inl rfl)] at h2
    rw [tbN_at ⟨by omega, by omega⟩ ⟨by decide, by decide⟩, tbN_at ⟨by omega, by omega⟩ ⟨by decide, by decide⟩, tbN_at ⟨by omega, by omega⟩ ⟨by decide, by decide⟩, el _ _ (Or.inr (Or.inl rfl)), el _ _ (Or.inr (Or.inr (Or.inl rfl))), el _ _ (Or.inr (Or.inr (Or.inr rfl)))]
    exact hs h2
  · have lo : ∀ w, w < 7 → tbN B v (n v) N b fr en sd u (10 * e + w) = B u (10 * e + w) := fun w hw => tbN_lo (by
      by_cases z : u = v
      · exact Or.inr (by have : ¬ n v ≤ e := fun y => c ⟨z, y⟩; omega)
      · exact Or.inl z)
    rw [lo 2 (by decide)] at h2
    rw [lo 3 (by decide), lo 4 (by decide), lo 5 (by decide)]
    refine h.1 u u0 u1 e e0 ?_ h2
    by_cases z : u = v
    · have : ¬ n v ≤ e := fun y => c ⟨z, y⟩
      rw [z]; omega
    · rw [zU_n z] at e1; exact e1
theorem HP9.tab {G : zG} {h lo vs : Nat} {f : Nat → Nat} {bt pt ky nv : Int} {n : Int → Int} {B B' : Int → Int → Int} {H : Heap} (q : HP9 G h lo vs f bt pt ky nv n B H) {v : Int} (hB : ∀ u i, (u ≠ v ∨ i < 10 * n v) → B' u i = B u i) : HP9 G h lo vs f bt pt ky nv n B' H := by
  obtain ⟨q1, q2, q3, q4⟩ := q
  refine ⟨q1, q2, q3, fun u hu => (q4 u hu).congr (fun e he => ?_)⟩
  have at9 : ∀ e' w : Int, e' < n u → w < 7 → B' u (10 * e' + w) = B u (10 * e' + w) := fun e' w h1 h2 => hB _ _ (by
    by_cases z : (u : Int) = v
    · rw [z] at h1; exact Or.inr (by omega)
    · exact Or.inl z)
  have tk : mTk B' u e = mTk B u e := by unfold mTk; rw [at9 e 0 (by omega) (by decide), at9 e 1 (by omega) (by decide)]
  have bg : bgM B' u e = bgM B u e := bg_same (n := n u) (fun e' e0 e1 w w0 w1 => at9 e' w e1 w1) e (by omega)
  funext k
  show hD B u e k = hD B' u e k
  unfold hD
  rw [tk, bg]
  by_cases c : k < 7
  · rw [if_pos c, if_pos c, at9 e k (by omega) c]
  · rw [if_neg c, if_neg c]
theorem vx_of {r d : Int} (hr : 0 ≤ r ∧ r ≤ 5) (hd : 0 ≤ d ∧ d < lim9 (sh2 r)) : ∃ x, (0 ≤ x ∧ x < 15) ∧ sh2 r = valP x ∧ d = valD x := by
  rcases (by omega : r = 0 ∨ r = 1 ∨ r = 2 ∨ r = 3 ∨ r = 4 ∨ r = 5) with rfl | rfl | rfl | rfl | rfl | rfl
  · have l9 : lim9 (sh2 0) = 3 := by decide
    have h3 : d = 0 ∨ d = 1 ∨ d = 2 := by omega
    rcases h3 with rfl | rfl | rfl
    · exact ⟨2, by decide, by decide, by decide⟩
    · exact ⟨1, by decide, by decide, by decide⟩
    · exact ⟨0, by decide, by decide, by decide⟩
  · have l9 : lim9 (sh2 1) = 3 := by decide
    have h3 : d = 0 ∨ d = 1 ∨ d = 2 := by omega
    rcases h3 with rfl | rfl | rfl
    · exact ⟨5, by decide, by decide, by decide⟩
    · exact ⟨4, by decide, by decide, by decide⟩
    · exact ⟨3, by decide, by decide, by decide⟩
  · have l9 : lim9 (sh2 2) = 3 := by decide
    have h3 : d = 0 ∨ d = 1 ∨ d = 2 := by omega
    rcases h3 with rfl | rfl | rfl
    · exact ⟨8, by decide, by decide, by decide⟩
    · exact ⟨7, by decide, by decide, by decide⟩
    · exact ⟨6, by decide, by decide, by decide⟩
  · have l9 : lim9 (sh2 3) = 3 := by decide
    have h3 : d = 0 ∨ d = 1 ∨ d = 2 := by omega
    rcases h3 with rfl | rfl | rfl
    · exact ⟨11, by decide, by decide, by decide⟩
    · exact ⟨10, by decide, by decide, by decide⟩
    · exact ⟨9, by decide, by decide, by decide⟩
  · have l9 : lim9 (sh2 4) = 2 := by decide
    have h3 : d = 0 ∨ d = 1 := by omega
    rcases h3 with rfl | rfl
    · exact ⟨13, by decide, by decide, by decide⟩
    · exact ⟨12, by decide, by decide, by decide⟩
  · have l9 : lim9 (sh2 5) = 1 := by decide
    have h3 : d = 0 := by omega
    subst h3
    exact ⟨14, by decide, by decide, by decide⟩
/-- what is laid out for an element -/
def sd7 (a b c d e f g : Int) : Int → Int := fun w => if w = 0 then a else if w = 1 then b else if w = 2 then c else if w = 3 then d else if w = 4 then e else if w = 5 then f else g
abbrev n00 : Int → Int := fun _ => 0
section ZB1
variable {p : Program} {l : Launch} {e : Env} {R : Room} {s : State} {m : MethodId} {args : Array Value} {below : List Frame} {meth : Method} {c : Code} {H : Heap} {locs : List Loc} {cells slots : Nat} {Q : State → Prop}
variable {cc : ByteArray} {ls : Array Slot} {rest : List Value}
/-- a number that is 1 or not, as a truth -/
theorem z_b1 (hx : p.tables.exec = Jvm.exec) (hb : c.code = cc) {ti : Int} (ht : ti = 0 ∨ ti = 1) (d0 : decode cc 498 = .ok (.if_icmp .ne 7, 3)) (d1 : decode cc 501 = .ok (.iconst 1, 1)) (d2 : decode cc 502 = .ok (.goto 4, 3)) (d3 : decode cc 505 = .ok (.iconst 0, 1))
    (kk : W p l e R s m args below meth c H locs cells slots Q (F0 m 506 ls (.int (zI ti) :: rest))) : W p l e R s m args below meth c H locs cells slots Q (F0 m 498 ls (.int (zI 1) :: .int (zI ti) :: rest)) := by
  refine z_icmp_ne (a := ti) (b := 1) (tgt := 505) hx hb d0 (by decide) (by omega) (by decide) (fun h => ?_) (fun h => ?_)
  · rw [show ti = 0 by omega] at kk
    exact z_iconst hx hb d3 kk
  · rw [h] at kk
    exact z_iconst hx hb d1 (lv_goto (tgt := 506) hx hb d2 (by decide) kk)
end ZB1
set_option maxHeartbeats 8000000 in
theorem c_L_build (l : Launch) (G : zG) (ad : Nat → Nat) (sz : Nat) (hst : l.stackTraces = false) (hlo9 : ∀ k, k < 94 → G.2.2 ≤ ad k) : MW l yL_build cL_build 16 (some (.object "ScorePressLaw$Hand")) 8 163 (46600) (705000) G [.ref (ad 0), .ref (G.2.1 10), .int (zI 40)] (fA 94 ad sz) sz (GI G ad 4 4 0 0 n00 gb0) (QWA (fA 94 ad sz) (fun h H => sz ≤ h ∧ ∃ (vs : Nat) (bt pt ky nv : Int) (n : Int → Int) (B : Int → Int → Int), (1 ≤ nv ∧ nv ≤ 3) ∧ HO G h vs bt pt ky H ∧ GI G ad bt pt ky nv n B H ∧ RZ n B)) := by
  refine mw_of hp_L_build (Nat.le_of_ble_eq_true rfl) ?_
  intro p env s m below meth c ls hB9 hsz hGI hl
  obtain ⟨hx, hb, hml, hr, hlk, hown, hts, hG⟩ := hB9
  subst hsz
  have hK := hG.1
  have hov : OV s := ⟨hG.2.2.2.2.2.2.2.2.2.1.1, hG.2.2.2.2.2.2.2.2.2.1.2.2⟩
  have hS : va_S (fA 94 ad s.heap.size) s.heap s.heap [] := va_S.rf
  have hA : ∀ q : Nat, (fA 94 ad s.heap.size) q → G.2.2 ≤ q := fA_lo hlo9 hG.2.1
  have had : ∀ k, k < 94 → ad k < s.heap.size := fun k hk => hGI.lt hk
  obtain ⟨h, hh⟩ : ∃ h, h = s.heap.size := ⟨_, rfl⟩
  have hAh : ∀ q : Nat, h ≤ q → fA 94 ad s.heap.size q := fun q hq => Or.inr (by omega)
  have hl : lv_has ls 16 [(0, .ref (ad 0)), (1, .ref (G.2.1 10)), (2, .int (zI 40))] := hl
  refine z_new (C := RX3) (T := TX3) (N := 4) (ci := 3) (fs := [.int 0, .int 0, .int 0, .null]) hx hb hts u_in_X3 tyX3 tyX3_ok hown q_cl_RL_9 q_inst_RX3 q_ini_RX3 hK hS rfl (by decide +kernel) (by show 0 + 1 ≤ 46600; decide) (by show 0 + 4 ≤ 705000; decide) dL_build_0 (fun H1 g1 z1 o1 hS => ?_)
  refine lv_dup hx hb dL_build_3 rfl ?_
  refine k_Wv (c_IN (own := RL) (host := RL) (rest := [.ref s.heap.size]) ⟨hx, hb, hml, hown, hts⟩ hG hov hS hA (c_X3_init l G s.heap.size H1.size hG.2.1) ⟨by decide, q_im_X3_init, q_ini_RX3, q_code_X3_init⟩ rfl hs_X3_init g1 ⟨Nat.le_of_ble_eq_true rfl, Nat.le_of_ble_eq_true rfl⟩ ⟨(by show 0 + 1 + 1 ≤ 46600; decide), (by show 0 + 4 + 0 ≤ 705000; decide)⟩ hl.1 (Nat.le_of_ble_eq_true rfl) dL_build_4) hS (fun q hq => hAh q (hq.elim (fun e => by omega) (fun e => by omega))) (fun H2 locs2 hq2 hz2 hk2 hS => ?_)
  rw [z1] at hq2
  obtain ⟨hO, hVs, hz9⟩ := hq2
  have hGI := hGI.kept (H1 := H2) (fun k hk => (hk2 _ (by have := had k hk; omega) (fun q => by have := had k hk; rcases q with q | q <;> omega)).trans (o1 _ (by have := had k hk; omega)))
  refine lv_astore_n (lv' := [(3, .ref s.heap.size), (0, .ref (ad 0)), (1, .ref (G.2.1 10)), (2, .int (zI 40))]) hx hb dL_build_7 rfl hl (by decide) rfl (fun ls hl => ?_)
  rw [← hh] at hl hO hVs hz9
  have J77 : ∀ (bt pt : Int), (1 ≤ bt ∧ bt ≤ 12) → (pt = 2 ∨ pt = 4 ∨ pt = 8) → ∀ (H : Heap) (locs : List Loc), HO G h (h + 1) bt pt 0 H → va_at G.1 vwCl (h + 1, va_refs G 3 0 (fun _ => none)) H → GI G ad bt pt 0 0 n00 gb0 H → va_S (fA 94 ad s.heap.size) s.heap H locs → ∀ ls : Array Slot, lv_has ls 16 [(3, .ref h), (0, .ref (ad 0)), (1, .ref (G.2.1 10)), (2, .int (zI 40))] → W p l env (rmz 8 163 46600 705000) s m (([.ref (ad 0), .ref (G.2.1 10), .int (zI 40)] : List Value).toArray) below meth c H locs (3) (10) (MQ below (QWA (fA 94 ad s.heap.size) (fun h H => s.heap.size ≤ h ∧ ∃ (vs : Nat) (bt pt ky nv : Int) (n : Int → Int) (B : Int → Int → Int), (1 ≤ nv ∧ nv ≤ 3) ∧ HO G h vs bt pt ky H ∧ GI G ad bt pt ky nv n B H ∧ RZ n B)) (([.ref (ad 0), .ref (G.2.1 10), .int (zI 40)] : List Value).toArray) s 46600 705000 (fA 94 ad s.heap.size)) (F0 m 77 ls []) := by
    intro bt pt hbt hpt H locs hO hVs hGI hS ls hl
    refine lv_aload_n hx hb dL_build_77 rfl (lv_at hl 2 rfl) ?_
    refine z_iconst hx hb dL_build_78 ?_
    refine k_RB (c_SB (As := [.ref (G.2.1 10), .int (zI (1))]) (rest := []) ⟨hx, hb, hml, hown, hts⟩ hG hS hA (c_L_cell l G (1) (by omega)) ⟨q_ml_RL_12, q_st_L_cell, q_ini_RL, q_code_L_cell⟩ hs_L_cell trivial ⟨Nat.le_of_ble_eq_true rfl, Nat.le_of_ble_eq_true rfl⟩ ⟨(by show 3 ≤ 46600; omega), (by show 10 ≤ 705000; omega)⟩ rfl hl.1 rfl (Nat.le_of_ble_eq_true rfl) dL_build_79) (fun w79 hw79 => ?_)
    refine z_bipush hx hb dL_build_82 (by decide) ?_
    refine k_RB (c_SB (As := [.int (zI w79), .int (zI 15)]) (rest := []) ⟨hx, hb, hml, hown, hts⟩ hG hS hA (c_L_below l G _ 15 (by omega)) ⟨q_ml_RL_18, q_st_L_below, q_ini_RL, q_code_L_below⟩ hs_L_below trivial ⟨Nat.le_of_ble_eq_true rfl, Nat.le_of_ble_eq_true rfl⟩ ⟨(by show 3 ≤ 46600; omega), (by show 10 ≤ 705000; omega)⟩ rfl hl.1 rfl (Nat.le_of_ble_eq_true rfl) dL_build_84) (fun r84 hr84 => ?_)
    refine z_bipush hx hb dL_build_87 (by decide) ?_
    refine z_isub (x := r84) (y := 7) hx hb dL_build_89 ?_
    obtain ⟨ky, hky⟩ : ∃ ky, ky = r84 - 7 := ⟨_, rfl⟩
    rw [← hky]
    have hky9 : -7 ≤ ky ∧ ky ≤ 7 := by omega
    refine lv_istore (lv' := [(4, .int (zI ky)), (3, .ref h), (0, .ref (ad 0)), (1, .ref (G.2.1 10)), (2, .int (zI 40))]) hx hb dL_build_90 hl (by decide) rfl (fun ls hl => ?_)
    refine lv_aload_n hx hb dL_build_92 rfl (lv_at hl 2 rfl) ?_
    refine lv_iload hx hb dL_build_93 (lv_at hl 0 rfl) ?_
    refine k_Wi (c_VW (As := [.int (zI ky)]) (rest := []) ⟨hx, hb, hml, hown, hts⟩ hG hS hA (g_setKey (sz := H.size) hst hky9) ⟨q_ml_RL_38, q_im_X2_setKey, q_sel_X2_setKey, q_ini_RX2, q_code_X2_setKey⟩ hv_X2_setKey (hGI.rec hK) hGI ⟨Nat.le_of_ble_eq_true rfl, Nat.le_of_ble_eq_true rfl⟩ ⟨(by show 3 + 1 ≤ 46600; omega), (by show 10 + 6 ≤ 705000; omega)⟩ rfl hl.1 rfl (Nat.le_of_ble_eq_true rfl) dL_build_95) hS (fA_mono hS.1) (fun r H1 locs1 hq hz1 hk1 hS => ?_)
    obtain ⟨hr9, hGI⟩ := hq
    rw [hr9]
    have nfa : ∀ q : Nat, h ≤ q → q < H.size → ¬ fA 94 ad H.size q := fun q h1 h2 hq => by rcases hq with ⟨k, hk, e⟩ | hq; have := had k hk; omega; omega
    have hO := va_at.kept hO (hk1 _ (va_at.lt hO) (nfa h (Nat.le_refl h) (va_at.lt hO)))
    have hVs := hVs.kept (hk1 _ hVs.lt (nfa (h + 1) (by omega) hVs.lt))
    refine z_if_eq (a := 0) (tgt := 103) hx hb dL_build_98 (by decide) (by decide) (fun _ => ?_) (fun h9 => absurd rfl h9)
    refine lv_aload_n hx hb dL_build_103 rfl (lv_at hl 1 rfl) ?_
    refine lv_iload hx hb dL_build_104 (lv_at hl 0 rfl) ?_
    refine z_put (C := RX3) (T := TX3) (N := 4) (v := .int (zI ky)) hx hb hK hts u_in_X3 tyX3 tyX3_ok nmX3 hown hS (hAh h (Nat.le_refl h)) hO rfl 2 (by decide) q_fl_RL_42 rfl rfl rfl (by show 2 < 4; decide) dL_build_106 (fun H2 locs2 hT z2 o2 hS => ?_)
    have hO : HO G h (h + 1) bt pt ky H2 := hT
    have hVs := hVs.kept (o2 _ (by show h + 1 ≠ h; omega))
    have hGI := hGI.kept (H1 := H2) (fun k hk => o2 _ (by have := had k hk; omega))
    refine z_iconst hx hb dL_build_109 ?_
    refine lv_aload_n hx hb dL_build_110 rfl (lv_at hl 3 rfl) ?_
    refine z_iconst hx hb dL_build_111 ?_
    refine k_RB (c_SB (As := [.ref (G.2.1 10), .int (zI (1))]) (rest := [.int (zI 1)]) ⟨hx, hb, hml, hown, hts⟩ hG hS hA (c_L_cell l G (1) (by omega)) ⟨q_ml_RL_12, q_st_L_cell, q_ini_RL, q_code_L_cell⟩ hs_L_cell trivial ⟨Nat.le_of_ble_eq_true rfl, Nat.le_of_ble_eq_true rfl⟩ ⟨(by show 3 + 1 ≤ 46600; omega), (by show 10 + 6 ≤ 705000; omega)⟩ rfl hl.1 rfl (Nat.le_of_ble_eq_true rfl) dL_build_112) (fun w112 hw112 => ?_)
    refine z_iconst hx hb dL_build_115 ?_
    refine z_ishrB hx hb dL_build_116 (fun w116 hw116 => ?_)
    refine z_iconst hx hb dL_build_117 ?_
    refine k_RB (c_SB (As := [.int (zI w116), .int (zI 3)]) (rest := [.int (zI 1)]) ⟨hx, hb, hml, hown, hts⟩ hG hS hA (c_L_below l G _ 3 (by omega)) ⟨q_ml_RL_18, q_st_L_below, q_ini_RL, q_code_L_below⟩ hs_L_below trivial ⟨Nat.le_of_ble_eq_true rfl, Nat.le_of_ble_eq_true rfl⟩ ⟨(by show 3 + 1 ≤ 46600; omega), (by show 10 + 6 ≤ 705000; omega)⟩ rfl hl.1 rfl (Nat.le_of_ble_eq_true rfl) dL_build_118) (fun r118 hr118 => ?_)
    refine z_iadd (x := 1) (y := r118) hx hb dL_build_121 ?_
    obtain ⟨nv, hnv⟩ : ∃ nv, nv = 1 + r118 := ⟨_, rfl⟩
    rw [← hnv]
    have hnv9 : 1 ≤ nv ∧ nv ≤ 3 := by omega
    refine lv_istore (lv' := [(5, .int (zI nv)), (4, .int (zI ky)), (3, .ref h), (0, .ref (ad 0)), (1, .ref (G.2.1 10)), (2, .int (zI 40))]) hx hb dL_build_122 hl (by decide) rfl (fun ls hl => ?_)
    refine z_iconst hx hb dL_build_124 ?_
    refine lv_istore (lv' := [(6, .int (zI 0)), (5, .int (zI nv)), (4, .int (zI ky)), (3, .ref h), (0, .ref (ad 0)), (1, .ref (G.2.1 10)), (2, .int (zI 40))]) hx hb dL_build_125 hl (by decide) rfl (fun ls hl => ?_)
    have lp127 : ∀ (w : Nat) (v : Int), 0 ≤ v → v ≤ nv → nv - v < w → ∀ (vs : Nat) (f : Nat → Nat) (H : Heap) (locs : List Loc), HP9 G h (h + 1) vs f bt pt ky v n00 gb0 H → GI G ad bt pt ky v n00 gb0 H → va_S (fA 94 ad s.heap.size) s.heap H locs → ∀ ls : Array Slot, lv_has ls 16 [(6, .int (zI v)), (5, .int (zI nv)), (3, .ref h), (0, .ref (ad 0)), (1, .ref (G.2.1 10)), (2, .int (zI 40))] → W p l env (rmz 8 163 46600 705000) s m (([.ref (ad 0), .ref (G.2.1 10), .int (zI 40)] : List Value).toArray) below meth c H locs (4 + 3 * v.toNat) (16 + 16 * v.toNat) (MQ below (QWA (fA 94 ad s.heap.size) (fun h H => s.heap.size ≤ h ∧ ∃ (vs : Nat) (bt pt ky nv : Int) (n : Int → Int) (B : Int → Int → Int), (1 ≤ nv ∧ nv ≤ 3) ∧ HO G h vs bt pt ky H ∧ GI G ad bt pt ky nv n B H ∧ RZ n B)) (([.ref (ad 0), .ref (G.2.1 10), .int (zI 40)] : List Value).toArray) s 46600 705000 (fA 94 ad s.heap.size)) (F0 m 127 ls []) := by
      intro w
      induction w with
      | zero => intro v v0 v1 hm; omega
      | succ w ih =>
        intro v v0 v1 hm vs f H locs hP hGI hS ls hl
        have nfa : ∀ q : Nat, h ≤ q → q < H.size → ¬ fA 94 ad H.size q := fun q h1 h2 hq => by rcases hq with ⟨k, hk, e⟩ | hq; have := had k hk; omega; omega
        refine lv_iload hx hb dL_build_127 (lv_at hl 0 rfl) ?_
        refine lv_iload hx hb dL_build_129 (lv_at hl 1 rfl) ?_
        refine z_icmp_ge (a := v) (b := nv) (tgt := 155) hx hb dL_build_131 (by decide) (by omega) (by omega) (fun h131 => ?_) (fun h131 => ?_)
        · skip
          have hvn : v = nv := by omega
          subst hvn
          refine z_iconst hx hb dL_build_155 ?_
          refine lv_istore (lv' := [(6, .int (zI 0)), (5, .int (zI v)), (3, .ref h), (0, .ref (ad 0)), (1, .ref (G.2.1 10)), (2, .int (zI 40))]) hx hb dL_build_156 hl (by decide) rfl (fun ls hl => ?_)
          have lp158 : ∀ (w k : Nat), k ≤ 40 → 40 - k < w → ∀ (vs : Nat) (f : Nat → Nat) (n : Int → Int) (B : Int → Int → Int) (H : Heap) (locs : List Loc), HP9 G h (h + 1) vs f bt pt ky v n B H → GI G ad bt pt ky v n B H → RZ n B → va_S (fA 94 ad s.heap.size) s.heap H locs → ∀ ls : Array Slot, lv_has ls 16 [(6, .int (zI (k : Int))), (5, .int (zI v)), (3, .ref h), (0, .ref (ad 0)), (1, .ref (G.2.1 10)), (2, .int (zI 40))] → W p l env (rmz 8 163 46600 705000) s m (([.ref (ad 0), .ref (G.2.1 10), .int (zI 40)] : List Value).toArray) below meth c H locs (13 + 1150 * k) (64 + 17600 * k) (MQ below (QWA (fA 94 ad s.heap.size) (fun h H => s.heap.size ≤ h ∧ ∃ (vs : Nat) (bt pt ky nv : Int) (n : Int → Int) (B : Int → Int → Int), (1 ≤ nv ∧ nv ≤ 3) ∧ HO G h vs bt pt ky H ∧ GI G ad bt pt ky nv n B H ∧ RZ n B)) (([.ref (ad 0), .ref (G.2.1 10), .int (zI 40)] : List Value).toArray) s 46600 705000 (fA 94 ad s.heap.size)) (F0 m 158 ls []) := by
            intro w
            induction w with
            | zero => intro k k0 hm; omega
            | succ w ih2 =>
              intro k k0 hm vs f n B H locs hP hGI hZ hS ls hl
              have hgp := hGI.pure
              have hbr := hgp.bar
              have nfa : ∀ q : Nat, h ≤ q → q < H.size → ¬ fA 94 ad H.size q := fun q h1 h2 hq => by rcases hq with ⟨k, hk, e⟩ | hq; have := had k hk; omega; omega
              have hlv := hP.1
              have hvl : vs < H.size := hP.2.2.1.lt
              refine lv_iload hx hb dL_build_158 (lv_at hl 0 rfl) ?_
              refine lv_iload_n hx hb dL_build_160 rfl (lv_at hl 5 rfl) ?_
              refine z_icmp_ge (a := (k : Int)) (b := 40) (tgt := 539) hx hb dL_build_161 (by decide) (by omega) (by decide) (fun h161 => ?_) (fun h161 => ?_)
              · skip
                refine lv_aload_n hx hb dL_build_539 rfl (lv_at hl 2 rfl) ?_
                exact e_Wa hx hb hr (Or.inl ⟨_, rfl⟩) hlk hS (by omega) (by omega) ⟨by omega, vs, bt, pt, ky, v, n, B, hnv9, hP.2.1, hGI, hZ⟩ dL_build_540
              · skip
                have J533 : ∀ (vs : Nat) (f : Nat → Nat) (n : Int → Int) (B : Int → Int → Int) (H : Heap) (locs : List Loc), HP9 G h (h + 1) vs f bt pt ky v n B H → GI G ad bt pt ky v n B H → RZ n B → va_S (fA 94 ad s.heap.size) s.heap H locs → ∀ ls : Array Slot, lv_has ls 16 [(6, .int (zI (k : Int))), (5, .int (zI v)), (3, .ref h), (0, .ref (ad 0)), (1, .ref (G.2.1 10)), (2, .int (zI 40))] → W p l env (rmz 8 163 46600 705000) s m (([.ref (ad 0), .ref (G.2.1 10), .int (zI 40)] : List Value).toArray) below meth c H locs (13 + 1150 * (k + 1)) (64 + 17600 * (k + 1)) (MQ below (QWA (fA 94 ad s.heap.size) (fun h H => s.heap.size ≤ h ∧ ∃ (vs : Nat) (bt pt ky nv : Int) (n : Int → Int) (B : Int → Int → Int), (1 ≤ nv ∧ nv ≤ 3) ∧ HO G h vs bt pt ky H ∧ GI G ad bt pt ky nv n B H ∧ RZ n B)) (([.ref (ad 0), .ref (G.2.1 10), .int (zI 40)] : List Value).toArray) s 46600 705000 (fA 94 ad s.heap.size)) (F0 m 533 ls []) := by
                  intro vs f n B H locs hP hGI hZ hS ls hl
                  refine z_iinc (lv' := [(6, .int (zI ((k : Int) + 1))), (5, .int (zI v)), (3, .ref h), (0, .ref (ad 0)), (1, .ref (G.2.1 10)), (2, .int (zI 40))]) hx hb dL_build_533 hl (k := 0) rfl (by decide) rfl (fun ls hl => ?_)
                  refine lv_goto (tgt := 158) hx hb dL_build_536 (by decide) ?_
                  exact ih2 (k + 1) (by omega) (by omega) vs f n B H locs hP hGI hZ hS ls (by rw [show ((k + 1 : Nat) : Int) = (k : Int) + 1 by omega]; exact hl)
                refine lv_aload_n hx hb dL_build_164 rfl (lv_at hl 4 rfl) ?_
                refine lv_iload hx hb dL_build_165 (lv_at hl 0 rfl) ?_
                refine z_bipush hx hb dL_build_167 (by decide) ?_
                refine z_iremt (x := (k : Int)) (y := 16) hx hb dL_build_169 (by omega) (by decide) ?_
                obtain ⟨k16, hk16⟩ : ∃ k16, k16 = (k : Int) - (k : Int).tdiv 16 * 16 := ⟨_, rfl⟩
                rw [← hk16]
                have hk9 : 0 ≤ k16 ∧ k16 ≤ 15 := by rw [Int.tdiv_eq_ediv_of_nonneg (by omega)] at hk16; omega
                refine k_RB (c_SB (As := [.ref (G.2.1 10), .int (zI (k16))]) (rest := []) ⟨hx, hb, hml, hown, hts⟩ hG hS hA (c_L_cell l G (k16) (by omega)) ⟨q_ml_RL_12, q_st_L_cell, q_ini_RL, q_code_L_cell⟩ hs_L_cell trivial ⟨Nat.le_of_ble_eq_true rfl, Nat.le_of_ble_eq_true rfl⟩ ⟨(by show 13 + 1150 * k ≤ 46600; omega), (by show 64 + 17600 * k ≤ 705000; omega)⟩ rfl hl.1 rfl (Nat.le_of_ble_eq_true rfl) dL_build_170) (fun w170 hw170 => ?_)
                refine lv_iload hx hb dL_build_173 (lv_at hl 0 rfl) ?_
                refine z_bipush hx hb dL_build_175 (by decide) ?_
                refine z_idiv (x := (k : Int)) (y := 16) hx hb dL_build_177 (by omega) (by decide) ?_
                refine z_iconst hx hb dL_build_178 ?_
                refine z_imul (x := (k : Int) / 16) (y := 4) hx hb dL_build_179 ?_
                refine z_ishrB hx hb dL_build_180 (fun w180 hw180 => ?_)
                refine lv_istore (lv' := [(7, .int (zI w180)), (6, .int (zI (k : Int))), (5, .int (zI v)), (3, .ref h), (0, .ref (ad 0)), (1, .ref (G.2.1 10)), (2, .int (zI 40))]) hx hb dL_build_181 hl (by decide) rfl (fun ls hl => ?_)
                refine lv_iload hx hb dL_build_183 (lv_at hl 0 rfl) ?_
                refine lv_iload hx hb dL_build_185 (lv_at hl 2 rfl) ?_
                refine k_RB (c_SB (As := [.int (zI w180), .int (zI v)]) (rest := []) ⟨hx, hb, hml, hown, hts⟩ hG hS hA (c_L_below l G _ v (by omega)) ⟨q_ml_RL_18, q_st_L_below, q_ini_RL, q_code_L_below⟩ hs_L_below trivial ⟨Nat.le_of_ble_eq_true rfl, Nat.le_of_ble_eq_true rfl⟩ ⟨(by show 13 + 1150 * k ≤ 46600; omega), (by show 64 + 17600 * k ≤ 705000; omega)⟩ rfl hl.1 rfl (Nat.le_of_ble_eq_true rfl) dL_build_187) (fun r187 hr187 => ?_)
                refine lv_istore (lv' := [(8, .int (zI r187)), (7, .int (zI w180)), (6, .int (zI (k : Int))), (5, .int (zI v)), (3, .ref h), (0, .ref (ad 0)), (1, .ref (G.2.1 10)), (2, .int (zI 40))]) hx hb dL_build_190 hl (by decide) rfl (fun ls hl => ?_)
                refine z_iconst hx hb dL_build_192 ?_
                refine lv_iload hx hb dL_build_193 (lv_at hl 1 rfl) ?_
                refine z_iconst hx hb dL_build_195 ?_
                refine z_ishrB hx hb dL_build_196 (fun w196 hw196 => ?_)
                refine z_bipush hx hb dL_build_197 (by decide) ?_
                refine k_RB (c_SB (As := [.int (zI w196), .int (zI 6)]) (rest := [.int (zI 1)]) ⟨hx, hb, hml, hown, hts⟩ hG hS hA (c_L_below l G _ 6 (by omega)) ⟨q_ml_RL_18, q_st_L_below, q_ini_RL, q_code_L_below⟩ hs_L_below trivial ⟨Nat.le_of_ble_eq_true rfl, Nat.le_of_ble_eq_true rfl⟩ ⟨(by show 13 + 1150 * k ≤ 46600; omega), (by show 64 + 17600 * k ≤ 705000; omega)⟩ rfl hl.1 rfl (Nat.le_of_ble_eq_true rfl) dL_build_199) (fun r199 hr199 => ?_)
                refine z_ishl (x := 1) (r := r199) hx hb (Or.inl rfl) (by omega) dL_build_202 ?_
                rw [show (1 : Int) * sh2 r199 = sh2 r199 from Int.one_mul _]
                have hp9 : 1 ≤ sh2 r199 ∧ sh2 r199 ≤ 32 := by unfold sh2; (repeat' split) <;> omega
                refine lv_istore (lv' := [(9, .int (zI (sh2 r199))), (8, .int (zI r187)), (7, .int (zI w180)), (6, .int (zI (k : Int))), (5, .int (zI v)), (3, .ref h), (0, .ref (ad 0)), (1, .ref (G.2.1 10)), (2, .int (zI 40))]) hx hb dL_build_203 hl (by decide) rfl (fun ls hl => ?_)
                have J235 : ∀ d : Int, 0 ≤ d ∧ d < lim9 (sh2 r199) → ∀ ls : Array Slot, lv_has ls 16 [(9, .int (zI (sh2 r199))), (8, .int (zI r187)), (7, .int (zI w180)), (6, .int (zI (k : Int))), (5, .int (zI v)), (3, .ref h), (0, .ref (ad 0)), (1, .ref (G.2.1 10)), (2, .int (zI 40))] → W p l env (rmz 8 163 46600 705000) s m (([.ref (ad 0), .ref (G.2.1 10), .int (zI 40)] : List Value).toArray) below meth c H locs (13 + 1150 * k) (64 + 17600 * k) (MQ below (QWA (fA 94 ad s.heap.size) (fun h H => s.heap.size ≤ h ∧ ∃ (vs : Nat) (bt pt ky nv : Int) (n : Int → Int) (B : Int → Int → Int), (1 ≤ nv ∧ nv ≤ 3) ∧ HO G h vs bt pt ky H ∧ GI G ad bt pt ky nv n B H ∧ RZ n B)) (([.ref (ad 0), .ref (G.2.1 10), .int (zI 40)] : List Value).toArray) s 46600 705000 (fA 94 ad s.heap.size)) (F0 m 235 ls [.int (zI d)]) := by
                  intro d hd ls hl
                  obtain ⟨x, hx9, hpx, hdx⟩ := vx_of (r := r199) (by omega) hd
                  rw [hpx] at hl
                  subst hdx
                  refine lv_istore (lv' := [(10, .int (zI (valD x))), (9, .int (zI (valP x))), (8, .int (zI r187)), (7, .int (zI w180)), (6, .int (zI (k : Int))), (5, .int (zI v)), (3, .ref h), (0, .ref (ad 0)), (1, .ref (G.2.1 10)), (2, .int (zI 40))]) hx hb dL_build_235 hl (by decide) rfl (fun ls hl => ?_)
                  have hm := hgp.many (v := r187) (by omega)
                  obtain ⟨fr, hfr⟩ : ∃ fr, fr = bgM B r187 (n r187) := ⟨_, rfl⟩
                  have hf := hgp.bg (v := r187) (e := n r187) (by omega) ⟨hm.1, Int.le_refl _⟩
                  rw [← hfr] at hf
                  have vt := valT_rng hx9
                  refine lv_aload_n hx hb dL_build_237 rfl (lv_at hl 6 rfl) ?_
                  refine lv_iload hx hb dL_build_238 (lv_at hl 2 rfl) ?_
                  refine k_R (c_VR (As := [.int (zI r187)]) (rest := []) ⟨hx, hb, hml, hown, hts⟩ hG hS hA (c_X3_end l G h (h + 1) vs f bt pt ky v n B r187 hr187 (by omega) ⟨hm.1, by omega⟩) ⟨q_ml_RL_50, q_im_X3_end, q_sel_X3_end, q_ini_RX3, q_code_X3_end⟩ hv_X3_end (va_at_rec hK hP.2.1 (C := RX3) (T := TX3) (N := 4) rfl) hP ⟨Nat.le_of_ble_eq_true rfl, Nat.le_of_ble_eq_true rfl⟩ ⟨(by show 13 + 1150 * k ≤ 46600; omega), (by show 64 + 17600 * k ≤ 705000; omega)⟩ rfl hl.1 rfl (Nat.le_of_ble_eq_true rfl) dL_build_240) ?_
                  rw [← hfr]
                  refine lv_iload hx hb dL_build_243 (lv_at hl 1 rfl) ?_
                  refine lv_iload hx hb dL_build_245 (lv_at hl 0 rfl) ?_
                  refine k_R (c_SR (As := [.int (zI (valP x)), .int (zI (valD x))]) (rest := [.int (zI fr)]) ⟨hx, hb, hml, hown, hts⟩ hG hS hA (c_X3_ticks l G (valP x) (valD x) (valPD_rng hx9).1 (valPD_rng hx9).2) ⟨q_ml_RL_53, q_st_X3_ticks, q_ini_RX3, q_code_X3_ticks⟩ hs_X3_ticks trivial ⟨Nat.le_of_ble_eq_true rfl, Nat.le_of_ble_eq_true rfl⟩ ⟨(by show 13 + 1150 * k ≤ 46600; omega), (by show 64 + 17600 * k ≤ 705000; omega)⟩ rfl hl.1 rfl (Nat.le_of_ble_eq_true rfl) dL_build_247) ?_
                  rw [tkH_val hx9]
                  refine z_iadd (x := fr) (y := valT x) hx hb dL_build_250 ?_
                  refine z_bipush hx hb dL_build_251 (by decide) ?_
                  refine lv_aload_n hx hb dL_build_253 rfl (lv_at hl 6 rfl) ?_
                  refine k_R (c_VR (As := []) (rest := [.int (zI 100), .int (zI (fr + valT x))]) ⟨hx, hb, hml, hown, hts⟩ hG hS hA (c_X3_bar l G h vs bt pt ky hbt hpt) ⟨q_ml_RL_34, q_im_X3_bar, q_sel_X3_bar, q_ini_RX3, q_code_X3_bar⟩ hv_X3_bar (va_at_rec hK hP.2.1 (C := RX3) (T := TX3) (N := 4) rfl) hP.2.1 ⟨Nat.le_of_ble_eq_true rfl, Nat.le_of_ble_eq_true rfl⟩ ⟨(by show 13 + 1150 * k ≤ 46600; omega), (by show 64 + 17600 * k ≤ 705000; omega)⟩ rfl hl.1 rfl (Nat.le_of_ble_eq_true rfl) dL_build_254) ?_
                  refine z_imul (x := 100) (y := bt * 384 / pt) hx hb dL_build_257 ?_
                  have hbm : 4800 ≤ 100 * (bt * 384 / pt) ∧ 100 * (bt * 384 / pt) ≤ 230400 := by omega
                  refine z_icmp_gt (a := fr + valT x) (b := 100 * (bt * 384 / pt)) (tgt := 533) hx hb dL_build_258 (by decide) (by omega) (by omega) (fun h258 => ?_) (fun h258 => ?_)
                  · skip
                    exact W.widen (k := 13 + 1150 * (k + 1)) (n := 64 + 17600 * (k + 1)) (by omega) (by omega) (J533 vs f n B H locs hP hGI hZ hS ls (lv_sub hl [4, 5, 6, 7, 8, 9] rfl))
                  · skip
                    obtain ⟨g, hg0, hg, hr9⟩ := hP.2.2.2 r187.toNat (by omega)
                    rw [Int.toNat_of_nonneg hr187.1] at hg hr9
                    obtain ⟨nk, hnk⟩ : ∃ nk : Nat, nk = (n r187).toNat := ⟨_, rfl⟩
                    rw [← hnk] at hg hr9
                    have hnkn : (nk : Int) = n r187 := by omega
                    refine lv_aload_n hx hb dL_build_261 rfl (lv_at hl 6 rfl) ?_
                    refine z_get (C := RX3) (T := TX3) (N := 4) hx hb hK hts u_in_X3 hown hP.2.1 rfl 3 (by decide) q_fl_RL_56 (v := .ref vs) rfl dL_build_262 ?_
                    refine lv_iload hx hb dL_build_265 (lv_at hl 2 rfl) ?_
                    refine z_aldr (t0 := 3) (n := v.toNat) hx hb hK rfl rfl hP.2.2.1 (i := r187) (by omega) (by omega) rfl dL_build_267 ?_
                    refine z_alenA hx hb hK (t0 := 1) rfl hg dL_build_268 ?_
                    refine z_sipush hx hb dL_build_269 (by decide) ?_
                    refine z_icmp_le (a := (nk : Int)) (b := 150) (tgt := 278) hx hb dL_build_272 (by decide) (by omega) (by decide) (fun h272 => ?_) (fun h272 => ?_)
                    · skip
                      have hfb : 0 ≤ fr ∧ fr % 12 = 0 ∧ fr ≤ 1000000 := by omega
                      obtain ⟨N, hN⟩ : ∃ N, N = cutN (bt * 384 / pt) (fr + valT x) fr := ⟨_, rfl⟩
                      have hNb := cb_le hx9 ⟨hbr.1, hbr.2.2⟩ ⟨hfb.1, hfb.2.1⟩ hN
                      have hful : n r187 + N ≤ 200 ∧ fr + valT x ≤ 100 * (bt * 384 / pt) := by omega
                      refine lv_iload hx hb dL_build_278 (lv_at hl 3 rfl) ?_
                      refine z_iconst hx hb dL_build_280 ?_
                      refine z_ishrB hx hb dL_build_281 (fun w281 hw281 => ?_)
                      refine z_bipush hx hb dL_build_282 (by decide) ?_
                      refine k_RB (c_SB (As := [.int (zI w281), .int (zI 6)]) (rest := []) ⟨hx, hb, hml, hown, hts⟩ hG hS hA (c_L_below l G _ 6 (by omega)) ⟨q_ml_RL_18, q_st_L_below, q_ini_RL, q_code_L_below⟩ hs_L_below trivial ⟨Nat.le_of_ble_eq_true rfl, Nat.le_of_ble_eq_true rfl⟩ ⟨(by show 13 + 1150 * k ≤ 46600; omega), (by show 64 + 17600 * k ≤ 705000; omega)⟩ rfl hl.1 rfl (Nat.le_of_ble_eq_true rfl) dL_build_284) (fun r284 hr284 => ?_)
                      refine z_if_ne (a := r284) (tgt := 320) hx hb dL_build_287 (by decide) (by omega) (fun h287 => ?_) (fun h287 => ?_)
                      · skip
                        refine lv_iload hx hb dL_build_320 (lv_at hl 3 rfl) ?_
                        refine z_iconst hx hb dL_build_322 ?_
                        refine z_ishrB hx hb dL_build_323 (fun w323 hw323 => ?_)
                        refine z_bipush hx hb dL_build_324 (by decide) ?_
                        refine k_RB (c_SB (As := [.int (zI w323), .int (zI 7)]) (rest := []) ⟨hx, hb, hml, hown, hts⟩ hG hS hA (c_L_below l G _ 7 (by omega)) ⟨q_ml_RL_18, q_st_L_below, q_ini_RL, q_code_L_below⟩ hs_L_below trivial ⟨Nat.le_of_ble_eq_true rfl, Nat.le_of_ble_eq_true rfl⟩ ⟨(by show 13 + 1150 * k ≤ 46600; omega), (by show 64 + 17600 * k ≤ 705000; omega)⟩ rfl hl.1 rfl (Nat.le_of_ble_eq_true rfl) dL_build_326) (fun r326 hr326 => ?_)
                        refine lv_istore (lv' := [(11, .int (zI r326)), (10, .int (zI (valD x))), (9, .int (zI (valP x))), (8, .int (zI r187)), (7, .int (zI w180)), (6, .int (zI (k : Int))), (5, .int (zI v)), (3, .ref h), (0, .ref (ad 0)), (1, .ref (G.2.1 10)), (2, .int (zI 40))]) hx hb dL_build_329 hl (by decide) rfl (fun ls hl => ?_)
                        have J363 : ∀ sg : Int, -2 ≤ sg ∧ sg ≤ 2 → ∀ ls : Array Slot, lv_has ls 16 [(11, .int (zI r326)), (10, .int (zI (valD x))), (9, .int (zI (valP x))), (8, .int (zI r187)), (7, .int (zI w180)), (6, .int (zI (k : Int))), (5, .int (zI v)), (3, .ref h), (0, .ref (ad 0)), (1, .ref (G.2.1 10)), (2, .int (zI 40))] → W p l env (rmz 8 163 46600 705000) s m (([.ref (ad 0), .ref (G.2.1 10), .int (zI 40)] : List Value).toArray) below meth c H locs (13 + 1150 * k) (64 + 17600 * k) (MQ below (QWA (fA 94 ad s.heap.size) (fun h H => s.heap.size ≤ h ∧ ∃ (vs : Nat) (bt pt ky nv : Int) (n : Int → Int) (B : Int → Int → Int), (1 ≤ nv ∧ nv ≤ 3) ∧ HO G h vs bt pt ky H ∧ GI G ad bt pt ky nv n B H ∧ RZ n B)) (([.ref (ad 0), .ref (G.2.1 10), .int (zI 40)] : List Value).toArray) s 46600 705000 (fA 94 ad s.heap.size)) (F0 m 363 ls [.int (zI sg)]) := by
                          intro sg hsg ls hl
                          refine lv_istore (lv' := [(12, .int (zI sg)), (11, .int (zI r326)), (10, .int (zI (valD x))), (9, .int (zI (valP x))), (8, .int (zI r187)), (7, .int (zI w180)), (6, .int (zI (k : Int))), (5, .int (zI v)), (3, .ref h), (0, .ref (ad 0)), (1, .ref (G.2.1 10)), (2, .int (zI 40))]) hx hb dL_build_363 hl (by decide) rfl (fun ls hl => ?_)
                          refine z_iconst hx hb dL_build_365 ?_
                          refine lv_iload hx hb dL_build_366 (lv_at hl 5 rfl) ?_
                          refine z_bipush hx hb dL_build_368 (by decide) ?_
                          refine z_ishrB hx hb dL_build_370 (fun w370 hw370 => ?_)
                          refine z_iconst hx hb dL_build_371 ?_
                          refine k_RB (c_SB (As := [.int (zI w370), .int (zI 2)]) (rest := [.int (zI 4)]) ⟨hx, hb, hml, hown, hts⟩ hG hS hA (c_L_below l G _ 2 (by omega)) ⟨q_ml_RL_18, q_st_L_below, q_ini_RL, q_code_L_below⟩ hs_L_below trivial ⟨Nat.le_of_ble_eq_true rfl, Nat.le_of_ble_eq_true rfl⟩ ⟨(by show 13 + 1150 * k ≤ 46600; omega), (by show 64 + 17600 * k ≤ 705000; omega)⟩ rfl hl.1 rfl (Nat.le_of_ble_eq_true rfl) dL_build_372) (fun r372 hr372 => ?_)
                          refine z_iadd (x := 4) (y := r372) hx hb dL_build_375 ?_
                          refine lv_istore (lv' := [(13, .int (zI (4 + r372))), (12, .int (zI sg)), (11, .int (zI r326)), (10, .int (zI (valD x))), (9, .int (zI (valP x))), (8, .int (zI r187)), (7, .int (zI w180)), (6, .int (zI (k : Int))), (5, .int (zI v)), (3, .ref h), (0, .ref (ad 0)), (1, .ref (G.2.1 10)), (2, .int (zI 40))]) hx hb dL_build_376 hl (by decide) rfl (fun ls hl => ?_)
                          have J395 : ∀ ti : Int, ti = 0 ∨ ti = 1 → ∀ ls : Array Slot, lv_has ls 16 [(13, .int (zI (4 + r372))), (12, .int (zI sg)), (11, .int (zI r326)), (10, .int (zI (valD x))), (9, .int (zI (valP x))), (8, .int (zI r187)), (7, .int (zI w180)), (6, .int (zI (k : Int))), (5, .int (zI v)), (3, .ref h), (0, .ref (ad 0)), (1, .ref (G.2.1 10)), (2, .int (zI 40))] → W p l env (rmz 8 163 46600 705000) s m (([.ref (ad 0), .ref (G.2.1 10), .int (zI 40)] : List Value).toArray) below meth c H locs (13 + 1150 * k) (64 + 17600 * k) (MQ below (QWA (fA 94 ad s.heap.size) (fun h H => s.heap.size ≤ h ∧ ∃ (vs : Nat) (bt pt ky nv : Int) (n : Int → Int) (B : Int → Int → Int), (1 ≤ nv ∧ nv ≤ 3) ∧ HO G h vs bt pt ky H ∧ GI G ad bt pt ky nv n B H ∧ RZ n B)) (([.ref (ad 0), .ref (G.2.1 10), .int (zI 40)] : List Value).toArray) s 46600 705000 (fA 94 ad s.heap.size)) (F0 m 395 ls [.int (zI ti)]) := by
                            intro ti hti ls hl
                            refine lv_istore (lv' := [(14, .int (zI ti)), (13, .int (zI (4 + r372))), (12, .int (zI sg)), (11, .int (zI r326)), (10, .int (zI (valD x))), (9, .int (zI (valP x))), (8, .int (zI r187)), (7, .int (zI w180)), (6, .int (zI (k : Int))), (5, .int (zI v)), (3, .ref h), (0, .ref (ad 0)), (1, .ref (G.2.1 10)), (2, .int (zI 40))]) hx hb dL_build_395 hl (by decide) rfl (fun ls hl => ?_)
                            have J482 : ∀ st sg oc : Int, (0 ≤ st ∧ st < 7 ∧ 0 ≤ oc ∧ oc < 9 ∧ -2 ≤ sg ∧ sg ≤ 2 ∧ 0 ≤ toneF st sg oc) → ∀ ls : Array Slot, lv_has ls 16 [(14, .int (zI ti)), (13, .int (zI oc)), (12, .int (zI sg)), (11, .int (zI st)), (10, .int (zI (valD x))), (9, .int (zI (valP x))), (8, .int (zI r187)), (6, .int (zI (k : Int))), (5, .int (zI v)), (3, .ref h), (0, .ref (ad 0)), (1, .ref (G.2.1 10)), (2, .int (zI 40))] → W p l env (rmz 8 163 46600 705000) s m (([.ref (ad 0), .ref (G.2.1 10), .int (zI 40)] : List Value).toArray) below meth c H locs (13 + 1150 * k) (64 + 17600 * k) (MQ below (QWA (fA 94 ad s.heap.size) (fun h H => s.heap.size ≤ h ∧ ∃ (vs : Nat) (bt pt ky nv : Int) (n : Int → Int) (B : Int → Int → Int), (1 ≤ nv ∧ nv ≤ 3) ∧ HO G h vs bt pt ky H ∧ GI G ad bt pt ky nv n B H ∧ RZ n B)) (([.ref (ad 0), .ref (G.2.1 10), .int (zI 40)] : List Value).toArray) s 46600 705000 (fA 94 ad s.heap.size)) (F0 m 482 ls []) := by
                              intro st sg oc hok ls hl
                              refine lv_aload_n hx hb dL_build_482 rfl (lv_at hl 10 rfl) ?_
                              refine lv_iload hx hb dL_build_483 (lv_at hl 6 rfl) ?_
                              refine lv_iload hx hb dL_build_485 (lv_at hl 5 rfl) ?_
                              refine lv_iload hx hb dL_build_487 (lv_at hl 4 rfl) ?_
                              refine lv_iload hx hb dL_build_489 (lv_at hl 3 rfl) ?_
                              refine lv_iload hx hb dL_build_491 (lv_at hl 2 rfl) ?_
                              refine lv_iload hx hb dL_build_493 (lv_at hl 1 rfl) ?_
                              refine lv_iload hx hb dL_build_495 (lv_at hl 0 rfl) ?_
                              refine z_iconst hx hb dL_build_497 ?_
                              refine z_b1 (ti := ti) hx hb hti dL_build_498 dL_build_501 dL_build_502 dL_build_505 ?_
                              have hsd : (sd7 (valP x) (valD x) 1 st sg oc ti) 0 = valP x ∧ (sd7 (valP x) (valD x) 1 st sg oc ti) 1 = valD x ∧ (sd7 (valP x) (valD x) 1 st sg oc ti) 2 = 1 ∧ (sd7 (valP x) (valD x) 1 st sg oc ti) 3 = st ∧ (sd7 (valP x) (valD x) 1 st sg oc ti) 4 = sg ∧ (sd7 (valP x) (valD x) 1 st sg oc ti) 5 = oc ∧ (sd7 (valP x) (valD x) 1 st sg oc ti) 6 = ti := ⟨rfl, rfl, rfl, rfl, rfl, rfl, rfl⟩
                              obtain ⟨sd, hsde⟩ : ∃ sd, sd = sd7 (valP x) (valD x) 1 st sg oc ti := ⟨_, rfl⟩
                              rw [← hsde] at hsd
                              obtain ⟨B1, hB1⟩ : ∃ B1, B1 = tbN B r187 (n r187) N (bt * 384 / pt) fr (fr + valT x) sd := ⟨_, rfl⟩
                              have hBB : ∀ u e w, 0 ≤ w → w < 7 → B1 u (10 * e + w) = if u = r187 ∧ n r187 ≤ e ∧ e < n r187 + N ∧ w < 7 then elC (bt * 384 / pt) (fr + valT x) fr sd (e - n r187) w else B u (10 * e + w) := by rw [hB1]; exact tbN_B
                              have hBa : ∀ j, 0 ≤ j → j < N → ∀ w, 0 ≤ w → w < 7 → B1 r187 (10 * (n r187 + j) + w) = elC (bt * 384 / pt) (fr + valT x) fr sd j w := by rw [hB1]; exact fun j j0 j1 w w0 w1 => tbN_at ⟨j0, j1⟩ ⟨w0, w1⟩
                              have hBl : ∀ u i, (u ≠ r187 ∨ i < 10 * n r187) → B1 u i = B u i := by rw [hB1]; exact fun u i hi => tbN_lo hi
                              have hZ1 : RZ (zU n r187 (n r187 + N)) B1 := by rw [hB1]; exact hZ.step (by rw [hsd.2.2.1, hsd.2.2.2.1, hsd.2.2.2.2.1, hsd.2.2.2.2.2.1]; exact fun q => absurd q (by decide)) hm.1 (by omega)
                              refine k_Wi (c_VW (As := [.int (zI r187), .int (zI (valP x)), .int (zI (valD x)), .int (zI st), .int (zI sg), .int (zI oc), .int (zI ti)]) (rest := []) ⟨hx, hb, hml, hown, hts⟩ hG hS hA (g_addNote (sz := H.size) (B' := B1) (sd := sd) hst hr187 hx9 hfr hN hful hok hti hsd.1 hsd.2.1 hsd.2.2.1 hsd.2.2.2.1 hsd.2.2.2.2.1 hsd.2.2.2.2.2.1 hsd.2.2.2.2.2.2 hBB) ⟨q_ml_RL_71, q_im_X2_addNote, q_sel_X2_addNote, q_ini_RX2, q_code_X2_addNote⟩ hv_X2_addNote (hGI.rec hK) hGI ⟨Nat.le_of_ble_eq_true rfl, Nat.le_of_ble_eq_true rfl⟩ ⟨(by show 13 + 1150 * k + 3 ≤ 46600; omega), (by show 64 + 17600 * k + 18 ≤ 705000; omega)⟩ rfl hl.1 rfl (Nat.le_of_ble_eq_true rfl) dL_build_506) hS (fA_mono hS.1) (fun r H1 locs1 hq hz1 hk1 hS => ?_)
                              obtain ⟨hr8, hGI⟩ := hq
                              rw [hr8]
                              have hP1 := (hP.tab hBl).kept (H1 := H1) (fun q h1 h2 => hk1 q h1 (nfa q h2 h1))
                              have hbg1 : bgM B1 r187 (n r187) = fr := by rw [hfr]; exact bg_same (n := n r187) (fun e e0 e1 w w0 w1 => hBl _ _ (Or.inr (by omega))) _ (Int.le_refl _)
                              refine lv_aload_n hx hb dL_build_509 rfl (lv_at hl 9 rfl) ?_
                              refine lv_iload hx hb dL_build_510 (lv_at hl 6 rfl) ?_
                              refine lv_iload hx hb dL_build_512 (lv_at hl 5 rfl) ?_
                              refine lv_iload hx hb dL_build_514 (lv_at hl 4 rfl) ?_
                              refine z_iconst hx hb dL_build_516 ?_
                              refine lv_iload hx hb dL_build_517 (lv_at hl 3 rfl) ?_
                              refine lv_iload hx hb dL_build_519 (lv_at hl 2 rfl) ?_
                              refine lv_iload hx hb dL_build_521 (lv_at hl 1 rfl) ?_
                              refine lv_iload hx hb dL_build_523 (lv_at hl 0 rfl) ?_
                              have hsz1 := hS.1
                              refine k_Wi (c_VW (As := [.int (zI r187), .int (zI (valP x)), .int (zI (valD x)), .int (zI 1), .int (zI st), .int (zI sg), .int (zI oc), .int (zI ti)]) (rest := [.int (zI N)]) ⟨hx, hb, hml, hown, hts⟩ hG hS hA (c_X3_add l G h (h + 1) vs f bt pt ky v n B1 r187 x 1 st sg oc ti fr N sd H1.size (by have := hG.2.1; omega) hbt hpt hr187 (by omega) hx9 hm.1 hful.1 hbg1 hfb hN hsd hBa) ⟨q_ml_RL_64, q_im_X3_add, q_sel_X3_add, q_ini_RX3, q_code_X3_add⟩ hv_X3_add (va_at_rec hK hP1.2.1 (C := RX3) (T := TX3) (N := 4) rfl) hP1 ⟨Nat.le_of_ble_eq_true rfl, Nat.le_of_ble_eq_true rfl⟩ ⟨(by show 13 + 1150 * k + 3 + 1140 ≤ 46600; omega), (by show 64 + 17600 * k + 18 + 17500 ≤ 705000; omega)⟩ rfl hl.1 rfl (Nat.le_of_ble_eq_true rfl) dL_build_525) hS (fun q hq => hAh q (by rcases hq with e | e <;> omega)) (fun r H2 locs2 hq hz2 hk2 hS => ?_)
                              obtain ⟨hr7, f1, hP2⟩ := hq
                              rw [hr7]
                              have hGI := hGI.kept (H1 := H2) (fun j hj => hk2 _ (hGI.lt hj) (by have := had j hj; rintro (e | e) <;> omega))
                              refine z_icmp_eq (a := N) (b := N) (tgt := 533) hx hb dL_build_528 (by decide) (by omega) (by omega) (fun _ => ?_) (fun h9 => absurd rfl h9)
                              exact W.widen (k := 13 + 1150 * (k + 1)) (n := 64 + 17600 * (k + 1)) (by omega) (by omega) (J533 vs f1 _ B1 H2 _ hP2 hGI hZ1 hS ls (lv_sub hl [7, 8, 9, 10, 11, 12] rfl))
                            have hst9 : 0 ≤ toneF r326 sg (4 + r372) := by have := stepT_rng (k := r326) (by omega); unfold toneF; omega
                            have J482a := J482 r326 sg (4 + r372) ⟨by omega, by omega, by omega, by omega, by omega, by omega, hst9⟩
                            refine lv_iload hx hb dL_build_397 (lv_at hl 7 rfl) ?_
                            refine z_bipush hx hb dL_build_399 (by decide) ?_
                            refine z_ishrB hx hb dL_build_401 (fun w401 hw401 => ?_)
                            refine z_iconst hx hb dL_build_402 ?_
                            refine k_RB (c_SB (As := [.int (zI w401), .int (zI 3)]) (rest := []) ⟨hx, hb, hml, hown, hts⟩ hG hS hA (c_L_below l G _ 3 (by omega)) ⟨q_ml_RL_18, q_st_L_below, q_ini_RL, q_code_L_below⟩ hs_L_below trivial ⟨Nat.le_of_ble_eq_true rfl, Nat.le_of_ble_eq_true rfl⟩ ⟨(by show 13 + 1150 * k ≤ 46600; omega), (by show 64 + 17600 * k ≤ 705000; omega)⟩ rfl hl.1 rfl (Nat.le_of_ble_eq_true rfl) dL_build_403) (fun r403 hr403 => ?_)
                            refine z_if_ne (a := r403) (tgt := 482) hx hb dL_build_406 (by decide) (by omega) (fun _ => ?_) (fun _ => ?_)
                            · exact J482a ls (lv_sub hl [0, 1, 2, 3, 4, 5, 6, 8, 9, 10, 11, 12, 13] rfl)
                            · skip
                              refine lv_aload_n hx hb dL_build_409 rfl (lv_at hl 10 rfl) ?_
                              refine z_get (C := RX3) (T := TX3) (N := 4) hx hb hK hts u_in_X3 hown hP.2.1 rfl 3 (by decide) q_fl_RL_56 (v := .ref vs) rfl dL_build_410 ?_
                              refine lv_iload hx hb dL_build_413 (lv_at hl 6 rfl) ?_
                              refine z_aldr (t0 := 3) (n := v.toNat) hx hb hK rfl rfl hP.2.2.1 (i := r187) (by omega) (by omega) rfl dL_build_415 ?_
                              refine z_alenA hx hb hK (t0 := 1) rfl hg dL_build_416 ?_
                              refine z_if_le (a := (nk : Int)) (tgt := 482) hx hb dL_build_417 (by decide) (by omega) (fun _ => ?_) (fun h417 => ?_)
                              · exact J482a ls (lv_sub hl [0, 1, 2, 3, 4, 5, 6, 8, 9, 10, 11, 12, 13] rfl)
                              · skip
                                have hk1 : nk - 1 < nk := by omega
                                have hc9 := (hr9 (nk - 1) hk1).2
                                have hke : ((nk - 1 : Nat) : Int) = n r187 - 1 := by omega
                                have hrow : ∀ w : Int, w < 7 → hD B r187 ((nk - 1 : Nat) : Int) w = B r187 (10 * (n r187 - 1) + w) := fun w hw => by unfold hD; rw [if_pos hw, hke]
                                have hel := hgp.1.el (v := r187) (e := n r187 - 1) (by omega) (show 0 ≤ n r187 - 1 ∧ n r187 - 1 < n r187 by omega)
                                refine lv_aload_n hx hb dL_build_420 rfl (lv_at hl 10 rfl) ?_
                                refine z_get (C := RX3) (T := TX3) (N := 4) hx hb hK hts u_in_X3 hown hP.2.1 rfl 3 (by decide) q_fl_RL_56 (v := .ref vs) rfl dL_build_421 ?_
                                refine lv_iload hx hb dL_build_424 (lv_at hl 6 rfl) ?_
                                refine z_aldr (t0 := 3) (n := v.toNat) hx hb hK rfl rfl hP.2.2.1 (i := r187) (by omega) (by omega) rfl dL_build_426 ?_
                                refine lv_aload_n hx hb dL_build_427 rfl (lv_at hl 10 rfl) ?_
                                refine z_get (C := RX3) (T := TX3) (N := 4) hx hb hK hts u_in_X3 hown hP.2.1 rfl 3 (by decide) q_fl_RL_56 (v := .ref vs) rfl dL_build_428 ?_
                                refine lv_iload hx hb dL_build_431 (lv_at hl 6 rfl) ?_
                                refine z_aldr (t0 := 3) (n := v.toNat) hx hb hK rfl rfl hP.2.2.1 (i := r187) (by omega) (by omega) rfl dL_build_433 ?_
                                refine z_alenA hx hb hK (t0 := 1) rfl hg dL_build_434 ?_
                                refine z_iconst hx hb dL_build_435 ?_
                                refine z_isub (x := (nk : Int)) (y := 1) hx hb dL_build_436 ?_
                                refine z_aldr (t0 := 1) (n := nk) hx hb hK rfl rfl hg (i := (nk : Int) - 1) (by omega) (by omega) (q := g (nk - 1)) (by rw [show ((nk : Int) - 1).toNat = nk - 1 by omega]) dL_build_437 ?_
                                refine z_iconst hx hb dL_build_438 ?_
                                refine z_ald (n := 9) hx hb hK hc9 (i := 2) (by decide) (by decide) dL_build_439 ?_
                                show W p l env (rmz 8 163 46600 705000) s m (([.ref (ad 0), .ref (G.2.1 10), .int (zI 40)] : List Value).toArray) below meth c H locs (13 + 1150 * k) (64 + 17600 * k) (MQ below (QWA (fA 94 ad s.heap.size) (fun h H => s.heap.size ≤ h ∧ ∃ (vs : Nat) (bt pt ky nv : Int) (n : Int → Int) (B : Int → Int → Int), (1 ≤ nv ∧ nv ≤ 3) ∧ HO G h vs bt pt ky H ∧ GI G ad bt pt ky nv n B H ∧ RZ n B)) (([.ref (ad 0), .ref (G.2.1 10), .int (zI 40)] : List Value).toArray) s 46600 705000 (fA 94 ad s.heap.size)) (F0 m 440 ls [.int (zI (hD B r187 ((nk - 1 : Nat) : Int) 2))])
                                rw [hrow 2 (by decide)]
                                refine z_iconst hx hb dL_build_440 ?_
                                refine z_icmp_ne (a := B r187 (10 * (n r187 - 1) + 2)) (b := 1) (tgt := 482) hx hb dL_build_441 (by decide) (by omega) (by decide) (fun _ => ?_) (fun h441 => ?_)
                                · exact J482a ls (lv_sub hl [0, 1, 2, 3, 4, 5, 6, 8, 9, 10, 11, 12, 13] rfl)
                                · skip
                                  have hnt := (((hgp.2.1 r187 (by omega) (by omega)).2 (n r187 - 1) (by omega) (by omega)).1) (by omega)
                                  unfold mTn at hnt
                                  rw [if_neg (by omega)] at hnt
                                  refine lv_aload_n hx hb dL_build_444 rfl (lv_at hl 10 rfl) ?_
                                  refine z_get (C := RX3) (T := TX3) (N := 4) hx hb hK hts u_in_X3 hown hP.2.1 rfl 3 (by decide) q_fl_RL_56 (v := .ref vs) rfl dL_build_445 ?_
                                  refine lv_iload hx hb dL_build_448 (lv_at hl 6 rfl) ?_
                                  refine z_aldr (t0 := 3) (n := v.toNat) hx hb hK rfl rfl hP.2.2.1 (i := r187) (by omega) (by omega) rfl dL_build_450 ?_
                                  refine lv_aload_n hx hb dL_build_451 rfl (lv_at hl 10 rfl) ?_
                                  refine z_get (C := RX3) (T := TX3) (N := 4) hx hb hK hts u_in_X3 hown hP.2.1 rfl 3 (by decide) q_fl_RL_56 (v := .ref vs) rfl dL_build_452 ?_
                                  refine lv_iload hx hb dL_build_455 (lv_at hl 6 rfl) ?_
                                  refine z_aldr (t0 := 3) (n := v.toNat) hx hb hK rfl rfl hP.2.2.1 (i := r187) (by omega) (by omega) rfl dL_build_457 ?_
                                  refine z_alenA hx hb hK (t0 := 1) rfl hg dL_build_458 ?_
                                  refine z_iconst hx hb dL_build_459 ?_
                                  refine z_isub (x := (nk : Int)) (y := 1) hx hb dL_build_460 ?_
                                  refine z_aldr (t0 := 1) (n := nk) hx hb hK rfl rfl hg (i := (nk : Int) - 1) (by omega) (by omega) (q := g (nk - 1)) (by rw [show ((nk : Int) - 1).toNat = nk - 1 by omega]) dL_build_461 ?_
                                  refine lv_astore (lv' := [(15, .ref (g (nk - 1))), (14, .int (zI ti)), (13, .int (zI (4 + r372))), (12, .int (zI sg)), (11, .int (zI r326)), (10, .int (zI (valD x))), (9, .int (zI (valP x))), (8, .int (zI r187)), (7, .int (zI w180)), (6, .int (zI (k : Int))), (5, .int (zI v)), (3, .ref h), (0, .ref (ad 0)), (1, .ref (G.2.1 10)), (2, .int (zI 40))]) hx hb dL_build_462 hl (by decide) rfl (fun ls hl => ?_)
                                  refine lv_aload hx hb dL_build_464 (lv_at hl 0 rfl) ?_
                                  refine z_iconst hx hb dL_build_466 ?_
                                  refine z_ald (n := 9) hx hb hK hc9 (i := 3) (by decide) (by decide) dL_build_467 ?_
                                  show W p l env (rmz 8 163 46600 705000) s m (([.ref (ad 0), .ref (G.2.1 10), .int (zI 40)] : List Value).toArray) below meth c H locs (13 + 1150 * k) (64 + 17600 * k) (MQ below (QWA (fA 94 ad s.heap.size) (fun h H => s.heap.size ≤ h ∧ ∃ (vs : Nat) (bt pt ky nv : Int) (n : Int → Int) (B : Int → Int → Int), (1 ≤ nv ∧ nv ≤ 3) ∧ HO G h vs bt pt ky H ∧ GI G ad bt pt ky nv n B H ∧ RZ n B)) (([.ref (ad 0), .ref (G.2.1 10), .int (zI 40)] : List Value).toArray) s 46600 705000 (fA 94 ad s.heap.size)) (F0 m 468 ls [.int (zI (hD B r187 ((nk - 1 : Nat) : Int) 3))])
                                  rw [hrow 3 (by decide)]
                                  refine lv_istore (lv' := [(11, .int (zI (B r187 (10 * (n r187 - 1) + 3)))), (15, .ref (g (nk - 1))), (14, .int (zI ti)), (13, .int (zI (4 + r372))), (12, .int (zI sg)), (10, .int (zI (valD x))), (9, .int (zI (valP x))), (8, .int (zI r187)), (7, .int (zI w180)), (6, .int (zI (k : Int))), (5, .int (zI v)), (3, .ref h), (0, .ref (ad 0)), (1, .ref (G.2.1 10)), (2, .int (zI 40))]) hx hb dL_build_468 hl (by decide) rfl (fun ls hl => ?_)
                                  refine lv_aload hx hb dL_build_470 (lv_at hl 1 rfl) ?_
                                  refine z_iconst hx hb dL_build_472 ?_
                                  refine z_ald (n := 9) hx hb hK hc9 (i := 4) (by decide) (by decide) dL_build_473 ?_
                                  show W p l env (rmz 8 163 46600 705000) s m (([.ref (ad 0), .ref (G.2.1 10), .int (zI 40)] : List Value).toArray) below meth c H locs (13 + 1150 * k) (64 + 17600 * k) (MQ below (QWA (fA 94 ad s.heap.size) (fun h H => s.heap.size ≤ h ∧ ∃ (vs : Nat) (bt pt ky nv : Int) (n : Int → Int) (B : Int → Int → Int), (1 ≤ nv ∧ nv ≤ 3) ∧ HO G h vs bt pt ky H ∧ GI G ad bt pt ky nv n B H ∧ RZ n B)) (([.ref (ad 0), .ref (G.2.1 10), .int (zI 40)] : List Value).toArray) s 46600 705000 (fA 94 ad s.heap.size)) (F0 m 474 ls [.int (zI (hD B r187 ((nk - 1 : Nat) : Int) 4))])
                                  rw [hrow 4 (by decide)]
                                  refine lv_istore (lv' := [(12, .int (zI (B r187 (10 * (n r187 - 1) + 4)))), (11, .int (zI (B r187 (10 * (n r187 - 1) + 3)))), (15, .ref (g (nk - 1))), (14, .int (zI ti)), (13, .int (zI (4 + r372))), (10, .int (zI (valD x))), (9, .int (zI (valP x))), (8, .int (zI r187)), (7, .int (zI w180)), (6, .int (zI (k : Int))), (5, .int (zI v)), (3, .ref h), (0, .ref (ad 0)), (1, .ref (G.2.1 10)), (2, .int (zI 40))]) hx hb dL_build_474 hl (by decide) rfl (fun ls hl => ?_)
                                  refine lv_aload hx hb dL_build_476 (lv_at hl 2 rfl) ?_
                                  refine z_iconst hx hb dL_build_478 ?_
                                  refine z_ald (n := 9) hx hb hK hc9 (i := 5) (by decide) (by decide) dL_build_479 ?_
                                  show W p l env (rmz 8 163 46600 705000) s m (([.ref (ad 0), .ref (G.2.1 10), .int (zI 40)] : List Value).toArray) below meth c H locs (13 + 1150 * k) (64 + 17600 * k) (MQ below (QWA (fA 94 ad s.heap.size) (fun h H => s.heap.size ≤ h ∧ ∃ (vs : Nat) (bt pt ky nv : Int) (n : Int → Int) (B : Int → Int → Int), (1 ≤ nv ∧ nv ≤ 3) ∧ HO G h vs bt pt ky H ∧ GI G ad bt pt ky nv n B H ∧ RZ n B)) (([.ref (ad 0), .ref (G.2.1 10), .int (zI 40)] : List Value).toArray) s 46600 705000 (fA 94 ad s.heap.size)) (F0 m 480 ls [.int (zI (hD B r187 ((nk - 1 : Nat) : Int) 5))])
                                  rw [hrow 5 (by decide)]
                                  refine lv_istore (lv' := [(13, .int (zI (B r187 (10 * (n r187 - 1) + 5)))), (12, .int (zI (B r187 (10 * (n r187 - 1) + 4)))), (11, .int (zI (B r187 (10 * (n r187 - 1) + 3)))), (15, .ref (g (nk - 1))), (14, .int (zI ti)), (10, .int (zI (valD x))), (9, .int (zI (valP x))), (8, .int (zI r187)), (7, .int (zI w180)), (6, .int (zI (k : Int))), (5, .int (zI v)), (3, .ref h), (0, .ref (ad 0)), (1, .ref (G.2.1 10)), (2, .int (zI 40))]) hx hb dL_build_480 hl (by decide) rfl (fun ls hl => ?_)
                                  exact J482 (B r187 (10 * (n r187 - 1) + 3)) (B r187 (10 * (n r187 - 1) + 4)) (B r187 (10 * (n r187 - 1) + 5)) ⟨by omega, by omega, by omega, by omega, by omega, by omega, hnt⟩ ls (lv_sub hl [4, 0, 1, 2, 5, 6, 7, 9, 10, 11, 12, 13, 14] rfl)
                          refine lv_iload hx hb dL_build_378 (lv_at hl 6 rfl) ?_
                          refine z_bipush hx hb dL_build_380 (by decide) ?_
                          refine z_ishrB hx hb dL_build_382 (fun w382 hw382 => ?_)
                          refine z_iconst hx hb dL_build_383 ?_
                          refine k_RB (c_SB (As := [.int (zI w382), .int (zI 4)]) (rest := []) ⟨hx, hb, hml, hown, hts⟩ hG hS hA (c_L_below l G _ 4 (by omega)) ⟨q_ml_RL_18, q_st_L_below, q_ini_RL, q_code_L_below⟩ hs_L_below trivial ⟨Nat.le_of_ble_eq_true rfl, Nat.le_of_ble_eq_true rfl⟩ ⟨(by show 13 + 1150 * k ≤ 46600; omega), (by show 64 + 17600 * k ≤ 705000; omega)⟩ rfl hl.1 rfl (Nat.le_of_ble_eq_true rfl) dL_build_384) (fun r384 hr384 => ?_)
                          refine z_if_ne (a := r384) (tgt := 394) hx hb dL_build_387 (by decide) (by omega) (fun _ => ?_) (fun _ => ?_)
                          · refine z_iconst hx hb dL_build_394 ?_
                            exact J395 0 (Or.inl rfl) ls hl
                          · refine z_iconst hx hb dL_build_390 ?_
                            refine lv_goto (tgt := 395) hx hb dL_build_391 (by decide) ?_
                            exact J395 1 (Or.inr rfl) ls hl
                        refine lv_iload hx hb dL_build_331 (lv_at hl 4 rfl) ?_
                        refine z_bipush hx hb dL_build_333 (by decide) ?_
                        refine z_ishrB hx hb dL_build_335 (fun w335 hw335 => ?_)
                        refine z_iconst hx hb dL_build_336 ?_
                        refine k_RB (c_SB (As := [.int (zI w335), .int (zI 3)]) (rest := []) ⟨hx, hb, hml, hown, hts⟩ hG hS hA (c_L_below l G _ 3 (by omega)) ⟨q_ml_RL_18, q_st_L_below, q_ini_RL, q_code_L_below⟩ hs_L_below trivial ⟨Nat.le_of_ble_eq_true rfl, Nat.le_of_ble_eq_true rfl⟩ ⟨(by show 13 + 1150 * k ≤ 46600; omega), (by show 64 + 17600 * k ≤ 705000; omega)⟩ rfl hl.1 rfl (Nat.le_of_ble_eq_true rfl) dL_build_337) (fun r337 hr337 => ?_)
                        refine z_if_ne (a := r337) (tgt := 357) hx hb dL_build_340 (by decide) (by omega) (fun _ => ?_) (fun _ => ?_)
                        · skip
                          refine lv_aload_n hx hb dL_build_357 rfl (lv_at hl 7 rfl) ?_
                          refine lv_iload hx hb dL_build_358 (lv_at hl 0 rfl) ?_
                          refine k_RB (c_VB (As := [.int (zI r326)]) (rest := []) ⟨hx, hb, hml, hown, hts⟩ hG hS hA (c_X3_keySign l G h vs bt pt ky r326 hky9) ⟨q_ml_RL_68, q_im_X3_keySign, q_sel_X3_keySign, q_ini_RX3, q_code_X3_keySign⟩ hv_X3_keySign (va_at_rec hK hP.2.1 (C := RX3) (T := TX3) (N := 4) rfl) hP.2.1 ⟨Nat.le_of_ble_eq_true rfl, Nat.le_of_ble_eq_true rfl⟩ ⟨(by show 13 + 1150 * k ≤ 46600; omega), (by show 64 + 17600 * k ≤ 705000; omega)⟩ rfl hl.1 rfl (Nat.le_of_ble_eq_true rfl) dL_build_360) (fun sg hsg => ?_)
                          exact J363 sg (by omega) ls hl
                        · skip
                          refine lv_iload hx hb dL_build_343 (lv_at hl 4 rfl) ?_
                          refine z_bipush hx hb dL_build_345 (by decide) ?_
                          refine z_ishrB hx hb dL_build_347 (fun w347 hw347 => ?_)
                          refine z_iconst hx hb dL_build_348 ?_
                          refine k_RB (c_SB (As := [.int (zI w347), .int (zI 5)]) (rest := []) ⟨hx, hb, hml, hown, hts⟩ hG hS hA (c_L_below l G _ 5 (by omega)) ⟨q_ml_RL_18, q_st_L_below, q_ini_RL, q_code_L_below⟩ hs_L_below trivial ⟨Nat.le_of_ble_eq_true rfl, Nat.le_of_ble_eq_true rfl⟩ ⟨(by show 13 + 1150 * k ≤ 46600; omega), (by show 64 + 17600 * k ≤ 705000; omega)⟩ rfl hl.1 rfl (Nat.le_of_ble_eq_true rfl) dL_build_349) (fun r349 hr349 => ?_)
                          refine z_iconst hx hb dL_build_352 ?_
                          refine z_isub (x := r349) (y := 2) hx hb dL_build_353 ?_
                          refine lv_goto (tgt := 363) hx hb dL_build_354 (by decide) ?_
                          exact J363 (r349 - 2) (by omega) ls hl
                      · skip
                        refine lv_aload_n hx hb dL_build_290 rfl (lv_at hl 7 rfl) ?_
                        refine lv_iload hx hb dL_build_291 (lv_at hl 2 rfl) ?_
                        refine lv_iload hx hb dL_build_293 (lv_at hl 1 rfl) ?_
                        refine lv_iload hx hb dL_build_295 (lv_at hl 0 rfl) ?_
                        have hsd : (sd7 (valP x) (valD x) 0 0 0 0 0) 0 = valP x ∧ (sd7 (valP x) (valD x) 0 0 0 0 0) 1 = valD x ∧ (sd7 (valP x) (valD x) 0 0 0 0 0) 2 = 0 ∧ (sd7 (valP x) (valD x) 0 0 0 0 0) 3 = 0 ∧ (sd7 (valP x) (valD x) 0 0 0 0 0) 4 = 0 ∧ (sd7 (valP x) (valD x) 0 0 0 0 0) 5 = 0 ∧ (sd7 (valP x) (valD x) 0 0 0 0 0) 6 = 0 := ⟨rfl, rfl, rfl, rfl, rfl, rfl, rfl⟩
                        obtain ⟨sd, hsde⟩ : ∃ sd, sd = sd7 (valP x) (valD x) 0 0 0 0 0 := ⟨_, rfl⟩
                        rw [← hsde] at hsd
                        obtain ⟨B1, hB1⟩ : ∃ B1, B1 = tbN B r187 (n r187) N (bt * 384 / pt) fr (fr + valT x) sd := ⟨_, rfl⟩
                        have hBB : ∀ u e w, 0 ≤ w → w < 7 → B1 u (10 * e + w) = if u = r187 ∧ n r187 ≤ e ∧ e < n r187 + N ∧ w < 7 then elC (bt * 384 / pt) (fr + valT x) fr sd (e - n r187) w else B u (10 * e + w) := by rw [hB1]; exact tbN_B
                        have hBa : ∀ j, 0 ≤ j → j < N → ∀ w, 0 ≤ w → w < 7 → B1 r187 (10 * (n r187 + j) + w) = elC (bt * 384 / pt) (fr + valT x) fr sd j w := by rw [hB1]; exact fun j j0 j1 w w0 w1 => tbN_at ⟨j0, j1⟩ ⟨w0, w1⟩
                        have hBl : ∀ u i, (u ≠ r187 ∨ i < 10 * n r187) → B1 u i = B u i := by rw [hB1]; exact fun u i hi => tbN_lo hi
                        have hZ1 : RZ (zU n r187 (n r187 + N)) B1 := by rw [hB1]; exact hZ.step (by rw [hsd.2.2.1, hsd.2.2.2.1, hsd.2.2.2.2.1, hsd.2.2.2.2.2.1]; exact fun _ => ⟨rfl, rfl, rfl⟩) hm.1 (by omega)
                        refine k_Wi (c_VW (As := [.int (zI r187), .int (zI (valP x)), .int (zI (valD x))]) (rest := []) ⟨hx, hb, hml, hown, hts⟩ hG hS hA (g_addRest (sz := H.size) (B' := B1) (sd := sd) hst hr187 hx9 hfr hN hful hsd.1 hsd.2.1 hsd.2.2.1 hsd.2.2.2.1 hsd.2.2.2.2.1 hsd.2.2.2.2.2.1 hsd.2.2.2.2.2.2 hBB) ⟨q_ml_RL_60, q_im_X2_addRest, q_sel_X2_addRest, q_ini_RX2, q_code_X2_addRest⟩ hv_X2_addRest (hGI.rec hK) hGI ⟨Nat.le_of_ble_eq_true rfl, Nat.le_of_ble_eq_true rfl⟩ ⟨(by show 13 + 1150 * k + 2 ≤ 46600; omega), (by show 64 + 17600 * k + 12 ≤ 705000; omega)⟩ rfl hl.1 rfl (Nat.le_of_ble_eq_true rfl) dL_build_297) hS (fA_mono hS.1) (fun r H1 locs1 hq hz1 hk1 hS => ?_)
                        obtain ⟨hr8, hGI⟩ := hq
                        rw [hr8]
                        have hP1 := (hP.tab hBl).kept (H1 := H1) (fun q h1 h2 => hk1 q h1 (nfa q h2 h1))
                        have hbg1 : bgM B1 r187 (n r187) = fr := by rw [hfr]; exact bg_same (n := n r187) (fun e e0 e1 w w0 w1 => hBl _ _ (Or.inr (by omega))) _ (Int.le_refl _)
                        refine lv_aload_n hx hb dL_build_300 rfl (lv_at hl 6 rfl) ?_
                        refine lv_iload hx hb dL_build_301 (lv_at hl 2 rfl) ?_
                        refine lv_iload hx hb dL_build_303 (lv_at hl 1 rfl) ?_
                        refine lv_iload hx hb dL_build_305 (lv_at hl 0 rfl) ?_
                        refine z_iconst hx hb dL_build_307 ?_
                        refine z_iconst hx hb dL_build_308 ?_
                        refine z_iconst hx hb dL_build_309 ?_
                        refine z_iconst hx hb dL_build_310 ?_
                        refine z_iconst hx hb dL_build_311 ?_
                        have hsz1 := hS.1
                        refine k_Wi (c_VW (As := [.int (zI r187), .int (zI (valP x)), .int (zI (valD x)), .int (zI 0), .int (zI 0), .int (zI 0), .int (zI 0), .int (zI 0)]) (rest := [.int (zI N)]) ⟨hx, hb, hml, hown, hts⟩ hG hS hA (c_X3_add l G h (h + 1) vs f bt pt ky v n B1 r187 x 0 0 0 0 0 fr N sd H1.size (by have := hG.2.1; omega) hbt hpt hr187 (by omega) hx9 hm.1 hful.1 hbg1 hfb hN hsd hBa) ⟨q_ml_RL_64, q_im_X3_add, q_sel_X3_add, q_ini_RX3, q_code_X3_add⟩ hv_X3_add (va_at_rec hK hP1.2.1 (C := RX3) (T := TX3) (N := 4) rfl) hP1 ⟨Nat.le_of_ble_eq_true rfl, Nat.le_of_ble_eq_true rfl⟩ ⟨(by show 13 + 1150 * k + 2 + 1140 ≤ 46600; omega), (by show 64 + 17600 * k + 12 + 17500 ≤ 705000; omega)⟩ rfl hl.1 rfl (Nat.le_of_ble_eq_true rfl) dL_build_312) hS (fun q hq => hAh q (by rcases hq with e | e <;> omega)) (fun r H2 locs2 hq hz2 hk2 hS => ?_)
                        obtain ⟨hr7, f1, hP2⟩ := hq
                        rw [hr7]
                        have hGI := hGI.kept (H1 := H2) (fun j hj => hk2 _ (hGI.lt hj) (by have := had j hj; rintro (e | e) <;> omega))
                        refine z_icmp_eq (a := N) (b := N) (tgt := 533) hx hb dL_build_315 (by decide) (by omega) (by omega) (fun _ => ?_) (fun h9 => absurd rfl h9)
                        exact W.widen (k := 13 + 1150 * (k + 1)) (n := 64 + 17600 * (k + 1)) (by omega) (by omega) (J533 vs f1 _ B1 H2 _ hP2 hGI hZ1 hS ls (lv_sub hl [4, 5, 6, 7, 8, 9] rfl))
                    · skip
                      refine lv_goto (tgt := 533) hx hb dL_build_275 (by decide) ?_
                      exact W.widen (k := 13 + 1150 * (k + 1)) (n := 64 + 17600 * (k + 1)) (by omega) (by omega) (J533 vs f n B H locs hP hGI hZ hS ls (lv_sub hl [4, 5, 6, 7, 8, 9] rfl))
                refine lv_iload hx hb dL_build_205 (lv_at hl 0 rfl) ?_
                refine z_bipush hx hb dL_build_207 (by decide) ?_
                refine z_icmp_ne (a := sh2 r199) (b := 32) (tgt := 216) hx hb dL_build_209 (by decide) (by omega) (by decide) (fun h209 => ?_) (fun h209 => ?_)
                · skip
                  refine lv_iload hx hb dL_build_216 (lv_at hl 2 rfl) ?_
                  refine z_iconst hx hb dL_build_218 ?_
                  refine z_ishrB hx hb dL_build_219 (fun w219 hw219 => ?_)
                  refine lv_iload hx hb dL_build_220 (lv_at hl 0 rfl) ?_
                  refine z_bipush hx hb dL_build_222 (by decide) ?_
                  refine z_icmp_ne (a := sh2 r199) (b := 16) (tgt := 231) hx hb dL_build_224 (by decide) (by omega) (by decide) (fun h224 => ?_) (fun h224 => ?_)
                  · skip
                    refine z_iconst hx hb dL_build_231 ?_
                    refine k_RB (c_SB (As := [.int (zI w219), .int (zI 3)]) (rest := []) ⟨hx, hb, hml, hown, hts⟩ hG hS hA (c_L_below l G _ 3 (by omega)) ⟨q_ml_RL_18, q_st_L_below, q_ini_RL, q_code_L_below⟩ hs_L_below trivial ⟨Nat.le_of_ble_eq_true rfl, Nat.le_of_ble_eq_true rfl⟩ ⟨(by show 13 + 1150 * k ≤ 46600; omega), (by show 64 + 17600 * k ≤ 705000; omega)⟩ rfl hl.1 rfl (Nat.le_of_ble_eq_true rfl) dL_build_232) (fun r232 hr232 => ?_)
                    exact J235 r232 (by unfold lim9; rw [if_neg h209, if_neg h224]; omega) ls hl
                  · skip
                    refine z_iconst hx hb dL_build_227 ?_
                    refine lv_goto (tgt := 232) hx hb dL_build_228 (by decide) ?_
                    refine k_RB (c_SB (As := [.int (zI w219), .int (zI 2)]) (rest := []) ⟨hx, hb, hml, hown, hts⟩ hG hS hA (c_L_below l G _ 2 (by omega)) ⟨q_ml_RL_18, q_st_L_below, q_ini_RL, q_code_L_below⟩ hs_L_below trivial ⟨Nat.le_of_ble_eq_true rfl, Nat.le_of_ble_eq_true rfl⟩ ⟨(by show 13 + 1150 * k ≤ 46600; omega), (by show 64 + 17600 * k ≤ 705000; omega)⟩ rfl hl.1 rfl (Nat.le_of_ble_eq_true rfl) dL_build_232) (fun r232 hr232 => ?_)
                    exact J235 r232 (by unfold lim9; rw [if_neg h209, if_pos h224]; omega) ls hl
                · skip
                  refine z_iconst hx hb dL_build_212 ?_
                  refine lv_goto (tgt := 235) hx hb dL_build_213 (by decide) ?_
                  exact J235 0 (by unfold lim9; rw [if_pos h209]; decide) ls hl
          exact W.widen (k := 13 + 1150 * 0) (n := 64 + 17600 * 0) (by omega) (by omega) (lp158 41 0 (by decide) (by decide) vs f n00 gb0 H locs hP hGI ⟨fun u u0 u1 e e0 e1 => absurd e1 (by show ¬ e < 0; omega), fun _ _ => rfl⟩ hS ls (lv_sub hl [0, 1, 2, 3, 4, 5] rfl))
        · skip
          refine lv_aload_n hx hb dL_build_134 rfl (lv_at hl 2 rfl) ?_
          have hlv := hP.1
          have hsz0 := hS.1
          refine k_Wv (c_VW (As := []) (rest := []) ⟨hx, hb, hml, hown, hts⟩ hG hS hA (c_X3_addVoice l G h (h + 1) vs f bt pt ky v n00 gb0 H.size (by omega) rfl (by have := hG.2.1; omega)) ⟨q_ml_RL_45, q_im_X3_addVoice, q_sel_X3_addVoice, q_ini_RX3, q_code_X3_addVoice⟩ hv_X3_addVoice (va_at_rec hK hP.2.1 (C := RX3) (T := TX3) (N := 4) rfl) hP ⟨Nat.le_of_ble_eq_true rfl, Nat.le_of_ble_eq_true rfl⟩ ⟨(by show 4 + 3 * v.toNat + 2 ≤ 46600; omega), (by show 16 + 16 * v.toNat + 10 ≤ 705000; omega)⟩ rfl hl.1 rfl (Nat.le_of_ble_eq_true rfl) dL_build_135) hS (fun q hq => hAh q (by rcases hq with e | e <;> omega)) (fun H1 locs1 hq hz1 hk1 hS => ?_)
          obtain ⟨vs1, f1, hP1⟩ := hq
          have hGI := hGI.kept (H1 := H1) (fun j hj => hk1 _ (hGI.lt hj) (by have := had j hj; rintro (e | e) <;> omega))
          refine lv_aload_n hx hb dL_build_138 rfl (lv_at hl 3 rfl) ?_
          refine k_Wi (c_VW (As := []) (rest := []) ⟨hx, hb, hml, hown, hts⟩ hG hS hA (g_addVoice (sz := H1.size) hst (by omega)) ⟨q_ml_RL_48, q_im_X2_addVoice, q_sel_X2_addVoice, q_ini_RX2, q_code_X2_addVoice⟩ hv_X2_addVoice (hGI.rec hK) hGI ⟨Nat.le_of_ble_eq_true rfl, Nat.le_of_ble_eq_true rfl⟩ ⟨(by show 4 + 3 * v.toNat + 2 + 1 ≤ 46600; omega), (by show 16 + 16 * v.toNat + 10 + 6 ≤ 705000; omega)⟩ rfl hl.1 rfl (Nat.le_of_ble_eq_true rfl) dL_build_139) hS (fA_mono hS.1) (fun r H2 locs2 hq hz2 hk2 hS => ?_)
          obtain ⟨hr8, hGI⟩ := hq
          rw [hr8]
          have hP2 := hP1.kept (H1 := H2) (fun q h1 h2 => hk2 q h1 (fun hq => by rcases hq with ⟨j, hj, e⟩ | hq; have := had j hj; omega; omega))
          refine lv_iload hx hb dL_build_142 (lv_at hl 0 rfl) ?_
          refine z_icmp_eq (a := v) (b := v) (tgt := 149) hx hb dL_build_144 (by decide) (by omega) (by omega) (fun _ => ?_) (fun h9 => absurd rfl h9)
          refine z_iinc (lv' := [(6, .int (zI (v + 1))), (5, .int (zI nv)), (3, .ref h), (0, .ref (ad 0)), (1, .ref (G.2.1 10)), (2, .int (zI 40))]) hx hb dL_build_149 hl (k := 0) rfl (by decide) rfl (fun ls hl => ?_)
          refine lv_goto (tgt := 127) hx hb dL_build_152 (by decide) ?_
          exact W.widen (k := 4 + 3 * (v + 1).toNat) (n := 16 + 16 * (v + 1).toNat) (by omega) (by omega) (ih (v + 1) (by omega) (by omega) (by omega) vs1 f1 H2 _ hP2 hGI hS ls (lv_sub hl [0, 1, 2, 3, 4, 5] rfl))
    exact W.widen (k := 4 + 3 * (0 : Int).toNat) (n := 16 + 16 * (0 : Int).toNat) (by decide) (by decide) (lp127 (nv.toNat + 1) 0 (by decide) (by omega) (by omega) (h + 1) (fun _ => 0) H2 _ ⟨⟨by omega, by omega⟩, hO, va_r9 hVs (fun j hj => absurd hj (by omega)), fun v hv => absurd hv (by omega)⟩ hGI hS ls (lv_sub hl [0, 1, 3, 4, 5, 6] rfl))
  refine lv_aload_n hx hb dL_build_8 rfl (lv_at hl 2 rfl) ?_
  refine z_iconst hx hb dL_build_9 ?_
  refine k_RB (c_SB (As := [.ref (G.2.1 10), .int (zI (0))]) (rest := []) ⟨hx, hb, hml, hown, hts⟩ hG hS hA (c_L_cell l G (0) (by omega)) ⟨q_ml_RL_12, q_st_L_cell, q_ini_RL, q_code_L_cell⟩ hs_L_cell trivial ⟨Nat.le_of_ble_eq_true rfl, Nat.le_of_ble_eq_true rfl⟩ ⟨(by show 0 + 1 + 1 ≤ 46600; omega), (by show 0 + 4 + 0 ≤ 705000; omega)⟩ rfl hl.1 rfl (Nat.le_of_ble_eq_true rfl) dL_build_10) (fun w10 hw10 => ?_)
  refine z_iconst hx hb dL_build_13 ?_
  refine k_RB (c_SB (As := [.int (zI w10), .int (zI 2)]) (rest := []) ⟨hx, hb, hml, hown, hts⟩ hG hS hA (c_L_below l G _ 2 (by omega)) ⟨q_ml_RL_18, q_st_L_below, q_ini_RL, q_code_L_below⟩ hs_L_below trivial ⟨Nat.le_of_ble_eq_true rfl, Nat.le_of_ble_eq_true rfl⟩ ⟨(by show 0 + 1 + 1 ≤ 46600; omega), (by show 0 + 4 + 0 ≤ 705000; omega)⟩ rfl hl.1 rfl (Nat.le_of_ble_eq_true rfl) dL_build_14) (fun r14 hr14 => ?_)
  refine z_if_ne (a := r14) (tgt := 77) hx hb dL_build_17 (by decide) (by omega) (fun _ => ?_) (fun _ => ?_)
  · exact W.widen (k := 3) (n := 10) (by decide) (by decide) (J77 4 4 (by decide) (by decide) H2 _ hO hVs hGI hS ls hl)
  · skip
    refine lv_aload_n hx hb dL_build_20 rfl (lv_at hl 0 rfl) ?_
    refine z_iconst hx hb dL_build_21 ?_
    refine lv_aload_n hx hb dL_build_22 rfl (lv_at hl 2 rfl) ?_
    refine z_iconst hx hb dL_build_23 ?_
    refine k_RB (c_SB (As := [.ref (G.2.1 10), .int (zI (0))]) (rest := [.int (zI 1), .ref h]) ⟨hx, hb, hml, hown, hts⟩ hG hS hA (c_L_cell l G (0) (by omega)) ⟨q_ml_RL_12, q_st_L_cell, q_ini_RL, q_code_L_cell⟩ hs_L_cell trivial ⟨Nat.le_of_ble_eq_true rfl, Nat.le_of_ble_eq_true rfl⟩ ⟨(by show 0 + 1 + 1 ≤ 46600; omega), (by show 0 + 4 + 0 ≤ 705000; omega)⟩ rfl hl.1 rfl (Nat.le_of_ble_eq_true rfl) dL_build_24) (fun w24 hw24 => ?_)
    refine z_iconst hx hb dL_build_27 ?_
    refine z_ishrB hx hb dL_build_28 (fun w28 hw28 => ?_)
    refine z_bipush hx hb dL_build_29 (by decide) ?_
    refine k_RB (c_SB (As := [.int (zI w28), .int (zI 12)]) (rest := [.int (zI 1), .ref h]) ⟨hx, hb, hml, hown, hts⟩ hG hS hA (c_L_below l G _ 12 (by omega)) ⟨q_ml_RL_18, q_st_L_below, q_ini_RL, q_code_L_below⟩ hs_L_below trivial ⟨Nat.le_of_ble_eq_true rfl, Nat.le_of_ble_eq_true rfl⟩ ⟨(by show 0 + 1 + 1 ≤ 46600; omega), (by show 0 + 4 + 0 ≤ 705000; omega)⟩ rfl hl.1 rfl (Nat.le_of_ble_eq_true rfl) dL_build_31) (fun r31 hr31 => ?_)
    refine z_iadd (x := 1) (y := r31) hx hb dL_build_34 ?_
    obtain ⟨bt, hbte⟩ : ∃ bt, bt = 1 + r31 := ⟨_, rfl⟩
    rw [← hbte]
    have hbt : 1 ≤ bt ∧ bt ≤ 12 := by omega
    refine z_put (C := RX3) (T := TX3) (N := 4) (v := .int (zI bt)) hx hb hK hts u_in_X3 tyX3 tyX3_ok nmX3 hown hS (hAh h (Nat.le_refl h)) hO rfl 0 (by decide) q_fl_RL_22 rfl rfl rfl (by show 0 < 4; decide) dL_build_35 (fun H3 locs3 hT z3 o3 hS => ?_)
    have hO : HO G h (h + 1) bt 4 0 H3 := hT
    have hVs := hVs.kept (o3 _ (by show h + 1 ≠ h; omega))
    have hGI := hGI.kept (H1 := H3) (fun k hk => o3 _ (by have := had k hk; omega))
    refine lv_aload_n hx hb dL_build_38 rfl (lv_at hl 0 rfl) ?_
    refine z_iconst hx hb dL_build_39 ?_
    refine lv_aload_n hx hb dL_build_40 rfl (lv_at hl 2 rfl) ?_
    refine z_iconst hx hb dL_build_41 ?_
    refine k_RB (c_SB (As := [.ref (G.2.1 10), .int (zI (0))]) (rest := [.int (zI 2), .ref h]) ⟨hx, hb, hml, hown, hts⟩ hG hS hA (c_L_cell l G (0) (by omega)) ⟨q_ml_RL_12, q_st_L_cell, q_ini_RL, q_code_L_cell⟩ hs_L_cell trivial ⟨Nat.le_of_ble_eq_true rfl, Nat.le_of_ble_eq_true rfl⟩ ⟨(by show 0 + 1 + 1 ≤ 46600; omega), (by show 0 + 4 + 0 ≤ 705000; omega)⟩ rfl hl.1 rfl (Nat.le_of_ble_eq_true rfl) dL_build_42) (fun w42 hw42 => ?_)
    refine z_bipush hx hb dL_build_45 (by decide) ?_
    refine z_ishrB hx hb dL_build_47 (fun w47 hw47 => ?_)
    refine z_iconst hx hb dL_build_48 ?_
    refine k_RB (c_SB (As := [.int (zI w47), .int (zI 3)]) (rest := [.int (zI 2), .ref h]) ⟨hx, hb, hml, hown, hts⟩ hG hS hA (c_L_below l G _ 3 (by omega)) ⟨q_ml_RL_18, q_st_L_below, q_ini_RL, q_code_L_below⟩ hs_L_below trivial ⟨Nat.le_of_ble_eq_true rfl, Nat.le_of_ble_eq_true rfl⟩ ⟨(by show 0 + 1 + 1 ≤ 46600; omega), (by show 0 + 4 + 0 ≤ 705000; omega)⟩ rfl hl.1 rfl (Nat.le_of_ble_eq_true rfl) dL_build_49) (fun r49 hr49 => ?_)
    refine z_ishl (x := 2) (r := r49) hx hb (Or.inr rfl) (by omega) dL_build_52 ?_
    obtain ⟨pt, hpte⟩ : ∃ pt, pt = 2 * sh2 r49 := ⟨_, rfl⟩
    rw [← hpte]
    have hpt : pt = 2 ∨ pt = 4 ∨ pt = 8 := by rcases (by omega : r49 = 0 ∨ r49 = 1 ∨ r49 = 2) with e | e | e <;> rw [e] at hpte <;> revert hpte <;> (intro hpte; rw [hpte]; decide)
    refine z_put (C := RX3) (T := TX3) (N := 4) (v := .int (zI pt)) hx hb hK hts u_in_X3 tyX3 tyX3_ok nmX3 hown hS (hAh h (Nat.le_refl h)) hO rfl 1 (by decide) q_fl_RL_26 rfl rfl rfl (by show 1 < 4; decide) dL_build_53 (fun H4 locs4 hT z4 o4 hS => ?_)
    have hO : HO G h (h + 1) bt pt 0 H4 := hT
    have hVs := hVs.kept (o4 _ (by show h + 1 ≠ h; omega))
    have hGI := hGI.kept (H1 := H4) (fun k hk => o4 _ (by have := had k hk; omega))
    refine lv_aload_n hx hb dL_build_56 rfl (lv_at hl 1 rfl) ?_
    refine lv_aload_n hx hb dL_build_57 rfl (lv_at hl 0 rfl) ?_
    refine z_get (C := RX3) (T := TX3) (N := 4) hx hb hK hts u_in_X3 hown hO rfl 0 (by decide) q_fl_RL_22 (v := .int (zI bt)) rfl dL_build_58 ?_
    refine lv_aload_n hx hb dL_build_61 rfl (lv_at hl 0 rfl) ?_
    refine z_get (C := RX3) (T := TX3) (N := 4) hx hb hK hts u_in_X3 hown hO rfl 1 (by decide) q_fl_RL_26 (v := .int (zI pt)) rfl dL_build_62 ?_
    refine k_Wi (c_VW (As := [.int (zI bt), .int (zI pt)]) (rest := []) ⟨hx, hb, hml, hown, hts⟩ hG hS hA (g_setBars (sz := H4.size) hst hbt hpt rfl) ⟨q_ml_RL_29, q_im_X2_setBars, q_sel_X2_setBars, q_ini_RX2, q_code_X2_setBars⟩ hv_X2_setBars (hGI.rec hK) hGI ⟨Nat.le_of_ble_eq_true rfl, Nat.le_of_ble_eq_true rfl⟩ ⟨(by show 0 + 1 + 1 + 1 ≤ 46600; decide), (by show 0 + 4 + 0 + 6 ≤ 705000; decide)⟩ rfl hl.1 rfl (Nat.le_of_ble_eq_true rfl) dL_build_65) hS (fA_mono hS.1) (fun r H5 locs5 hq hz5 hk5 hS => ?_)
    obtain ⟨hr8, hGI⟩ := hq
    rw [hr8]
    have nfa : ∀ q : Nat, h ≤ q → q < H4.size → ¬ fA 94 ad H4.size q := fun q h1 h2 hq => by rcases hq with ⟨k, hk, e⟩ | hq; have := had k hk; omega; omega
    have hO := va_at.kept hO (hk5 _ (va_at.lt hO) (nfa h (Nat.le_refl h) (va_at.lt hO)))
    have hVs := hVs.kept (hk5 _ hVs.lt (nfa (h + 1) (by omega) hVs.lt))
    refine lv_aload_n hx hb dL_build_68 rfl (lv_at hl 0 rfl) ?_
    have hbr : 48 ≤ bt * 384 / pt ∧ bt * 384 / pt ≤ 2304 := by rcases hpt with e | e | e <;> rw [e] <;> omega
    refine k_R (c_VR (As := []) (rest := [.int (zI (bt * 384 / pt))]) ⟨hx, hb, hml, hown, hts⟩ hG hS hA (c_X3_bar l G h (h + 1) bt pt 0 hbt hpt) ⟨q_ml_RL_34, q_im_X3_bar, q_sel_X3_bar, q_ini_RX3, q_code_X3_bar⟩ hv_X3_bar (va_at_rec hK hO (C := RX3) (T := TX3) (N := 4) rfl) hO ⟨Nat.le_of_ble_eq_true rfl, Nat.le_of_ble_eq_true rfl⟩ ⟨(by show 0 + 1 + 1 + 1 ≤ 46600; omega), (by show 0 + 4 + 0 + 6 ≤ 705000; omega)⟩ rfl hl.1 rfl (Nat.le_of_ble_eq_true rfl) dL_build_69) ?_
    refine z_icmp_eq (a := bt * 384 / pt) (b := bt * 384 / pt) (tgt := 77) hx hb dL_build_72 (by decide) (by omega) (by omega) (fun _ => ?_) (fun h9 => absurd rfl h9)
    exact W.widen (k := 3) (n := 10) (by decide) (by decide) (J77 bt pt hbt hpt H5 _ hO hVs hGI hS ls hl)
