section RW9
theorem row9 {F : Int → Int} {a0 a1 a2 a3 a4 a5 a6 a7 a8 : Int} (h0 : F 0 = a0) (h1 : F 1 = a1) (h2 : F 2 = a2) (h3 : F 3 = a3) (h4 : F 4 = a4) (h5 : F 5 = a5) (h6 : F 6 = a6) (h7 : F 7 = a7) (h8 : F 8 = a8) : ∀ k : Nat, k < 9 → zU (zU (zU (zU (zU (zU (zU (zU (zU (fun _ => 0) 0 a0) 1 a1) 2 a2) 3 a3) 4 a4) 5 a5) 6 a6) 7 a7) 8 a8 k = F k := by
  intro k hk
  rcases (by omega : k = 0 ∨ k = 1 ∨ k = 2 ∨ k = 3 ∨ k = 4 ∨ k = 5 ∨ k = 6 ∨ k = 7 ∨ k = 8) with rfl | rfl | rfl | rfl | rfl | rfl | rfl | rfl | rfl <;> simp [zU, h0, h1, h2, h3, h4, h5, h6, h7, h8]
theorem row3 {F : Int → Int} {a0 a1 a2 : Int} (h0 : F 0 = a0) (h1 : F 1 = a1) (h2 : F 2 = a2) : ∀ k : Nat, k < 3 → zU (zU (zU (fun _ => 0) 0 a0) 1 a1) 2 a2 k = F k := by
  intro k hk
  rcases (by omega : k = 0 ∨ k = 1 ∨ k = 2) with rfl | rfl | rfl <;> simp [zU, h0, h1, h2]
theorem HP9.put {G : zG} {h lo vs : Nat} {f : Nat → Nat} {bt pt ky nv : Int} {n : Int → Int} {B : Int → Int → Int} {H H3 : Heap} (q : HP9 G h lo vs f bt pt ky nv n B H) {v m : Int} {a : Nat} (hv : 0 ≤ v ∧ v < nv) (hH : ∀ z : Nat, z < H.size → z ≠ vs → H3[z]? = H[z]?) (hvs : va_at G.1 vwCl (vs, va_refs G 3 nv.toNat (fun j => if j = v.toNat then some a else some (f j))) H3) (hHV : HV G lo a vs m.toNat (fun e => hD B v e) H3) : HP9 G h lo vs (fun j => if j = v.toNat then a else f j) bt pt ky nv (zU n v m) B H3 := by
  obtain ⟨⟨q0, q1⟩, q2, q3, q4⟩ := q
  refine ⟨⟨q0, q1⟩, va_at.kept q2 (hH _ (va_at.lt q2) (by show h ≠ vs; omega)), va_r9 hvs (fun j hj => ?_), fun u hu => ?_⟩
  · by_cases c : j = v.toNat
    · show (if j = v.toNat then some a else some (f j)) = some (if j = v.toNat then a else f j)
      rw [if_pos c, if_pos c]
    · show (if j = v.toNat then some a else some (f j)) = some (if j = v.toNat then a else f j)
      rw [if_neg c, if_neg c]
  · by_cases c : u = v.toNat
    · show HV G lo (if u = v.toNat then a else f u) vs (zU n v m u).toNat (fun e => hD B u e) H3
      have e : (u : Int) = v := by omega
      rw [if_pos c, e, zU_s]
      exact hHV
    · show HV G lo (if u = v.toNat then a else f u) vs (zU n v m u).toNat (fun e => hD B u e) H3
      rw [if_neg c, zU_n (by omega)]
      exact (q4 u hu).kept (fun z h1 _ h3 => hH z h1 h3)
end RW9
section ZJ9
variable {p : Program} {l : Launch} {e : Env} {R : Room} {s : State} {m : MethodId} {args : Array Value} {below : List Frame} {meth : Method} {c : Code} {H : Heap} {locs : List Loc} {cells slots : Nat} {Q : State → Prop}
variable {cc : ByteArray} {ls : Array Slot} {rest : List Value} {lv : List (Nat × Value)} {nL : Nat}
/-- the place of 'fits still, or not', its two ways joined -/
theorem z_j6 (hx : p.tables.exec = Jvm.exec) (hb : c.code = cc) (hl : lv_has ls nL lv) {a b x y : Int} (d0 : decode cc 323 = .ok (.if_icmp .ge 8, 3)) (d1 : decode cc 326 = .ok (.iload 4, 2)) (d2 : decode cc 328 = .ok (.goto 5, 3)) (d3 : decode cc 331 = .ok (.iload 8, 2)) (i : Nat) (hi : lv[i]? = some (4, .int (zI x))) (k : Nat) (hk : lv[k]? = some (8, .int (zI y))) (ha : -2147483648 ≤ a ∧ a ≤ 2147483647) (hb9 : -2147483648 ≤ b ∧ b ≤ 2147483647)
    (kk : W p l e R s m args below meth c H locs cells slots Q (F0 m 333 ls (.int (zI (if a < b then x else y)) :: rest))) : W p l e R s m args below meth c H locs cells slots Q (F0 m 323 ls (.int (zI b) :: .int (zI a) :: rest)) := by
  refine z_icmp_ge (a := a) (b := b) (tgt := 331) hx hb d0 (by decide) ha hb9 (fun h => ?_) (fun h => ?_)
  · rw [if_neg (by omega)] at kk
    exact lv_iload hx hb d3 (lv_at hl k hk) kk
  · rw [if_pos (by omega)] at kk
    exact lv_iload hx hb d1 (lv_at hl i hi) (lv_goto (tgt := 333) hx hb d2 (by decide) kk)
/-- how many dots a part has -/
theorem z_lim (hx : p.tables.exec = Jvm.exec) (hb : c.code = cc) (hl : lv_has ls nL lv) {p9 : Int} (d0 : decode cc 170 = .ok (.iload 14, 2)) (d1 : decode cc 172 = .ok (.bipush 32, 2)) (d2 : decode cc 174 = .ok (.if_icmp .ne 7, 3)) (d3 : decode cc 177 = .ok (.iconst 1, 1)) (d4 : decode cc 178 = .ok (.goto 15, 3)) (d5 : decode cc 181 = .ok (.iload 14, 2)) (d6 : decode cc 183 = .ok (.bipush 16, 2)) (d7 : decode cc 185 = .ok (.if_icmp .ne 7, 3)) (d8 : decode cc 188 = .ok (.iconst 2, 1)) (d9 : decode cc 189 = .ok (.goto 4, 3)) (da : decode cc 192 = .ok (.iconst 3, 1)) (i : Nat) (hi : lv[i]? = some (14, .int (zI p9))) (hp : -2147483648 ≤ p9 ∧ p9 ≤ 2147483647)
    (kk : W p l e R s m args below meth c H locs cells slots Q (F0 m 193 ls (.int (zI (lim9 p9)) :: rest))) : W p l e R s m args below meth c H locs cells slots Q (F0 m 170 ls rest) := by
  refine lv_iload hx hb d0 (lv_at hl i hi) (z_bipush hx hb d1 (by decide) (z_icmp_ne (a := p9) (b := 32) (tgt := 181) hx hb d2 (by decide) hp (by decide) (fun h => ?_) (fun h => ?_)))
  · refine lv_iload hx hb d5 (lv_at hl i hi) (z_bipush hx hb d6 (by decide) (z_icmp_ne (a := p9) (b := 16) (tgt := 192) hx hb d7 (by decide) hp (by decide) (fun h2 => ?_) (fun h2 => ?_)))
    · rw [show lim9 p9 = 3 by unfold lim9; rw [if_neg h, if_neg h2]] at kk
      exact z_iconst hx hb da kk
    · rw [show lim9 p9 = 2 by unfold lim9; rw [if_neg h, if_pos h2]] at kk
      exact z_iconst hx hb d8 (lv_goto (tgt := 193) hx hb d9 (by decide) kk)
  · rw [show lim9 p9 = 1 by unfold lim9; rw [if_pos h]] at kk
    exact z_iconst hx hb d3 (lv_goto (tgt := 193) hx hb d4 (by decide) kk)
end ZJ9
set_option maxHeartbeats 4000000 in
theorem c_X3_add (l : Launch) (G : zG) (h lo vs : Nat) (f : Nat → Nat) (bt pt ky nv : Int) (n : Int → Int) (B : Int → Int → Int) (v x nt st sg oc ti fr N : Int) (sd : Int → Int) (sz : Nat) (hgh : G.2.2 ≤ h) (hbt : 1 ≤ bt ∧ bt ≤ 12) (hpt : pt = 2 ∨ pt = 4 ∨ pt = 8) (hv : 0 ≤ v ∧ v < nv) (hn4 : nv ≤ 4) (hx9 : 0 ≤ x ∧ x < 15) (hn0 : 0 ≤ n v) (hnN : n v + N ≤ 200) (hfr : bgM B v (n v) = fr) (hf : 0 ≤ fr ∧ fr % 12 = 0 ∧ fr ≤ 1000000) (hN : N = cutN (bt * 384 / pt) (fr + valT x) fr) (hs : sd 0 = valP x ∧ sd 1 = valD x ∧ sd 2 = nt ∧ sd 3 = st ∧ sd 4 = sg ∧ sd 5 = oc ∧ sd 6 = ti)
    (hB : ∀ j, 0 ≤ j → j < N → ∀ w, 0 ≤ w → w < 7 → B v (10 * (n v + j) + w) = elC (bt * 384 / pt) (fr + valT x) fr sd j w) :
    MW l yX3_add cX3_add 16 (some .int) 1 30 (1140) (17500) G [.ref h, .int (zI v), .int (zI (valP x)), .int (zI (valD x)), .int (zI nt), .int (zI st), .int (zI sg), .int (zI oc), .int (zI ti)] (fun q : Nat => q = vs ∨ sz ≤ q) sz (HP9 G h lo vs f bt pt ky nv n B) (QW (fun q : Nat => q = vs ∨ sz ≤ q) (fun r H => r = N ∧ ∃ f1 : Nat → Nat, HP9 G h lo vs f1 bt pt ky nv (zU n v (n v + N)) B H)) := by
  refine mw_of hp_X3_add (Nat.le_of_ble_eq_true rfl) ?_
  intro p env s m below meth c ls hB9 hsz hP hl
  obtain ⟨hx, hb, hml, hr, hlk, hown, hts, hG⟩ := hB9
  subst hsz
  have hK := hG.1
  have hov1 := hG.2.2.2.2.2.2.2.2.2.1.1
  have hov := hG.2.2.2.2.2.2.2.2.2.1.2.1
  have hlo := hP.1
  have hvl : vs < s.heap.size := hP.2.2.1.lt
  have hS : va_S (fun q : Nat => q = vs ∨ s.heap.size ≤ q) s.heap s.heap [] := va_S.rf
  have hA : ∀ q : Nat, (fun q : Nat => q = vs ∨ s.heap.size ≤ q) q → G.2.2 ≤ q := fun q hq => hq.elim (fun e => by omega) (fun e => Nat.le_trans hG.2.1 e)
  have hl : lv_has ls 16 [(0, .ref h), (1, .int (zI v)), (2, .int (zI (valP x))), (3, .int (zI (valD x))), (4, .int (zI nt)), (5, .int (zI st)), (6, .int (zI sg)), (7, .int (zI oc)), (8, .int (zI ti))] := hl
  obtain ⟨b, hbar⟩ : ∃ b, b = bt * 384 / pt := ⟨_, rfl⟩
  rw [← hbar] at hN hB
  have hb9 : 48 ≤ b ∧ b ≤ 2304 ∧ b % 12 = 0 := by rcases hpt with e | e | e <;> rw [e] at hbar <;> omega
  obtain ⟨hN1, hend, hall⟩ := af_all hx9 ⟨hb9.1, hb9.2.2⟩ ⟨hf.1, hf.2.1⟩ hs.1 hs.2.1 hn0 hfr hN hB
  have vt := valT_rng hx9
  have v12 := valT_12 hx9
  refine lv_aload_n hx hb dX3_add_0 rfl (lv_at hl 0 rfl) ?_
  refine lv_iload_n hx hb dX3_add_1 rfl (lv_at hl 1 rfl) ?_
  refine k_R (c_VR (As := [.int (zI v)]) (rest := []) ⟨hx, hb, hml, hown, hts⟩ hG hS hA (c_X3_end l G h lo vs f bt pt ky nv n B v hv hn4 ⟨hn0, by omega⟩) ⟨q_ml_RX3_32, q_im_X3_end, q_sel_X3_end, q_ini_RX3, q_code_X3_end⟩ hv_X3_end (va_at_rec hK hP.2.1 (C := RX3) (T := TX3) (N := 4) rfl) hP ⟨Nat.le_of_ble_eq_true rfl, Nat.le_of_ble_eq_true rfl⟩ ⟨Nat.zero_le _, Nat.zero_le _⟩ rfl hl.1 rfl (Nat.le_of_ble_eq_true rfl) dX3_add_2) ?_
  rw [hfr]
  refine lv_istore (lv' := [(9, .int (zI fr)), (0, .ref h), (1, .int (zI v)), (2, .int (zI (valP x))), (3, .int (zI (valD x))), (4, .int (zI nt)), (5, .int (zI st)), (6, .int (zI sg)), (7, .int (zI oc)), (8, .int (zI ti))]) hx hb dX3_add_5 hl (by decide) rfl (fun ls hl => ?_)
  refine lv_iload hx hb dX3_add_7 (lv_at hl 0 rfl) ?_
  refine lv_iload_n hx hb dX3_add_9 rfl (lv_at hl 3 rfl) ?_
  refine lv_iload_n hx hb dX3_add_10 rfl (lv_at hl 4 rfl) ?_
  refine k_R (c_SR (As := [.int (zI (valP x)), .int (zI (valD x))]) (rest := [.int (zI fr)]) ⟨hx, hb, hml, hown, hts⟩ hG hS hA (c_X3_ticks l G (valP x) (valD x) (valPD_rng hx9).1 (valPD_rng hx9).2) ⟨q_ml_RX3_36, q_st_X3_ticks, q_ini_RX3, q_code_X3_ticks⟩ hs_X3_ticks trivial ⟨Nat.le_of_ble_eq_true rfl, Nat.le_of_ble_eq_true rfl⟩ ⟨Nat.zero_le _, Nat.zero_le _⟩ rfl hl.1 rfl (Nat.le_of_ble_eq_true rfl) dX3_add_11) ?_
  rw [tkH_val hx9]
  refine z_iadd (x := fr) (y := valT x) hx hb dX3_add_14 ?_
  refine lv_istore (lv' := [(10, .int (zI (fr + valT x))), (9, .int (zI fr)), (0, .ref h), (1, .int (zI v)), (2, .int (zI (valP x))), (3, .int (zI (valD x))), (4, .int (zI nt)), (5, .int (zI st)), (6, .int (zI sg)), (7, .int (zI oc)), (8, .int (zI ti))]) hx hb dX3_add_15 hl (by decide) rfl (fun ls hl => ?_)
  refine z_iconst hx hb dX3_add_17 ?_
  refine lv_istore (lv' := [(11, .int (zI 0)), (10, .int (zI (fr + valT x))), (9, .int (zI fr)), (0, .ref h), (1, .int (zI v)), (2, .int (zI (valP x))), (3, .int (zI (valD x))), (4, .int (zI nt)), (5, .int (zI st)), (6, .int (zI sg)), (7, .int (zI oc)), (8, .int (zI ti))]) hx hb dX3_add_18 hl (by decide) rfl (fun ls hl => ?_)
  refine lv_iload hx hb dX3_add_20 (lv_at hl 1 rfl) ?_
  refine z_iconst hx hb dX3_add_22 ?_
  refine z_isub (x := fr + valT x) (y := 1) hx hb dX3_add_23 ?_
  refine lv_aload_n hx hb dX3_add_24 rfl (lv_at hl 3 rfl) ?_
  refine k_R (c_VR (As := []) (rest := [.int (zI (fr + valT x - 1))]) ⟨hx, hb, hml, hown, hts⟩ hG hS hA (c_X3_bar l G h vs bt pt ky hbt hpt) ⟨q_ml_RX3_40, q_im_X3_bar, q_sel_X3_bar, q_ini_RX3, q_code_X3_bar⟩ hv_X3_bar (va_at_rec hK hP.2.1 (C := RX3) (T := TX3) (N := 4) rfl) hP.2.1 ⟨Nat.le_of_ble_eq_true rfl, Nat.le_of_ble_eq_true rfl⟩ ⟨Nat.zero_le _, Nat.zero_le _⟩ rfl hl.1 rfl (Nat.le_of_ble_eq_true rfl) dX3_add_25) ?_
  rw [← hbar]
  refine z_idiv (x := fr + valT x - 1) (y := b) hx hb dX3_add_28 (by omega) (by omega) ?_
  refine lv_iload hx hb dX3_add_29 (lv_at hl 2 rfl) ?_
  refine lv_aload_n hx hb dX3_add_31 rfl (lv_at hl 3 rfl) ?_
  refine k_R (c_VR (As := []) (rest := [.int (zI fr), .int (zI ((fr + valT x - 1) / b))]) ⟨hx, hb, hml, hown, hts⟩ hG hS hA (c_X3_bar l G h vs bt pt ky hbt hpt) ⟨q_ml_RX3_40, q_im_X3_bar, q_sel_X3_bar, q_ini_RX3, q_code_X3_bar⟩ hv_X3_bar (va_at_rec hK hP.2.1 (C := RX3) (T := TX3) (N := 4) rfl) hP.2.1 ⟨Nat.le_of_ble_eq_true rfl, Nat.le_of_ble_eq_true rfl⟩ ⟨Nat.zero_le _, Nat.zero_le _⟩ rfl hl.1 rfl (Nat.le_of_ble_eq_true rfl) dX3_add_32) ?_
  rw [← hbar]
  refine z_idiv (x := fr) (y := b) hx hb dX3_add_35 (by omega) (by omega) ?_
  have r1 : 0 ≤ (fr + valT x - 1) / b := Int.ediv_nonneg (by omega) (by omega)
  have r2 : (fr + valT x - 1) / b ≤ fr + valT x - 1 := Int.ediv_le_self _ (by omega)
  have r3 : 0 ≤ fr / b := Int.ediv_nonneg (by omega) (by omega)
  have r4 : fr / b ≤ fr := Int.ediv_le_self _ (by omega)
  refine z_icmp_ne (a := (fr + valT x - 1) / b) (b := fr / b) (tgt := 109) hx hb dX3_add_36 (by decide) (by omega) (by omega) (fun h36 => ?_) (fun h36 => ?_)
  · skip
    have lp109 : ∀ (w : Nat) (j : Int), 0 ≤ j → j ≤ N → N - j < w → ∀ (f1 : Nat → Nat) (H : Heap) (locs : List Loc), HP9 G h lo vs f1 bt pt ky nv (zU n v (n v + j)) B H → va_S (fun q : Nat => q = vs ∨ s.heap.size ≤ q) s.heap H locs → ∀ ls : Array Slot, lv_has ls 16 [(9, .int (zI (ctA b (fr + valT x) fr (j)))), (10, .int (zI (fr + valT x))), (11, .int (zI j)), (0, .ref h), (1, .int (zI v)), (4, .int (zI nt)), (5, .int (zI st)), (6, .int (zI sg)), (7, .int (zI oc)), (8, .int (zI ti))] → W p l env (rmz 1 30 1140 17500) s m (([.ref h, .int (zI v), .int (zI (valP x)), .int (zI (valD x)), .int (zI nt), .int (zI st), .int (zI sg), .int (zI oc), .int (zI ti)] : List Value).toArray) below meth c H locs (20 * j.toNat) (310 * j.toNat) (MQ below (QW (fun q : Nat => q = vs ∨ s.heap.size ≤ q) (fun r H => r = N ∧ ∃ f1 : Nat → Nat, HP9 G h lo vs f1 bt pt ky nv (zU n v (n v + N)) B H)) (([.ref h, .int (zI v), .int (zI (valP x)), .int (zI (valD x)), .int (zI nt), .int (zI st), .int (zI sg), .int (zI oc), .int (zI ti)] : List Value).toArray) s 1140 17500 (fun q : Nat => q = vs ∨ s.heap.size ≤ q)) (F0 m 109 ls []) := by
      intro w
      induction w with
      | zero => intro j j0 j1 hm; omega
      | succ w ih =>
        intro j j0 j1 hm f1 H locs hP hS ls hl
        rcases (by omega : j = N ∨ j < N) with hj | hj
        · skip
          refine lv_iload hx hb dX3_add_109 (lv_at hl 0 rfl) ?_
          refine lv_iload hx hb dX3_add_111 (lv_at hl 1 rfl) ?_
          refine z_icmp_ge (a := ctA b (fr + valT x) fr (j)) (b := fr + valT x) (tgt := 367) hx hb dX3_add_113 (by decide) (by rw [hj, hend]; omega) (by omega) (fun _ => ?_) (fun h9 => absurd (by rw [hj, hend]; exact Int.le_refl _) h9)
          refine lv_iload hx hb dX3_add_367 (lv_at hl 2 rfl) ?_
          exact e_Wi (r := j) hx hb hr hlk (n_i _) hS (by omega) (by omega) ⟨hj, f1, by rw [← hj]; exact hP⟩ dX3_add_369
        · skip
          obtain ⟨hc1, hc2, hc3, hc4, hc5, hc6, hc7, hc8, hc9⟩ := hall j j0 hj
          have ha9 := kk_ok (b := b) (en := fr + valT x) (a := ctA b (fr + valT x) fr j) ⟨hb9.1, hb9.2.2⟩ ⟨by omega, hc2.2⟩ ⟨hc1, by omega⟩
          have hkf := fun {X : Int} (hX : 0 ≤ X ∧ X < 15) => kk_first (b := b) (en := fr + valT x) (a := ctA b (fr + valT x) fr j) ⟨hb9.1, hb9.2.2⟩ ⟨by omega, hc2.2⟩ ⟨hc1, by omega⟩ hX
          rw [hc4] at hc9
          have hct : ctA b (fr + valT x) fr (j + 1) ≤ fr + valT x := by
            rcases (by omega : j + 1 = N ∨ j + 1 < N) with z | z
            · rw [z, hend]; exact Int.le_refl _
            · exact Int.le_of_lt (hall (j + 1) (by omega) z).1
          obtain ⟨a, ha⟩ : ∃ a, a = ctA b (fr + valT x) fr j := ⟨_, rfl⟩
          rw [← ha] at hc1 hc2 hc3 hc4 hc5 hc6 hc7 hc9 ha9 hkf hl
          obtain ⟨kk, hkk⟩ : ∃ kk, kk = kkC b (fr + valT x) a := ⟨_, rfl⟩
          rw [← hkk] at hc3 hc4 hc6 hc7 hc9 ha9 hkf
          have vk := valT_rng hc3
          have hn1 : zU n v (n v + j) v = n v + j := zU_s _ _ _
          have hHV := hP.2.2.2 v.toNat (by omega)
          rw [Int.toNat_of_nonneg hv.1, hn1] at hHV
          obtain ⟨q0, q1⟩ := hP.1
          have hvH : vs < H.size := hP.2.2.1.lt
          have hsH := hS.1
          refine lv_iload hx hb dX3_add_109 (lv_at hl 0 rfl) ?_
          refine lv_iload hx hb dX3_add_111 (lv_at hl 1 rfl) ?_
          refine z_icmp_ge (a := a) (b := fr + valT x) (tgt := 367) hx hb dX3_add_113 (by decide) (by omega) (by omega) (fun h9 => absurd h9 (by omega)) (fun _ => ?_)
          refine lv_iload hx hb dX3_add_116 (lv_at hl 1 rfl) ?_
          refine lv_iload hx hb dX3_add_118 (lv_at hl 0 rfl) ?_
          refine z_isub (x := fr + valT x) (y := a) hx hb dX3_add_120 ?_
          refine lv_aload_n hx hb dX3_add_121 rfl (lv_at hl 3 rfl) ?_
          refine k_R (c_VR (As := []) (rest := [.int (zI (fr + valT x - a))]) ⟨hx, hb, hml, hown, hts⟩ hG hS hA (c_X3_bar l G h vs bt pt ky hbt hpt) ⟨q_ml_RX3_40, q_im_X3_bar, q_sel_X3_bar, q_ini_RX3, q_code_X3_bar⟩ hv_X3_bar (va_at_rec hK hP.2.1 (C := RX3) (T := TX3) (N := 4) rfl) hP.2.1 ⟨Nat.le_of_ble_eq_true rfl, Nat.le_of_ble_eq_true rfl⟩ ⟨(by show 20 * j.toNat ≤ 1140; omega), (by show 310 * j.toNat ≤ 17500; omega)⟩ rfl hl.1 rfl (Nat.le_of_ble_eq_true rfl) dX3_add_122) ?_
          rw [← hbar]
          refine lv_iload hx hb dX3_add_125 (lv_at hl 0 rfl) ?_
          refine lv_aload_n hx hb dX3_add_127 rfl (lv_at hl 3 rfl) ?_
          refine k_R (c_VR (As := []) (rest := [.int (zI a), .int (zI b), .int (zI (fr + valT x - a))]) ⟨hx, hb, hml, hown, hts⟩ hG hS hA (c_X3_bar l G h vs bt pt ky hbt hpt) ⟨q_ml_RX3_40, q_im_X3_bar, q_sel_X3_bar, q_ini_RX3, q_code_X3_bar⟩ hv_X3_bar (va_at_rec hK hP.2.1 (C := RX3) (T := TX3) (N := 4) rfl) hP.2.1 ⟨Nat.le_of_ble_eq_true rfl, Nat.le_of_ble_eq_true rfl⟩ ⟨(by show 20 * j.toNat ≤ 1140; omega), (by show 310 * j.toNat ≤ 17500; omega)⟩ rfl hl.1 rfl (Nat.le_of_ble_eq_true rfl) dX3_add_128) ?_
          rw [← hbar]
          refine z_iremt (x := a) (y := b) hx hb dX3_add_131 (by omega) (by omega) ?_
          refine z_isub (x := b) (y := a - a.tdiv b * b) hx hb dX3_add_132 ?_
          have eL : b - (a - a.tdiv b * b) = (a / b + 1) * b - a := by rw [Int.tdiv_eq_ediv_of_nonneg (by omega), Int.add_mul, Int.one_mul]; omega
          rw [eL]
          refine k_R (c_SR (As := [.int (zI (fr + valT x - a)), .int (zI ((a / b + 1) * b - a))]) (rest := []) ⟨hx, hb, hml, hown, hts⟩ hG hS hA (c_J9_min_7cf53 l G (fr + valT x - a) ((a / b + 1) * b - a) (by omega) (by omega)) ⟨q_ml_RX3_48, q_st_J9_min_7cf53, q_ini_RJ9, q_code_J9_min_7cf53⟩ hs_J9_min_7cf53 trivial ⟨Nat.le_of_ble_eq_true rfl, Nat.le_of_ble_eq_true rfl⟩ ⟨(by show 20 * j.toNat ≤ 1140; omega), (by show 310 * j.toNat ≤ 17500; omega)⟩ rfl hl.1 rfl (Nat.le_of_ble_eq_true rfl) dX3_add_133) ?_
          obtain ⟨L, hL⟩ : ∃ L, L = min (fr + valT x - a) ((a / b + 1) * b - a) := ⟨_, rfl⟩
          rw [← hL] at hkf ⊢
          have hL9 : 12 ≤ L ∧ L ≤ 2147483647 := by omega
          refine lv_istore (lv' := [(12, .int (zI L)), (9, .int (zI a)), (10, .int (zI (fr + valT x))), (11, .int (zI j)), (0, .ref h), (1, .int (zI v)), (4, .int (zI nt)), (5, .int (zI st)), (6, .int (zI sg)), (7, .int (zI oc)), (8, .int (zI ti))]) hx hb dX3_add_136 hl (by decide) rfl (fun ls hl => ?_)
          refine z_iconst hx hb dX3_add_138 ?_
          refine z_newI hx hb hts hK hS (n := 3) (by decide) (by show 20 * j.toNat + 1 ≤ 1140; omega) (by show 310 * j.toNat + 3 ≤ 17500; omega) dX3_add_139 (fun H0 hR hz o9 hS => ?_)
          have hR : va_at G.1 vwCl (H.size, .inl (G.2.1 0, 3, .inl (zA (fun _ => 0)))) H0 := hR
          have ho : ∀ q : Nat, q < H.size → H0[q]? = H[q]? := o9
          refine lv_dup hx hb dX3_add_141 rfl ?_
          refine z_iconst hx hb dX3_add_142 ?_
          refine z_iconst hx hb dX3_add_143 ?_
          refine z_ast (n := 3) (x := 0) hx hb hK hS (Or.inr (by omega)) hR (i := 0) (by decide) (by decide) dX3_add_144 (fun H0 locs0 hR z9 o9 hS => ?_)
          have ho : ∀ q : Nat, q < H.size → H0[q]? = H[q]? := fun q hq => (o9 q (by omega)).trans (ho q hq)
          have hz := z9.trans hz
          refine lv_dup hx hb dX3_add_145 rfl ?_
          refine z_iconst hx hb dX3_add_146 ?_
          refine z_iconst hx hb dX3_add_147 ?_
          refine z_ast (n := 3) (x := 0) hx hb hK hS (Or.inr (by omega)) hR (i := 1) (by decide) (by decide) dX3_add_148 (fun H0 locs0 hR z9 o9 hS => ?_)
          have ho : ∀ q : Nat, q < H.size → H0[q]? = H[q]? := fun q hq => (o9 q (by omega)).trans (ho q hq)
          have hz := z9.trans hz
          refine lv_dup hx hb dX3_add_149 rfl ?_
          refine z_iconst hx hb dX3_add_150 ?_
          refine z_iconst hx hb dX3_add_151 ?_
          refine z_ast (n := 3) (x := 0) hx hb hK hS (Or.inr (by omega)) hR (i := 2) (by decide) (by decide) dX3_add_152 (fun H0 locs0 hR z9 o9 hS => ?_)
          have ho : ∀ q : Nat, q < H.size → H0[q]? = H[q]? := fun q hq => (o9 q (by omega)).trans (ho q hq)
          have hz := z9.trans hz
          have hR := va_i9 hR (row3 (F := bst 15) rfl rfl rfl)
          refine lv_astore (lv' := [(13, .ref H.size), (12, .int (zI L)), (9, .int (zI a)), (10, .int (zI (fr + valT x))), (11, .int (zI j)), (0, .ref h), (1, .int (zI v)), (4, .int (zI nt)), (5, .int (zI st)), (6, .int (zI sg)), (7, .int (zI oc)), (8, .int (zI ti))]) hx hb dX3_add_153 hl (by decide) rfl (fun ls hl => ?_)
          have K262 : ∀ (bq : Nat) (J : Heap) (locs : List Loc), va_at G.1 vwCl (bq, .inl (G.2.1 0, 3, .inl (zA (bst kk)))) J → (∀ q : Nat, q < H.size → J[q]? = H[q]?) → H.size ≤ bq → H.size < J.size → va_S (fun q : Nat => q = vs ∨ s.heap.size ≤ q) s.heap J locs → ∀ ls : Array Slot, lv_has ls 16 [(13, .ref bq), (12, .int (zI L)), (9, .int (zI a)), (10, .int (zI (fr + valT x))), (11, .int (zI j)), (0, .ref h), (1, .int (zI v)), (4, .int (zI nt)), (5, .int (zI st)), (6, .int (zI sg)), (7, .int (zI oc)), (8, .int (zI ti))] → W p l env (rmz 1 30 1140 17500) s m (([.ref h, .int (zI v), .int (zI (valP x)), .int (zI (valD x)), .int (zI nt), .int (zI st), .int (zI sg), .int (zI oc), .int (zI ti)] : List Value).toArray) below meth c J locs (20 * j.toNat + 16) (310 * j.toNat + 48) (MQ below (QW (fun q : Nat => q = vs ∨ s.heap.size ≤ q) (fun r H => r = N ∧ ∃ f1 : Nat → Nat, HP9 G h lo vs f1 bt pt ky nv (zU n v (n v + N)) B H)) (([.ref h, .int (zI v), .int (zI (valP x)), .int (zI (valD x)), .int (zI nt), .int (zI st), .int (zI sg), .int (zI oc), .int (zI ti)] : List Value).toArray) s 1140 17500 (fun q : Nat => q = vs ∨ s.heap.size ≤ q)) (F0 m 262 ls []) := by
            intro bq J locs hbq hoJ hbl hzJ hS ls hl
            have hPJ := hP.kept (H1 := J) (fun q h1 _ => hoJ q h1)
            have hsJ := hS.1
            have b0 : bst kk 0 = valP kk := by unfold bst; rw [if_neg (by omega), if_pos rfl]
            have b1 : bst kk 1 = valD kk := by unfold bst; rw [if_neg (by omega), if_neg (by decide), if_pos rfl]
            have b2 : bst kk 2 = valT kk := by unfold bst; rw [if_neg (by omega), if_neg (by decide), if_neg (by decide)]
            refine lv_aload_n hx hb dX3_add_262 rfl (lv_at hl 5 rfl) ?_
            refine z_get (C := RX3) (T := TX3) (N := 4) hx hb hK hts u_in_X3 hown hPJ.2.1 rfl 3 (by decide) q_fl_RX3_18 (v := .ref vs) rfl dX3_add_263 ?_
            refine lv_iload_n hx hb dX3_add_266 rfl (lv_at hl 6 rfl) ?_
            refine lv_aload_n hx hb dX3_add_267 rfl (lv_at hl 5 rfl) ?_
            refine z_get (C := RX3) (T := TX3) (N := 4) hx hb hK hts u_in_X3 hown hPJ.2.1 rfl 3 (by decide) q_fl_RX3_18 (v := .ref vs) rfl dX3_add_268 ?_
            refine lv_iload_n hx hb dX3_add_271 rfl (lv_at hl 6 rfl) ?_
            refine z_aldr (t0 := 3) (n := nv.toNat) hx hb hK rfl rfl hPJ.2.2.1 (i := v) (by omega) (by omega) rfl dX3_add_272 ?_
            refine z_bipush hx hb dX3_add_273 (by decide) ?_
            refine z_newI hx hb hts hK hS (n := 9) (by decide) (by show 20 * j.toNat + 16 + 1 ≤ 1140; omega) (by show 310 * j.toNat + 48 + 9 ≤ 17500; omega) dX3_add_275 (fun J1 hR hz o9 hS => ?_)
            have hR : va_at G.1 vwCl (J.size, rw9 G (fun _ => 0)) J1 := hR
            have ho : ∀ q : Nat, q < J.size → J1[q]? = J[q]? := o9
            refine lv_dup hx hb dX3_add_277 rfl ?_
            refine z_iconst hx hb dX3_add_278 ?_
            refine lv_aload hx hb dX3_add_279 (lv_at hl 0 rfl) ?_
            refine z_iconst hx hb dX3_add_281 ?_
            refine z_ald (n := 3) hx hb hK (hbq.kept (ho _ hbq.lt)) (i := 0) (by decide) (by decide) dX3_add_282 ?_
            rw [b0]
            refine z_ast (n := 9) (x := valP kk) hx hb hK hS (Or.inr (by have := hS.1; omega)) hR (i := 0) (by decide) (by decide) dX3_add_283 (fun J1 locs1 hR z9 o9 hS => ?_)
            have ho : ∀ q : Nat, q < J.size → J1[q]? = J[q]? := fun q hq => (o9 q (by omega)).trans (ho q hq)
            have hz := z9.trans hz
            refine lv_dup hx hb dX3_add_284 rfl ?_
            refine z_iconst hx hb dX3_add_285 ?_
            refine lv_aload hx hb dX3_add_286 (lv_at hl 0 rfl) ?_
            refine z_iconst hx hb dX3_add_288 ?_
            refine z_ald (n := 3) hx hb hK (hbq.kept (ho _ hbq.lt)) (i := 1) (by decide) (by decide) dX3_add_289 ?_
            rw [b1]
            refine z_ast (n := 9) (x := valD kk) hx hb hK hS (Or.inr (by have := hS.1; omega)) hR (i := 1) (by decide) (by decide) dX3_add_290 (fun J1 locs1 hR z9 o9 hS => ?_)
            have ho : ∀ q : Nat, q < J.size → J1[q]? = J[q]? := fun q hq => (o9 q (by omega)).trans (ho q hq)
            have hz := z9.trans hz
            refine lv_dup hx hb dX3_add_291 rfl ?_
            refine z_iconst hx hb dX3_add_292 ?_
            refine lv_iload hx hb dX3_add_293 (lv_at hl 7 rfl) ?_
            refine z_ast (n := 9) (x := nt) hx hb hK hS (Or.inr (by have := hS.1; omega)) hR (i := 2) (by decide) (by decide) dX3_add_295 (fun J1 locs1 hR z9 o9 hS => ?_)
            have ho : ∀ q : Nat, q < J.size → J1[q]? = J[q]? := fun q hq => (o9 q (by omega)).trans (ho q hq)
            have hz := z9.trans hz
            refine lv_dup hx hb dX3_add_296 rfl ?_
            refine z_iconst hx hb dX3_add_297 ?_
            refine lv_iload hx hb dX3_add_298 (lv_at hl 8 rfl) ?_
            refine z_ast (n := 9) (x := st) hx hb hK hS (Or.inr (by have := hS.1; omega)) hR (i := 3) (by decide) (by decide) dX3_add_300 (fun J1 locs1 hR z9 o9 hS => ?_)
            have ho : ∀ q : Nat, q < J.size → J1[q]? = J[q]? := fun q hq => (o9 q (by omega)).trans (ho q hq)
            have hz := z9.trans hz
            refine lv_dup hx hb dX3_add_301 rfl ?_
            refine z_iconst hx hb dX3_add_302 ?_
            refine lv_iload hx hb dX3_add_303 (lv_at hl 9 rfl) ?_
            refine z_ast (n := 9) (x := sg) hx hb hK hS (Or.inr (by have := hS.1; omega)) hR (i := 4) (by decide) (by decide) dX3_add_305 (fun J1 locs1 hR z9 o9 hS => ?_)
            have ho : ∀ q : Nat, q < J.size → J1[q]? = J[q]? := fun q hq => (o9 q (by omega)).trans (ho q hq)
            have hz := z9.trans hz
            refine lv_dup hx hb dX3_add_306 rfl ?_
            refine z_iconst hx hb dX3_add_307 ?_
            refine lv_iload hx hb dX3_add_308 (lv_at hl 10 rfl) ?_
            refine z_ast (n := 9) (x := oc) hx hb hK hS (Or.inr (by have := hS.1; omega)) hR (i := 5) (by decide) (by decide) dX3_add_310 (fun J1 locs1 hR z9 o9 hS => ?_)
            have ho : ∀ q : Nat, q < J.size → J1[q]? = J[q]? := fun q hq => (o9 q (by omega)).trans (ho q hq)
            have hz := z9.trans hz
            refine lv_dup hx hb dX3_add_311 rfl ?_
            refine z_bipush hx hb dX3_add_312 (by decide) ?_
            refine lv_iload hx hb dX3_add_314 (lv_at hl 2 rfl) ?_
            refine lv_aload hx hb dX3_add_316 (lv_at hl 0 rfl) ?_
            refine z_iconst hx hb dX3_add_318 ?_
            refine z_ald (n := 3) hx hb hK (hbq.kept (ho _ hbq.lt)) (i := 2) (by decide) (by decide) dX3_add_319 ?_
            rw [b2]
            refine z_iadd (x := a) (y := valT kk) hx hb dX3_add_320 ?_
            refine lv_iload hx hb dX3_add_321 (lv_at hl 3 rfl) ?_
            refine z_j6 (a := a + valT kk) (b := fr + valT x) (x := nt) (y := ti) hx hb hl dX3_add_323 dX3_add_326 dX3_add_328 dX3_add_331 7 rfl 11 rfl (by omega) (by omega) ?_
            refine z_ast (n := 9) (x := if a + valT kk < fr + valT x then nt else ti) hx hb hK hS (Or.inr (by have := hS.1; omega)) hR (i := 6) (by decide) (by decide) dX3_add_333 (fun J1 locs1 hR z9 o9 hS => ?_)
            have ho : ∀ q : Nat, q < J.size → J1[q]? = J[q]? := fun q hq => (o9 q (by omega)).trans (ho q hq)
            have hz := z9.trans hz
            refine lv_dup hx hb dX3_add_334 rfl ?_
            refine z_bipush hx hb dX3_add_335 (by decide) ?_
            refine lv_iload hx hb dX3_add_337 (lv_at hl 2 rfl) ?_
            refine z_ast (n := 9) (x := a) hx hb hK hS (Or.inr (by have := hS.1; omega)) hR (i := 7) (by decide) (by decide) dX3_add_339 (fun J1 locs1 hR z9 o9 hS => ?_)
            have ho : ∀ q : Nat, q < J.size → J1[q]? = J[q]? := fun q hq => (o9 q (by omega)).trans (ho q hq)
            have hz := z9.trans hz
            refine lv_dup hx hb dX3_add_340 rfl ?_
            refine z_bipush hx hb dX3_add_341 (by decide) ?_
            refine lv_aload hx hb dX3_add_343 (lv_at hl 0 rfl) ?_
            refine z_iconst hx hb dX3_add_345 ?_
            refine z_ald (n := 3) hx hb hK (hbq.kept (ho _ hbq.lt)) (i := 2) (by decide) (by decide) dX3_add_346 ?_
            rw [b2]
            refine z_ast (n := 9) (x := valT kk) hx hb hK hS (Or.inr (by have := hS.1; omega)) hR (i := 8) (by decide) (by decide) dX3_add_347 (fun J1 locs1 hR z9 o9 hS => ?_)
            have ho : ∀ q : Nat, q < J.size → J1[q]? = J[q]? := fun q hq => (o9 q (by omega)).trans (ho q hq)
            have hz := z9.trans hz
            have hHV := hHV.kept (H1 := J) (fun q h1 _ _ => hoJ q h1)
            have tn9 : (((n v + j).toNat : Nat) : Int) = n v + j := Int.toNat_of_nonneg (by omega)
            have hR := va_i9 hR (row9 (F := hD B v ((n v + j).toNat : Int)) (by rw [tn9]; exact hc7.1) (by rw [tn9]; exact hc7.2) (by rw [tn9]; exact (hc8 2 (by decide) (by decide)).trans hs.2.2.1) (by rw [tn9]; exact (hc8 3 (by decide) (by decide)).trans hs.2.2.2.1) (by rw [tn9]; exact (hc8 4 (by decide) (by decide)).trans hs.2.2.2.2.1) (by rw [tn9]; exact (hc8 5 (by decide) (by decide)).trans hs.2.2.2.2.2.1) (by rw [tn9]; show B v (10 * (n v + j) + 6) = _; rw [hc9, hs.2.2.1, hs.2.2.2.2.2.2]) (by rw [tn9]; exact hc5) (by rw [tn9]; exact hc6))
            obtain ⟨g1, e1, e2, e3⟩ := hHV
            have hHV : HV G lo (f1 v.toNat) vs (n v + j).toNat (fun e => hD B v e) J := ⟨g1, e1, e2, e3⟩
            have hzl := hS.1
            refine k_Wa (c_SW (As := [.ref (f1 v.toNat), .ref J.size]) (rest := [.int (zI v), .ref vs]) ⟨hx, hb, hml, hown, hts⟩ hG hS hA (c_X3_more l G lo (f1 v.toNat) vs (n v + j).toNat J.size J1.size (fun e => hD B v e) (hD B v ((n v + j).toNat : Int)) (by omega) (by omega) (by omega)) ⟨q_ml_RX3_44, q_st_X3_more, q_ini_RX3, q_code_X3_more⟩ hs_X3_more ⟨hHV.kept (fun q h1 _ _ => ho q h1), ⟨by omega, by omega⟩, hR⟩ ⟨Nat.le_of_ble_eq_true rfl, Nat.le_of_ble_eq_true rfl⟩ ⟨(by show 20 * j.toNat + 16 + 1 + 1 ≤ 1140; omega), (by show 310 * j.toNat + 48 + 9 + 250 ≤ 17500; omega)⟩ rfl hl.1 rfl (Nat.le_of_ble_eq_true rfl) dX3_add_348) hS (fun q hq => Or.inr (by have hq : J1.size ≤ q := hq; omega)) (fun r H2 locs2 hq hz2 hk2 hS => ?_)
            obtain ⟨hr9, hHV2⟩ := hq
            subst hr9
            have hHV2 := hHV2.congr (C' := fun e => hD B v e) (fun e he => by
              show (if e = (n v + j).toNat then hD B v ((n v + j).toNat : Int) else hD B v e) = hD B v e
              by_cases c : e = (n v + j).toNat
              · rw [if_pos c, c]
              · rw [if_neg c])
            have ho2 : ∀ q : Nat, q < J.size → H2[q]? = J[q]? := fun q hq => (hk2 q (by omega) (by omega)).trans (ho q hq)
            obtain ⟨g2, c1, c2, c3⟩ := hHV2
            have hHV2 : HV G lo J1.size vs ((n v + j).toNat + 1) (fun e => hD B v e) H2 := ⟨g2, c1, c2, c3⟩
            refine z_aastA (t0 := 3) (t1 := 1) (t := .array .int) hx hb hK hov (hK.2 3 _ rfl).2 (hK.2 1 _ rfl).2 hS (Or.inl rfl) rfl (hPJ.2.2.1.kept (ho2 _ hPJ.2.2.1.lt)) c2 (i := v) (by omega) (by omega) dX3_add_351 (fun H3 locs3 hVs3 z3 o3 hS => ?_)
            have hF9 := hPJ.put (m := n v + j + 1) (a := J1.size) hv (fun z h1 h2 => (o3 z h2).trans (ho2 z h1)) hVs3 (by rw [show (n v + j + 1).toNat = (n v + j).toNat + 1 by omega]; exact hHV2.kept (fun q _ _ h3 => o3 q h3))
            have hbqo := hbq.kept ((o3 _ (by show bq ≠ vs; omega)).trans ((hk2 _ (by show bq < J1.size; have := hbq.lt; have e9 : bq < J.size := this; omega) (by show ¬ J1.size ≤ bq; have := hbq.lt; have e9 : bq < J.size := this; omega)).trans (ho _ hbq.lt)))
            refine lv_iload hx hb dX3_add_352 (lv_at hl 2 rfl) ?_
            refine lv_aload hx hb dX3_add_354 (lv_at hl 0 rfl) ?_
            refine z_iconst hx hb dX3_add_356 ?_
            refine z_ald (n := 3) hx hb hK hbqo (i := 2) (by decide) (by decide) dX3_add_357 ?_
            rw [b2]
            refine z_iadd (x := a) (y := valT kk) hx hb dX3_add_358 ?_
            refine lv_istore (lv' := [(9, .int (zI (a + valT kk))), (13, .ref bq), (12, .int (zI L)), (10, .int (zI (fr + valT x))), (11, .int (zI j)), (0, .ref h), (1, .int (zI v)), (4, .int (zI nt)), (5, .int (zI st)), (6, .int (zI sg)), (7, .int (zI oc)), (8, .int (zI ti))]) hx hb dX3_add_359 hl (by decide) rfl (fun ls hl => ?_)
            refine z_iinc (lv' := [(11, .int (zI (j + 1))), (9, .int (zI (a + valT kk))), (13, .ref bq), (12, .int (zI L)), (10, .int (zI (fr + valT x))), (0, .ref h), (1, .int (zI v)), (4, .int (zI nt)), (5, .int (zI st)), (6, .int (zI sg)), (7, .int (zI oc)), (8, .int (zI ti))]) hx hb dX3_add_361 hl (k := 4) rfl (by decide) rfl (fun ls hl => ?_)
            refine lv_goto (tgt := 109) hx hb dX3_add_364 (by decide) ?_
            rw [← hc4] at hl
            refine W.widen (k := 20 * (j + 1).toNat) (n := 310 * (j + 1).toNat) (by omega) (by omega) (ih (j + 1) (by omega) (by omega) (by omega) (fun z => if z = v.toNat then J1.size else f1 z) H3 _ ?_ hS ls (lv_sub hl [1, 4, 0, 5, 6, 7, 8, 9, 10, 11] rfl))
            have e9 : zU (zU n v (n v + j)) v (n v + j + 1) = zU n v (n v + (j + 1)) := by
              funext z
              unfold zU
              by_cases c : z = v
              · rw [if_pos c, if_pos c]; omega
              · rw [if_neg c, if_neg c, if_neg c]
            rw [← e9]
            exact hF9
          have lp168 : ∀ (w : Nat) (X p9 d9 y : Int), -1 ≤ X → X ≤ 14 → (1 ≤ p9 ∧ p9 ≤ 32) → ((0 ≤ X ∧ p9 = valP X ∧ d9 = valD X ∧ 2 * X + 1 < w) ∨ (X < 14 ∧ d9 = lim9 p9 ∧ (X = -1 → p9 / 2 = 0) ∧ (0 ≤ X → p9 / 2 = valP X ∧ valD X = 0) ∧ 2 * X + 2 < w)) → bsR kk X y → ∀ (bq : Nat) (J : Heap) (locs : List Loc), va_at G.1 vwCl (bq, .inl (G.2.1 0, 3, .inl (zA (bst y)))) J → (∀ q : Nat, q < H.size → J[q]? = H[q]?) → H.size ≤ bq → H.size < J.size → va_S (fun q : Nat => q = vs ∨ s.heap.size ≤ q) s.heap J locs → ∀ ls : Array Slot, lv_has ls 16 [(15, .int (zI d9)), (14, .int (zI p9)), (13, .ref bq), (12, .int (zI L)), (9, .int (zI a)), (10, .int (zI (fr + valT x))), (11, .int (zI j)), (0, .ref h), (1, .int (zI v)), (4, .int (zI nt)), (5, .int (zI st)), (6, .int (zI sg)), (7, .int (zI oc)), (8, .int (zI ti))] → W p l env (rmz 1 30 1140 17500) s m (([.ref h, .int (zI v), .int (zI (valP x)), .int (zI (valD x)), .int (zI nt), .int (zI st), .int (zI sg), .int (zI oc), .int (zI ti)] : List Value).toArray) below meth c J locs (20 * j.toNat + (15 - X).toNat) (310 * j.toNat + 3 * (15 - X).toNat) (MQ below (QW (fun q : Nat => q = vs ∨ s.heap.size ≤ q) (fun r H => r = N ∧ ∃ f1 : Nat → Nat, HP9 G h lo vs f1 bt pt ky nv (zU n v (n v + N)) B H)) (([.ref h, .int (zI v), .int (zI (valP x)), .int (zI (valD x)), .int (zI nt), .int (zI st), .int (zI sg), .int (zI oc), .int (zI ti)] : List Value).toArray) s 1140 17500 (fun q : Nat => q = vs ∨ s.heap.size ≤ q)) (F0 m 168 ls []) := by
            intro w
            induction w with
            | zero => intro X p9 d9 y X0 X1 hp9 hst; exfalso; omega
            | succ w ih9 =>
              intro X p9 d9 y X0 X1 hp9 hst hy bq J locs hbq hoJ hbl hzJ hS ls hl
              have hd9 : 0 ≤ d9 ∧ d9 ≤ 3 := by
                rcases hst with q | q
                · have := (valPD_rng (X := X) ⟨q.1, by omega⟩).2; omega
                · have e9 := q.2.1; unfold lim9 at e9; (repeat' split at e9) <;> omega
              have hlm : 1 ≤ lim9 p9 ∧ lim9 p9 ≤ 3 := by unfold lim9; (repeat' split) <;> omega
              have hsJ := hS.1
              refine lv_iload hx hb dX3_add_168 (lv_at hl 0 rfl) ?_
              refine z_lim (p9 := p9) hx hb hl dX3_add_170 dX3_add_172 dX3_add_174 dX3_add_177 dX3_add_178 dX3_add_181 dX3_add_183 dX3_add_185 dX3_add_188 dX3_add_189 dX3_add_192 1 rfl (by omega) ?_
              refine z_icmp_ge (a := d9) (b := lim9 p9) (tgt := 253) hx hb dX3_add_193 (by decide) (by omega) (by omega) (fun h193 => ?_) (fun h193 => ?_)
              · skip
                have hsec : X < 14 ∧ d9 = lim9 p9 ∧ (X = -1 → p9 / 2 = 0) ∧ (0 ≤ X → p9 / 2 = valP X ∧ valD X = 0) ∧ 2 * X + 2 < ((w + 1 : Nat) : Int) := by
                  rcases hst with q | q
                  · exfalso; have := lim_lt (X := X) ⟨q.1, by omega⟩; rw [← q.2.1, ← q.2.2.1] at this; omega
                  · exact q
                refine lv_iload hx hb dX3_add_253 (lv_at hl 1 rfl) ?_
                refine z_iconst hx hb dX3_add_255 ?_
                refine z_idiv (x := p9) (y := 2) hx hb dX3_add_256 (by omega) (by omega) ?_
                refine lv_istore (lv' := [(14, .int (zI (p9 / 2))), (15, .int (zI d9)), (13, .ref bq), (12, .int (zI L)), (9, .int (zI a)), (10, .int (zI (fr + valT x))), (11, .int (zI j)), (0, .ref h), (1, .int (zI v)), (4, .int (zI nt)), (5, .int (zI st)), (6, .int (zI sg)), (7, .int (zI oc)), (8, .int (zI ti))]) hx hb dX3_add_257 hl (by decide) rfl (fun ls hl => ?_)
                refine lv_goto (tgt := 159) hx hb dX3_add_259 (by decide) ?_
                refine lv_iload hx hb dX3_add_159 (lv_at hl 0 rfl) ?_
                refine z_iconst hx hb dX3_add_161 ?_
                refine z_icmp_lt (a := p9 / 2) (b := 1) (tgt := 262) hx hb dX3_add_162 (by decide) (by omega) (by decide) (fun h162 => ?_) (fun h162 => ?_)
                · skip
                  have hXm : X = -1 := by
                    rcases (by omega : X = -1 ∨ 0 ≤ X) with z | z
                    · exact z
                    · exfalso; have q := hsec.2.2.2.1 z; have := (valPD_rng (X := X) ⟨z, by omega⟩).1; omega
                  have hyk : y = kk := by rcases hy with q | q <;> omega
                  rw [hyk] at hbq
                  refine W.widen (k := 20 * j.toNat + 16) (n := 310 * j.toNat + 48) (by omega) (by omega) (K262 bq J locs hbq hoJ hbl hzJ hS ls (lv_sub hl [2, 3, 4, 5, 6, 7, 8, 9, 10, 11, 12, 13] rfl))
                · skip
                  have hX0 : 0 ≤ X := by
                    rcases (by omega : X = -1 ∨ 0 ≤ X) with z | z
                    · exfalso; have := hsec.2.2.1 z; omega
                    · exact z
                  have q2 := hsec.2.2.2.1 hX0
                  refine z_iconst hx hb dX3_add_165 ?_
                  refine lv_istore (lv' := [(15, .int (zI 0)), (14, .int (zI (p9 / 2))), (13, .ref bq), (12, .int (zI L)), (9, .int (zI a)), (10, .int (zI (fr + valT x))), (11, .int (zI j)), (0, .ref h), (1, .int (zI v)), (4, .int (zI nt)), (5, .int (zI st)), (6, .int (zI sg)), (7, .int (zI oc)), (8, .int (zI ti))]) hx hb dX3_add_166 hl (by decide) rfl (fun ls hl => ?_)
                  exact ih9 X (p9 / 2) 0 y X0 X1 (by omega) (Or.inl ⟨hX0, q2.1, q2.2.symm, by omega⟩) hy bq J locs hbq hoJ hbl hzJ hS ls (lv_sub hl [0, 1, 2, 3, 4, 5, 6, 7, 8, 9, 10, 11, 12, 13] rfl)
              · skip
                have hfst : 0 ≤ X ∧ p9 = valP X ∧ d9 = valD X ∧ 2 * X + 1 < ((w + 1 : Nat) : Int) := by
                  rcases hst with q | q
                  · exact q
                  · exfalso; omega
                obtain ⟨hX0, hp8, hd8, hm8⟩ := hfst
                have hX9 : 0 ≤ X ∧ X < 15 := ⟨hX0, by omega⟩
                have vX := valT_rng hX9
                have kX := hkf hX9
                clear hst hd9 hlm h193
                subst hp8
                subst hd8
                have J247 : ∀ (y : Int), bsR kk (X - 1) y → ∀ (bq : Nat) (J : Heap) (locs : List Loc), va_at G.1 vwCl (bq, .inl (G.2.1 0, 3, .inl (zA (bst y)))) J → (∀ q : Nat, q < H.size → J[q]? = H[q]?) → H.size ≤ bq → H.size < J.size → va_S (fun q : Nat => q = vs ∨ s.heap.size ≤ q) s.heap J locs → ∀ ls : Array Slot, lv_has ls 16 [(15, .int (zI (valD X))), (14, .int (zI (valP X))), (13, .ref bq), (12, .int (zI L)), (9, .int (zI a)), (10, .int (zI (fr + valT x))), (11, .int (zI j)), (0, .ref h), (1, .int (zI v)), (4, .int (zI nt)), (5, .int (zI st)), (6, .int (zI sg)), (7, .int (zI oc)), (8, .int (zI ti))] → W p l env (rmz 1 30 1140 17500) s m (([.ref h, .int (zI v), .int (zI (valP x)), .int (zI (valD x)), .int (zI nt), .int (zI st), .int (zI sg), .int (zI oc), .int (zI ti)] : List Value).toArray) below meth c J locs (20 * j.toNat + (15 - X).toNat + 1) (310 * j.toNat + 3 * (15 - X).toNat + 3) (MQ below (QW (fun q : Nat => q = vs ∨ s.heap.size ≤ q) (fun r H => r = N ∧ ∃ f1 : Nat → Nat, HP9 G h lo vs f1 bt pt ky nv (zU n v (n v + N)) B H)) (([.ref h, .int (zI v), .int (zI (valP x)), .int (zI (valD x)), .int (zI nt), .int (zI st), .int (zI sg), .int (zI oc), .int (zI ti)] : List Value).toArray) s 1140 17500 (fun q : Nat => q = vs ∨ s.heap.size ≤ q)) (F0 m 247 ls []) := by
                  intro y hy bq J locs hbq hoJ hbl hzJ hS ls hl
                  refine z_iinc (lv' := [(15, .int (zI (valD X + 1))), (14, .int (zI (valP X))), (13, .ref bq), (12, .int (zI L)), (9, .int (zI a)), (10, .int (zI (fr + valT x))), (11, .int (zI j)), (0, .ref h), (1, .int (zI v)), (4, .int (zI nt)), (5, .int (zI st)), (6, .int (zI sg)), (7, .int (zI oc)), (8, .int (zI ti))]) hx hb dX3_add_247 hl (k := 0) rfl (by decide) rfl (fun ls hl => ?_)
                  refine lv_goto (tgt := 168) hx hb dX3_add_250 (by decide) ?_
                  refine W.widen (k := 20 * j.toNat + (15 - (X - 1)).toNat) (n := 310 * j.toNat + 3 * (15 - (X - 1)).toNat) (by omega) (by omega) (ih9 (X - 1) (valP X) (valD X + 1) y (by omega) (by omega) hp9 ?_ hy bq J locs hbq hoJ hbl hzJ hS ls (lv_sub hl [0, 1, 2, 3, 4, 5, 6, 7, 8, 9, 10, 11, 12, 13] rfl))
                  rcases (by omega : X = 0 ∨ 0 < X) with z | z
                  · subst z
                    exact Or.inr ⟨by decide, by decide, fun _ => by decide, fun h => absurd h (by decide), by omega⟩
                  · rcases lim_next ⟨z, hX9.2⟩ with q | q
                    · exact Or.inl ⟨by omega, q.1.symm, q.2.symm, by omega⟩
                    · exact Or.inr ⟨by omega, q.1, fun h => by omega, fun _ => q.2, by omega⟩
                refine lv_iload hx hb dX3_add_196 (lv_at hl 1 rfl) ?_
                refine lv_iload hx hb dX3_add_198 (lv_at hl 0 rfl) ?_
                refine k_R (c_SR (As := [.int (zI (valP X)), .int (zI (valD X))]) (rest := []) ⟨hx, hb, hml, hown, hts⟩ hG hS hA (c_X3_ticks l G (valP X) (valD X) (valPD_rng hX9).1 (valPD_rng hX9).2) ⟨q_ml_RX3_36, q_st_X3_ticks, q_ini_RX3, q_code_X3_ticks⟩ hs_X3_ticks trivial ⟨Nat.le_of_ble_eq_true rfl, Nat.le_of_ble_eq_true rfl⟩ ⟨(by show 20 * j.toNat + (15 - X).toNat ≤ 1140; omega), (by show 310 * j.toNat + 3 * (15 - X).toNat ≤ 17500; omega)⟩ rfl hl.1 rfl (Nat.le_of_ble_eq_true rfl) dX3_add_200) ?_
                rw [tkH_val hX9]
                refine lv_iload hx hb dX3_add_203 (lv_at hl 3 rfl) ?_
                refine z_icmp_gt (a := valT X) (b := L) (tgt := 247) hx hb dX3_add_205 (by decide) (by omega) (by omega) (fun h205 => ?_) (fun h205 => ?_)
                · refine W.widen (k := 20 * j.toNat + (15 - X).toNat + 1) (n := 310 * j.toNat + 3 * (15 - X).toNat + 3) (by omega) (by omega) (J247 y ?_ bq J locs hbq hoJ hbl hzJ hS ls (lv_sub hl [0, 1, 2, 3, 4, 5, 6, 7, 8, 9, 10, 11, 12, 13] rfl))
                  have hkX : X < kk := Int.not_le.mp (fun z => absurd (kX.mpr z) (by omega))
                  rcases hy with q | q
                  · exfalso; omega
                  · exact Or.inr ⟨by omega, by omega⟩
                · skip
                  have hkX : kk ≤ X := kX.mp (by omega)
                  have hy2 : bst y 2 < valT X ∧ 0 ≤ bst y 2 := by
                    rcases hy with q | q
                    · rw [q.2]; unfold bst; rw [if_pos rfl]; omega
                    · have hyX : y = X + 1 := by omega
                      unfold bst
                      rw [if_neg (by omega), if_neg (by decide), if_neg (by decide), hyX]
                      have := valT_dec (k := X) (j := X + 1) hX0 (by omega) (by omega)
                      have := valT_rng (k := X + 1) ⟨by omega, by omega⟩
                      omega
                  refine lv_iload hx hb dX3_add_208 (lv_at hl 1 rfl) ?_
                  refine lv_iload hx hb dX3_add_210 (lv_at hl 0 rfl) ?_
                  refine k_R (c_SR (As := [.int (zI (valP X)), .int (zI (valD X))]) (rest := []) ⟨hx, hb, hml, hown, hts⟩ hG hS hA (c_X3_ticks l G (valP X) (valD X) (valPD_rng hX9).1 (valPD_rng hX9).2) ⟨q_ml_RX3_36, q_st_X3_ticks, q_ini_RX3, q_code_X3_ticks⟩ hs_X3_ticks trivial ⟨Nat.le_of_ble_eq_true rfl, Nat.le_of_ble_eq_true rfl⟩ ⟨(by show 20 * j.toNat + (15 - X).toNat ≤ 1140; omega), (by show 310 * j.toNat + 3 * (15 - X).toNat ≤ 17500; omega)⟩ rfl hl.1 rfl (Nat.le_of_ble_eq_true rfl) dX3_add_212) ?_
                  rw [tkH_val hX9]
                  refine lv_aload hx hb dX3_add_215 (lv_at hl 2 rfl) ?_
                  refine z_iconst hx hb dX3_add_217 ?_
                  refine z_ald (n := 3) hx hb hK hbq (i := 2) (by decide) (by decide) dX3_add_218 ?_
                  refine z_icmp_le (a := valT X) (b := bst y 2) (tgt := 247) hx hb dX3_add_219 (by decide) (by omega) (by omega) (fun h219 => absurd h219 (by omega)) (fun _ => ?_)
                  refine z_iconst hx hb dX3_add_222 ?_
                  refine z_newI hx hb hts hK hS (n := 3) (by decide) (by show 20 * j.toNat + (15 - X).toNat + 1 ≤ 1140; omega) (by show 310 * j.toNat + 3 * (15 - X).toNat + 3 ≤ 17500; omega) dX3_add_223 (fun J1 hR hz o9 hS => ?_)
                  have hR : va_at G.1 vwCl (J.size, .inl (G.2.1 0, 3, .inl (zA (fun _ => 0)))) J1 := hR
                  have ho : ∀ q : Nat, q < J.size → J1[q]? = J[q]? := o9
                  refine lv_dup hx hb dX3_add_225 rfl ?_
                  refine z_iconst hx hb dX3_add_226 ?_
                  refine lv_iload hx hb dX3_add_227 (lv_at hl 1 rfl) ?_
                  refine z_ast (n := 3) (x := valP X) hx hb hK hS (Or.inr (by omega)) hR (i := 0) (by decide) (by decide) dX3_add_229 (fun J1 locs1 hR z9 o9 hS => ?_)
                  have ho : ∀ q : Nat, q < J.size → J1[q]? = J[q]? := fun q hq => (o9 q (by omega)).trans (ho q hq)
                  have hz := z9.trans hz
                  refine lv_dup hx hb dX3_add_230 rfl ?_
                  refine z_iconst hx hb dX3_add_231 ?_
                  refine lv_iload hx hb dX3_add_232 (lv_at hl 0 rfl) ?_
                  refine z_ast (n := 3) (x := valD X) hx hb hK hS (Or.inr (by omega)) hR (i := 1) (by decide) (by decide) dX3_add_234 (fun J1 locs1 hR z9 o9 hS => ?_)
                  have ho : ∀ q : Nat, q < J.size → J1[q]? = J[q]? := fun q hq => (o9 q (by omega)).trans (ho q hq)
                  have hz := z9.trans hz
                  refine lv_dup hx hb dX3_add_235 rfl ?_
                  refine z_iconst hx hb dX3_add_236 ?_
                  refine lv_iload hx hb dX3_add_237 (lv_at hl 1 rfl) ?_
                  refine lv_iload hx hb dX3_add_239 (lv_at hl 0 rfl) ?_
                  refine k_R (c_SR (As := [.int (zI (valP X)), .int (zI (valD X))]) (rest := [.int (zI 2), .ref J.size, .ref J.size]) ⟨hx, hb, hml, hown, hts⟩ hG hS hA (c_X3_ticks l G (valP X) (valD X) (valPD_rng hX9).1 (valPD_rng hX9).2) ⟨q_ml_RX3_36, q_st_X3_ticks, q_ini_RX3, q_code_X3_ticks⟩ hs_X3_ticks trivial ⟨Nat.le_of_ble_eq_true rfl, Nat.le_of_ble_eq_true rfl⟩ ⟨(by show 20 * j.toNat + (15 - X).toNat + 1 ≤ 1140; omega), (by show 310 * j.toNat + 3 * (15 - X).toNat + 3 ≤ 17500; omega)⟩ rfl hl.1 rfl (Nat.le_of_ble_eq_true rfl) dX3_add_241) ?_
                  rw [tkH_val hX9]
                  refine z_ast (n := 3) (x := valT X) hx hb hK hS (Or.inr (by omega)) hR (i := 2) (by decide) (by decide) dX3_add_244 (fun J1 locs1 hR z9 o9 hS => ?_)
                  have ho : ∀ q : Nat, q < J.size → J1[q]? = J[q]? := fun q hq => (o9 q (by omega)).trans (ho q hq)
                  have hz := z9.trans hz
                  have hR := va_i9 hR (row3 (F := bst X) (by unfold bst; rw [if_neg (by omega), if_pos rfl]) (by unfold bst; rw [if_neg (by omega), if_neg (by decide), if_pos rfl]) (by unfold bst; rw [if_neg (by omega), if_neg (by decide), if_neg (by decide)]))
                  refine lv_astore (lv' := [(13, .ref J.size), (15, .int (zI (valD X))), (14, .int (zI (valP X))), (12, .int (zI L)), (9, .int (zI a)), (10, .int (zI (fr + valT x))), (11, .int (zI j)), (0, .ref h), (1, .int (zI v)), (4, .int (zI nt)), (5, .int (zI st)), (6, .int (zI sg)), (7, .int (zI oc)), (8, .int (zI ti))]) hx hb dX3_add_245 hl (by decide) rfl (fun ls hl => ?_)
                  exact J247 X (Or.inr ⟨by omega, by omega⟩) J.size J1 _ hR (fun q hq => (ho q (by omega)).trans (hoJ q hq)) (by omega) (by omega) hS ls (lv_sub hl [1, 2, 0, 3, 4, 5, 6, 7, 8, 9, 10, 11, 12, 13] rfl)
          refine z_bipush hx hb dX3_add_155 (by decide) ?_
          refine lv_istore (lv' := [(14, .int (zI 32)), (13, .ref H.size), (12, .int (zI L)), (9, .int (zI a)), (10, .int (zI (fr + valT x))), (11, .int (zI j)), (0, .ref h), (1, .int (zI v)), (4, .int (zI nt)), (5, .int (zI st)), (6, .int (zI sg)), (7, .int (zI oc)), (8, .int (zI ti))]) hx hb dX3_add_157 hl (by decide) rfl (fun ls hl => ?_)
          refine lv_iload hx hb dX3_add_159 (lv_at hl 0 rfl) ?_
          refine z_iconst hx hb dX3_add_161 ?_
          refine z_icmp_lt (a := 32) (b := 1) (tgt := 262) hx hb dX3_add_162 (by decide) (by decide) (by decide) (fun h => absurd h (by decide)) (fun _ => ?_)
          refine z_iconst hx hb dX3_add_165 ?_
          refine lv_istore (lv' := [(15, .int (zI 0)), (14, .int (zI 32)), (13, .ref H.size), (12, .int (zI L)), (9, .int (zI a)), (10, .int (zI (fr + valT x))), (11, .int (zI j)), (0, .ref h), (1, .int (zI v)), (4, .int (zI nt)), (5, .int (zI st)), (6, .int (zI sg)), (7, .int (zI oc)), (8, .int (zI ti))]) hx hb dX3_add_166 hl (by decide) rfl (fun ls hl => ?_)
          exact lp168 30 14 32 0 15 (by decide) (by decide) (by decide) (Or.inl ⟨by decide, by decide, by decide, by decide⟩) (Or.inl ⟨rfl, rfl⟩) H.size H0 _ hR ho (Nat.le_refl _) (by omega) hS ls (lv_sub hl [0, 1, 2, 3, 4, 5, 6, 7, 8, 9, 10, 11, 12, 13] rfl)
    have e0 : zU n v (n v + 0) = n := by
      funext z
      unfold zU
      by_cases c : z = v
      · rw [if_pos c, c]; omega
      · rw [if_neg c]
    exact lp109 (N.toNat + 1) 0 (by decide) (by omega) (by omega) f s.heap [] (by rw [e0]; exact hP) hS ls (lv_sub hl [2, 1, 0, 3, 4, 7, 8, 9, 10, 11] rfl)
  · skip
    have hone := af_one hx9 ⟨hb9.1, hb9.2.2⟩ ⟨hf.1, hf.2.1⟩ hN h36
    obtain ⟨hc1, -, -, hc4, hc5, hc6, hc7, hc8, hc9⟩ := hall 0 (by decide) (by omega)
    rw [hone.2] at hc4 hc6 hc7
    rw [show ctA b (fr + valT x) fr 0 = fr from rfl] at hc4 hc5
    rw [hc4, if_neg (by omega)] at hc9
    rw [show n v + 0 = n v by omega] at hc5 hc6 hc7 hc8 hc9
    obtain ⟨q0, q1⟩ := hP.1
    have hHV := hP.2.2.2 v.toNat (by omega)
    rw [Int.toNat_of_nonneg hv.1] at hHV
    refine lv_aload_n hx hb dX3_add_39 rfl (lv_at hl 3 rfl) ?_
    refine z_get (C := RX3) (T := TX3) (N := 4) hx hb hK hts u_in_X3 hown hP.2.1 rfl 3 (by decide) q_fl_RX3_18 (v := .ref vs) rfl dX3_add_40 ?_
    refine lv_iload_n hx hb dX3_add_43 rfl (lv_at hl 4 rfl) ?_
    refine lv_aload_n hx hb dX3_add_44 rfl (lv_at hl 3 rfl) ?_
    refine z_get (C := RX3) (T := TX3) (N := 4) hx hb hK hts u_in_X3 hown hP.2.1 rfl 3 (by decide) q_fl_RX3_18 (v := .ref vs) rfl dX3_add_45 ?_
    refine lv_iload_n hx hb dX3_add_48 rfl (lv_at hl 4 rfl) ?_
    refine z_aldr (t0 := 3) (n := nv.toNat) hx hb hK rfl rfl hP.2.2.1 (i := v) (by omega) (by omega) rfl dX3_add_49 ?_
    refine z_bipush hx hb dX3_add_50 (by decide) ?_
    refine z_newI hx hb hts hK hS (n := 9) (by decide) (by show 0 + 1 ≤ 1140; omega) (by show 0 + 9 ≤ 17500; omega) dX3_add_52 (fun J1 hR hz o9 hS => ?_)
    have hR : va_at G.1 vwCl (s.heap.size, rw9 G (fun _ => 0)) J1 := hR
    have ho : ∀ q : Nat, q < s.heap.size → J1[q]? = s.heap[q]? := o9
    refine lv_dup hx hb dX3_add_54 rfl ?_
    refine z_iconst hx hb dX3_add_55 ?_
    refine lv_iload_n hx hb dX3_add_56 rfl (lv_at hl 5 rfl) ?_
    refine z_ast (n := 9) (x := valP x) hx hb hK hS (Or.inr (by have := hS.1; omega)) hR (i := 0) (by decide) (by decide) dX3_add_57 (fun J1 locs1 hR z9 o9 hS => ?_)
    have ho : ∀ q : Nat, q < s.heap.size → J1[q]? = s.heap[q]? := fun q hq => (o9 q (by omega)).trans (ho q hq)
    have hz := z9.trans hz
    refine lv_dup hx hb dX3_add_58 rfl ?_
    refine z_iconst hx hb dX3_add_59 ?_
    refine lv_iload_n hx hb dX3_add_60 rfl (lv_at hl 6 rfl) ?_
    refine z_ast (n := 9) (x := valD x) hx hb hK hS (Or.inr (by have := hS.1; omega)) hR (i := 1) (by decide) (by decide) dX3_add_61 (fun J1 locs1 hR z9 o9 hS => ?_)
    have ho : ∀ q : Nat, q < s.heap.size → J1[q]? = s.heap[q]? := fun q hq => (o9 q (by omega)).trans (ho q hq)
    have hz := z9.trans hz
    refine lv_dup hx hb dX3_add_62 rfl ?_
    refine z_iconst hx hb dX3_add_63 ?_
    refine lv_iload hx hb dX3_add_64 (lv_at hl 7 rfl) ?_
    refine z_ast (n := 9) (x := nt) hx hb hK hS (Or.inr (by have := hS.1; omega)) hR (i := 2) (by decide) (by decide) dX3_add_66 (fun J1 locs1 hR z9 o9 hS => ?_)
    have ho : ∀ q : Nat, q < s.heap.size → J1[q]? = s.heap[q]? := fun q hq => (o9 q (by omega)).trans (ho q hq)
    have hz := z9.trans hz
    refine lv_dup hx hb dX3_add_67 rfl ?_
    refine z_iconst hx hb dX3_add_68 ?_
    refine lv_iload hx hb dX3_add_69 (lv_at hl 8 rfl) ?_
    refine z_ast (n := 9) (x := st) hx hb hK hS (Or.inr (by have := hS.1; omega)) hR (i := 3) (by decide) (by decide) dX3_add_71 (fun J1 locs1 hR z9 o9 hS => ?_)
    have ho : ∀ q : Nat, q < s.heap.size → J1[q]? = s.heap[q]? := fun q hq => (o9 q (by omega)).trans (ho q hq)
    have hz := z9.trans hz
    refine lv_dup hx hb dX3_add_72 rfl ?_
    refine z_iconst hx hb dX3_add_73 ?_
    refine lv_iload hx hb dX3_add_74 (lv_at hl 9 rfl) ?_
    refine z_ast (n := 9) (x := sg) hx hb hK hS (Or.inr (by have := hS.1; omega)) hR (i := 4) (by decide) (by decide) dX3_add_76 (fun J1 locs1 hR z9 o9 hS => ?_)
    have ho : ∀ q : Nat, q < s.heap.size → J1[q]? = s.heap[q]? := fun q hq => (o9 q (by omega)).trans (ho q hq)
    have hz := z9.trans hz
    refine lv_dup hx hb dX3_add_77 rfl ?_
    refine z_iconst hx hb dX3_add_78 ?_
    refine lv_iload hx hb dX3_add_79 (lv_at hl 10 rfl) ?_
    refine z_ast (n := 9) (x := oc) hx hb hK hS (Or.inr (by have := hS.1; omega)) hR (i := 5) (by decide) (by decide) dX3_add_81 (fun J1 locs1 hR z9 o9 hS => ?_)
    have ho : ∀ q : Nat, q < s.heap.size → J1[q]? = s.heap[q]? := fun q hq => (o9 q (by omega)).trans (ho q hq)
    have hz := z9.trans hz
    refine lv_dup hx hb dX3_add_82 rfl ?_
    refine z_bipush hx hb dX3_add_83 (by decide) ?_
    refine lv_iload hx hb dX3_add_85 (lv_at hl 11 rfl) ?_
    refine z_ast (n := 9) (x := ti) hx hb hK hS (Or.inr (by have := hS.1; omega)) hR (i := 6) (by decide) (by decide) dX3_add_87 (fun J1 locs1 hR z9 o9 hS => ?_)
    have ho : ∀ q : Nat, q < s.heap.size → J1[q]? = s.heap[q]? := fun q hq => (o9 q (by omega)).trans (ho q hq)
    have hz := z9.trans hz
    refine lv_dup hx hb dX3_add_88 rfl ?_
    refine z_bipush hx hb dX3_add_89 (by decide) ?_
    refine lv_iload hx hb dX3_add_91 (lv_at hl 2 rfl) ?_
    refine z_ast (n := 9) (x := fr) hx hb hK hS (Or.inr (by have := hS.1; omega)) hR (i := 7) (by decide) (by decide) dX3_add_93 (fun J1 locs1 hR z9 o9 hS => ?_)
    have ho : ∀ q : Nat, q < s.heap.size → J1[q]? = s.heap[q]? := fun q hq => (o9 q (by omega)).trans (ho q hq)
    have hz := z9.trans hz
    refine lv_dup hx hb dX3_add_94 rfl ?_
    refine z_bipush hx hb dX3_add_95 (by decide) ?_
    refine lv_iload hx hb dX3_add_97 (lv_at hl 1 rfl) ?_
    refine lv_iload hx hb dX3_add_99 (lv_at hl 2 rfl) ?_
    refine z_isub (x := fr + valT x) (y := fr) hx hb dX3_add_101 ?_
    refine z_ast (n := 9) (x := fr + valT x - fr) hx hb hK hS (Or.inr (by have := hS.1; omega)) hR (i := 8) (by decide) (by decide) dX3_add_102 (fun J1 locs1 hR z9 o9 hS => ?_)
    have ho : ∀ q : Nat, q < s.heap.size → J1[q]? = s.heap[q]? := fun q hq => (o9 q (by omega)).trans (ho q hq)
    have hz := z9.trans hz
    have hR := va_i9 hR (row9 (F := hD B v ((n v).toNat : Int)) (by rw [Int.toNat_of_nonneg hn0]; exact hc7.1) (by rw [Int.toNat_of_nonneg hn0]; exact hc7.2) (by rw [Int.toNat_of_nonneg hn0]; exact (hc8 2 (by decide) (by decide)).trans hs.2.2.1) (by rw [Int.toNat_of_nonneg hn0]; exact (hc8 3 (by decide) (by decide)).trans hs.2.2.2.1) (by rw [Int.toNat_of_nonneg hn0]; exact (hc8 4 (by decide) (by decide)).trans hs.2.2.2.2.1) (by rw [Int.toNat_of_nonneg hn0]; exact (hc8 5 (by decide) (by decide)).trans hs.2.2.2.2.2.1) (by rw [Int.toNat_of_nonneg hn0]; exact hc9.trans hs.2.2.2.2.2.2) (by rw [Int.toNat_of_nonneg hn0]; exact hc5) (by rw [Int.toNat_of_nonneg hn0]; show mTk B v (n v) = fr + valT x - fr; rw [hc6]; omega))
    obtain ⟨g1, e1, e2, e3⟩ := hHV
    have hHV : HV G lo (f v.toNat) vs (n v).toNat (fun e => hD B v e) s.heap := ⟨g1, e1, e2, e3⟩
    have hzl := hS.1
    refine k_Wa (c_SW (As := [.ref (f v.toNat), .ref s.heap.size]) (rest := [.int (zI v), .ref vs]) ⟨hx, hb, hml, hown, hts⟩ hG hS hA (c_X3_more l G lo (f v.toNat) vs (n v).toNat s.heap.size J1.size (fun e => hD B v e) (hD B v ((n v).toNat : Int)) (by omega) (by omega) (by omega)) ⟨q_ml_RX3_44, q_st_X3_more, q_ini_RX3, q_code_X3_more⟩ hs_X3_more ⟨hHV.kept (fun q h1 _ _ => ho q h1), ⟨by omega, by omega⟩, hR⟩ ⟨Nat.le_of_ble_eq_true rfl, Nat.le_of_ble_eq_true rfl⟩ ⟨(by show 0 + 1 + 1 ≤ 1140; omega), (by show 0 + 9 + 250 ≤ 17500; omega)⟩ rfl hl.1 rfl (Nat.le_of_ble_eq_true rfl) dX3_add_103) hS (fun q hq => Or.inr (by have hq : J1.size ≤ q := hq; omega)) (fun r H2 locs2 hq hz2 hk2 hS => ?_)
    obtain ⟨hr9, hHV2⟩ := hq
    subst hr9
    have hHV2 := hHV2.congr (C' := fun e => hD B v e) (fun e he => by
      show (if e = (n v).toNat then hD B v ((n v).toNat : Int) else hD B v e) = hD B v e
      by_cases c : e = (n v).toNat
      · rw [if_pos c, c]
      · rw [if_neg c])
    have ho2 : ∀ q : Nat, q < s.heap.size → H2[q]? = s.heap[q]? := fun q hq => (hk2 q (by omega) (by omega)).trans (ho q hq)
    obtain ⟨g2, c1, c2, c3⟩ := hHV2
    have hHV2 : HV G lo J1.size vs ((n v).toNat + 1) (fun e => hD B v e) H2 := ⟨g2, c1, c2, c3⟩
    refine z_aastA (t0 := 3) (t1 := 1) (t := .array .int) hx hb hK hov (hK.2 3 _ rfl).2 (hK.2 1 _ rfl).2 hS (Or.inl rfl) rfl (hP.2.2.1.kept (ho2 _ hP.2.2.1.lt)) c2 (i := v) (by omega) (by omega) dX3_add_106 (fun H3 locs3 hVs3 z3 o3 hS => ?_)
    have hF9 := hP.put (m := n v + 1) (a := J1.size) hv (fun z h1 h2 => (o3 z h2).trans (ho2 z h1)) hVs3 (by rw [show (n v + 1).toNat = (n v).toNat + 1 by omega]; exact hHV2.kept (fun q _ _ h3 => o3 q h3))
    refine z_iconst hx hb dX3_add_107 ?_
    have hF8 : HP9 G h lo vs (fun z => if z = v.toNat then J1.size else f z) bt pt ky nv (zU n v (n v + N)) B H3 := by
      have e9 : n v + N = n v + 1 := by omega
      rw [e9]; exact hF9
    exact e_Wi (r := 1) hx hb hr hlk (n_i _) hS (Nat.le_of_ble_eq_true rfl) (Nat.le_of_ble_eq_true rfl) ⟨hone.1.symm, _, hF8⟩ dX3_add_108
