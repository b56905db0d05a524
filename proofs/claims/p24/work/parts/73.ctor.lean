theorem c94 {G : zG} {a sz : Nat} {H : Heap} (haz : a < sz) (hT : va_at G.1 vwCl (a, .inr (2, sF (adS a sz) gs0)) H) (gV : va_at G.1 vwCl (sz, .inl (G.2.1 2, 4, .inr (.inr (.inr (.inr (fun j => if (j : Int) < 4 then some (sz + 9 + 21 * j) else none)))))) H) (gN : va_at G.1 vwCl (sz + 1, .inr (0, [.ref (sz + 2 + 0), .ref (sz + 2 + 5)])) H) (gO : va_at G.1 vwCl (sz + 2 + 0, .inl (G.2.1 1, 4, .inr (.inr (.inr (.inr (fun j => some (sz + 2 + 0 + 1 + j))))))) H) (gR : ∀ j, j < 4 → va_at G.1 vwCl (sz + 2 + 0 + 1 + j, .inl (G.2.1 0, 1600, .inl (zA (fun _ => 0)))) H) (gD : va_at G.1 vwCl (sz + 2 + 5, .inl (G.2.1 0, 4, .inl (zA (fun _ => 0)))) H) (gP : va_at G.1 vwCl (sz + 8, .inl (G.2.1 0, 56, .inl (zA (fun _ => 0)))) H) (gU : ∀ u : Nat, (u : Int) < 4 → VP G (adI (sz + 9 + 21 * u) (sz + 10 + 21 * u)) f0 f0 f0 f0 fv1 H) : ∀ k, k < 94 → va_at G.1 vwCl (adS a sz k, cE G (adS a sz) gs0 f0 f0 (fun _ => f0) (fun _ => f0) (fun _ => f0) (fun _ => f0) (fun _ => fv1) k) H := by
  intro k hk
  rcases (by omega : k = 0 ∨ k = 1 ∨ k = 2 ∨ k = 3 ∨ k = 4 ∨ (5 ≤ k ∧ k < 9) ∨ k = 9 ∨ 10 ≤ k) with h | h | h | h | h | h | h | h
  · subst h; exact hT
  · subst h
    show H[sz]? = some (vp_cell (G.2.1 2) (4, .inr (.inr (.inr (.inr (fun j => some (adS a sz (10 + 21 * j))))))))
    have gV : H[sz]? = some (vp_cell (G.2.1 2) (4, .inr (.inr (.inr (.inr (fun j => if (j : Int) < 4 then some (sz + 9 + 21 * j) else none)))))) := gV
    rw [gV, vp_cell_q, vp_cell_q]
    refine congrArg some (arrV_congr fun j hj => ?_)
    rw [if_pos (by omega)]
    unfold adS
    rw [if_neg (by omega), if_neg (by omega), if_neg (by omega), if_neg (by omega), if_neg (by omega), if_neg (by omega), show sz + (10 + 21 * j) - 1 = sz + 9 + 21 * j by omega]
  · subst h; exact gN
  · subst h
    show va_at G.1 vwCl (sz + 2, .inl (G.2.1 1, 4, .inr (.inr (.inr (.inr (fun j => some (adS a sz (5 + j)))))))) H
    show H[sz + 2]? = some (vp_cell (G.2.1 1) (4, .inr (.inr (.inr (.inr (fun j => some (adS a sz (5 + j))))))))
    have gO : H[sz + 2]? = some (vp_cell (G.2.1 1) (4, .inr (.inr (.inr (.inr (fun j => some (sz + 2 + 0 + 1 + j))))))) := gO
    rw [gO, vp_cell_q, vp_cell_q]
    refine congrArg some (arrV_congr fun j hj => ?_)
    unfold adS
    rw [if_neg (by omega), if_neg (by omega), if_neg (by omega), if_neg (by omega), if_neg (by omega), if_pos (by omega), show sz + (5 + j) - 2 = sz + 2 + 0 + 1 + j by omega]
  · subst h; exact gD
  · obtain ⟨j, rfl⟩ : ∃ j, k = 5 + j := ⟨k - 5, by omega⟩
    have hj : j < 4 := by omega
    have e1 : adS a sz (5 + j) = sz + 2 + 0 + 1 + j := by
      unfold adS
      rw [if_neg (by omega), if_neg (by omega), if_neg (by omega), if_neg (by omega), if_neg (by omega), if_pos (by omega)]
      omega
    have e2 : cE G (adS a sz) gs0 f0 f0 (fun _ => f0) (fun _ => f0) (fun _ => f0) (fun _ => f0) (fun _ => fv1) (5 + j) = .inl (G.2.1 0, 1600, .inl (zA (fun _ => 0))) := by
      unfold cE
      rw [if_neg (by omega), if_neg (by omega), if_neg (by omega), if_neg (by omega), if_neg (by omega), if_pos (by omega)]
      rfl
    rw [e1, e2]; exact gR j hj
  · subst h; exact gP
  · obtain ⟨u, j, hu, hj, rfl⟩ : ∃ u j, u < 4 ∧ j < 21 ∧ k = 10 + 21 * u + j := ⟨(k - 10) / 21, (k - 10) % 21, by omega, by omega, by omega⟩
    have q := (gU u (by omega)).2 j hj
    have ef : vad (adS a sz) (u : Int) = adI (sz + 9 + 21 * u) (sz + 10 + 21 * u) := funext fun i => by
      show adS a sz (10 + 21 * ((u : Int)).toNat + i) = _
      rw [Int.toNat_natCast]
      unfold adS adI
      rw [if_neg (by omega), if_neg (by omega), if_neg (by omega), if_neg (by omega), if_neg (by omega), if_neg (by omega)]
      by_cases c : i = 0
      · rw [if_pos c, c]; omega
      · rw [if_neg c]; omega
    have e1 : adS a sz (10 + 21 * u + j) = adI (sz + 9 + 21 * u) (sz + 10 + 21 * u) j := by
      rw [← ef]
      show _ = adS a sz (10 + 21 * ((u : Int)).toNat + j)
      rw [Int.toNat_natCast]
    have e2 : cE G (adS a sz) gs0 f0 f0 (fun _ => f0) (fun _ => f0) (fun _ => f0) (fun _ => f0) (fun _ => fv1) (10 + 21 * u + j) = vE G (adI (sz + 9 + 21 * u) (sz + 10 + 21 * u)) f0 f0 f0 f0 fv1 j := by
      unfold cE
      rw [if_neg (by omega), if_neg (by omega), if_neg (by omega), if_neg (by omega), if_neg (by omega), if_neg (by omega), if_neg (by omega), show (10 + 21 * u + j - 10) / 21 = u by omega, show (10 + 21 * u + j - 10) % 21 = j by omega, ef]
    rw [e1, e2]
    exact q
set_option maxHeartbeats 4000000 in
theorem c_X2_init (l : Launch) (G : zG) (a sz : Nat) (ha : G.2.2 ≤ a) : CI l yX2_init cX2_init 2 2 60 93 19087 G a (AI a sz) sz (fun H => va_at G.1 vwCl (a, .inr (2, [.null, .null, .null, .int 0, .int 0, .int 0, .int 0, .int 0])) H) (fun H => CP G (adS a sz) gs0 f0 f0 (fun _ => f0) (fun _ => f0) (fun _ => f0) (fun _ => f0) (fun _ => fv1) H ∧ H.size = sz + 93) := by
  refine ci_of hp_X2_init (Nat.le_of_ble_eq_true rfl) rfl ?_
  intro p env s m below meth c ls hB hin2 hov hsz hT hl
  obtain ⟨hx, hb, hml, hr, hlk, hown, hts, hG⟩ := hB
  have hK := hG.1
  have hz : s.heap.size = sz := hsz
  have haz : a < sz := by rw [← hsz]; exact hT.lt
  have hgz : G.2.2 ≤ sz := by rw [← hsz]; exact hG.2.1
  have hS : va_S (AI a sz) s.heap s.heap [] := va_S.rf
  have hA : ∀ q : Nat, AI a sz q → G.2.2 ≤ q := fun q h => h.elim (fun e => e ▸ ha) (fun h => Nat.le_trans hgz h)
  refine lv_aload_n hx hb dX2_init_0 rfl (lv_at hl 0 rfl) ?_
  refine z_obj hx hb hts hown q_o_RX2 q_o_im q_o_code (hl.1.trans hml.symm) ⟨by decide, by decide⟩ dX2_init_1 ?_
  refine lv_aload_n hx hb dX2_init_4 rfl (lv_at hl 0 rfl) ?_
  refine z_iconst hx hb dX2_init_5 ?_
  refine z_anew hx hb hts hov hown q_cl_RX2_9 hK hS (n := 4) (by decide) (by show 0 + 1 ≤ _; exact Nat.le_of_ble_eq_true rfl) (by show 0 + 4 ≤ _; exact Nat.le_of_ble_eq_true rfl) dX2_init_6 (fun H2 gV hz2 ho hS => ?_)
  rw [hz] at gV hz2 ⊢
  have hT := hT.push ho
  have hz : H2.size = sz + 1 := hz2
  refine z_putF (C := RX2) (T := TX2) (N := 8) (v := .ref sz) hx hb hK hts u_in_X2 tyX2 tyX2_ok nmX2 hown hS (Or.inl rfl) hT rfl 0 (by decide) q_fl_RX2_11 rfl hin2 rfl rfl rfl (by show 0 < 8; decide) dX2_init_9 (fun H2 locs hT hz2 ho hS => ?_)
  have gV := gV.kept (ho _ (by show sz ≠ a; omega))
  have hz := hz2.trans hz
  refine lv_aload_n hx hb dX2_init_12 rfl (lv_at hl 0 rfl) ?_
  refine z_new (C := RX0) (T := TX0) (N := 2) (ci := 0) (fs := [.null, .null]) hx hb hts u_in_X0 tyX0 tyX0_ok hown q_cl_RX2_15 q_inst_RX0 q_ini_RX0 hK hS rfl (by decide +kernel) (by show 0 + 1 + 1 ≤ _; exact Nat.le_of_ble_eq_true rfl) (by show 0 + 4 + 2 ≤ _; exact Nat.le_of_ble_eq_true rfl) dX2_init_13 (fun H1 gN hz2 ho hS => ?_)
  rw [hz] at gN hz2 ⊢
  have hT := hT.push ho
  have gV := gV.push ho
  have hz : H1.size = sz + 2 := hz2
  refine lv_dup hx hb dX2_init_16 rfl ?_
  refine k_Wv (c_IN (own := RX2) (host := RX2) ⟨hx, hb, hml, hown, hts⟩ hG hov hS hA (c_X0_init l G (sz + 1) H1.size (by omega)) ⟨by decide, q_im_X0_init, q_ini_RX0, q_code_X0_init⟩ rfl hs_X0_init gN ⟨Nat.le_of_ble_eq_true rfl, Nat.le_of_ble_eq_true rfl⟩ ⟨Nat.le_of_ble_eq_true rfl, Nat.le_of_ble_eq_true rfl⟩ hl.1 (Nat.le_of_ble_eq_true rfl) dX2_init_17) hS (fun q h => h.elim (fun e => Or.inr (by omega)) (fun h => Or.inr (by omega))) (fun H2 locs hq hz1 hk1 hS => ?_)
  have ho : ∀ q : Nat, q < sz + 1 → H2[q]? = H1[q]? := fun q hq => hk1 q (by omega) (fun h => h.elim (fun e => by omega) (fun h => by omega))
  obtain ⟨gN, gO, gR, gD, hz2⟩ := hq
  rw [hz] at gN gO gR gD hz2
  have hT := va_at.kept hT (ho _ (by show a < sz + 1; omega))
  have gV := va_at.kept gV (ho _ (by show sz < sz + 1; omega))
  have hz : H2.size = sz + 8 := hz2
  refine z_putF (C := RX2) (T := TX2) (N := 8) (v := .ref (sz + 1)) hx hb hK hts u_in_X2 tyX2 tyX2_ok nmX2 hown hS (Or.inl rfl) hT rfl 1 (by decide) q_fl_RX2_18 rfl hin2 rfl rfl rfl (by show 1 < 8; decide) dX2_init_20 (fun H2 locs hT hz2 ho hS => ?_)
  have gV := gV.kept (ho _ (by show sz ≠ a; omega))
  have gN := gN.kept (ho _ (by show sz + 1 ≠ a; omega))
  have gO := gO.kept (ho _ (by show sz + 2 + 0 ≠ a; omega))
  have gR := fun j hj => (gR j hj).kept (ho _ (by show sz + 2 + 0 + 1 + j ≠ a; omega))
  have gD := gD.kept (ho _ (by show sz + 2 + 5 ≠ a; omega))
  have hz := hz2.trans hz
  refine lv_aload_n hx hb dX2_init_23 rfl (lv_at hl 0 rfl) ?_
  refine z_bipush hx hb dX2_init_24 (by decide) ?_
  refine z_newI hx hb hts hK hS (n := 56) (by decide) (Nat.le_of_ble_eq_true rfl) (Nat.le_of_ble_eq_true rfl) dX2_init_26 (fun H2 gP hz2 ho hS => ?_)
  rw [hz] at gP hz2 ⊢
  have hT := hT.push ho
  have gV := gV.push ho
  have gN := gN.push ho
  have gO := gO.push ho
  have gR := fun j hj => (gR j hj).push ho
  have gD := gD.push ho
  have hz : H2.size = sz + 9 := hz2
  refine z_putF (C := RX2) (T := TX2) (N := 8) (v := .ref (sz + 8)) hx hb hK hts u_in_X2 tyX2 tyX2_ok nmX2 hown hS (Or.inl rfl) hT rfl 2 (by decide) q_fl_RX2_22 rfl hin2 rfl rfl rfl (by show 2 < 8; decide) dX2_init_28 (fun H2 locs hT hz2 ho hS => ?_)
  have gV := gV.kept (ho _ (by show sz ≠ a; omega))
  have gN := gN.kept (ho _ (by show sz + 1 ≠ a; omega))
  have gO := gO.kept (ho _ (by show sz + 2 + 0 ≠ a; omega))
  have gR := fun j hj => (gR j hj).kept (ho _ (by show sz + 2 + 0 + 1 + j ≠ a; omega))
  have gD := gD.kept (ho _ (by show sz + 2 + 5 ≠ a; omega))
  have gP := gP.kept (ho _ (by show sz + 8 ≠ a; omega))
  have hz := hz2.trans hz
  refine lv_aload_n hx hb dX2_init_31 rfl (lv_at hl 0 rfl) ?_
  refine z_iconst hx hb dX2_init_32 ?_
  refine z_put (C := RX2) (T := TX2) (N := 8) (v := .int (zI 0)) hx hb hK hts u_in_X2 tyX2 tyX2_ok nmX2 hown hS (Or.inl rfl) hT rfl 3 (by decide) q_fl_RX2_26 rfl rfl rfl (by show 3 < 8; decide) dX2_init_33 (fun H2 locs hT hz2 ho hS => ?_)
  have gV := gV.kept (ho _ (by show sz ≠ a; omega))
  have gN := gN.kept (ho _ (by show sz + 1 ≠ a; omega))
  have gO := gO.kept (ho _ (by show sz + 2 + 0 ≠ a; omega))
  have gR := fun j hj => (gR j hj).kept (ho _ (by show sz + 2 + 0 + 1 + j ≠ a; omega))
  have gD := gD.kept (ho _ (by show sz + 2 + 5 ≠ a; omega))
  have gP := gP.kept (ho _ (by show sz + 8 ≠ a; omega))
  have hz := hz2.trans hz
  refine lv_aload_n hx hb dX2_init_36 rfl (lv_at hl 0 rfl) ?_
  refine z_bipush hx hb dX2_init_37 (by decide) ?_
  refine z_put (C := RX2) (T := TX2) (N := 8) (v := .int (zI 96)) hx hb hK hts u_in_X2 tyX2 tyX2_ok nmX2 hown hS (Or.inl rfl) hT rfl 4 (by decide) q_fl_RX2_30 rfl rfl rfl (by show 4 < 8; decide) dX2_init_39 (fun H2 locs hT hz2 ho hS => ?_)
  have gV := gV.kept (ho _ (by show sz ≠ a; omega))
  have gN := gN.kept (ho _ (by show sz + 1 ≠ a; omega))
  have gO := gO.kept (ho _ (by show sz + 2 + 0 ≠ a; omega))
  have gR := fun j hj => (gR j hj).kept (ho _ (by show sz + 2 + 0 + 1 + j ≠ a; omega))
  have gD := gD.kept (ho _ (by show sz + 2 + 5 ≠ a; omega))
  have gP := gP.kept (ho _ (by show sz + 8 ≠ a; omega))
  have hz := hz2.trans hz
  refine lv_aload_n hx hb dX2_init_42 rfl (lv_at hl 0 rfl) ?_
  refine z_sipush hx hb dX2_init_43 (by decide) ?_
  refine z_put (C := RX2) (T := TX2) (N := 8) (v := .int (zI 384)) hx hb hK hts u_in_X2 tyX2 tyX2_ok nmX2 hown hS (Or.inl rfl) hT rfl 5 (by decide) q_fl_RX2_33 rfl rfl rfl (by show 5 < 8; decide) dX2_init_46 (fun H2 locs hT hz2 ho hS => ?_)
  have gV := gV.kept (ho _ (by show sz ≠ a; omega))
  have gN := gN.kept (ho _ (by show sz + 1 ≠ a; omega))
  have gO := gO.kept (ho _ (by show sz + 2 + 0 ≠ a; omega))
  have gR := fun j hj => (gR j hj).kept (ho _ (by show sz + 2 + 0 + 1 + j ≠ a; omega))
  have gD := gD.kept (ho _ (by show sz + 2 + 5 ≠ a; omega))
  have gP := gP.kept (ho _ (by show sz + 8 ≠ a; omega))
  have hz := hz2.trans hz
  refine lv_aload_n hx hb dX2_init_49 rfl (lv_at hl 0 rfl) ?_
  refine z_iconst hx hb dX2_init_50 ?_
  refine z_put (C := RX2) (T := TX2) (N := 8) (v := .int (zI 0)) hx hb hK hts u_in_X2 tyX2 tyX2_ok nmX2 hown hS (Or.inl rfl) hT rfl 6 (by decide) q_fl_RX2_36 rfl rfl rfl (by show 6 < 8; decide) dX2_init_51 (fun H2 locs hT hz2 ho hS => ?_)
  have gV := gV.kept (ho _ (by show sz ≠ a; omega))
  have gN := gN.kept (ho _ (by show sz + 1 ≠ a; omega))
  have gO := gO.kept (ho _ (by show sz + 2 + 0 ≠ a; omega))
  have gR := fun j hj => (gR j hj).kept (ho _ (by show sz + 2 + 0 + 1 + j ≠ a; omega))
  have gD := gD.kept (ho _ (by show sz + 2 + 5 ≠ a; omega))
  have gP := gP.kept (ho _ (by show sz + 8 ≠ a; omega))
  have hz := hz2.trans hz
  refine lv_aload_n hx hb dX2_init_54 rfl (lv_at hl 0 rfl) ?_
  refine z_iconst hx hb dX2_init_55 ?_
  refine z_put (C := RX2) (T := TX2) (N := 8) (v := .int (zI 0)) hx hb hK hts u_in_X2 tyX2 tyX2_ok nmX2 hown hS (Or.inl rfl) hT rfl 7 (by decide) q_fl_RX2_39 rfl rfl rfl (by show 7 < 8; decide) dX2_init_56 (fun H2 locs hT hz2 ho hS => ?_)
  have gV := gV.kept (ho _ (by show sz ≠ a; omega))
  have gN := gN.kept (ho _ (by show sz + 1 ≠ a; omega))
  have gO := gO.kept (ho _ (by show sz + 2 + 0 ≠ a; omega))
  have gR := fun j hj => (gR j hj).kept (ho _ (by show sz + 2 + 0 + 1 + j ≠ a; omega))
  have gD := gD.kept (ho _ (by show sz + 2 + 5 ≠ a; omega))
  have gP := gP.kept (ho _ (by show sz + 8 ≠ a; omega))
  have hz := hz2.trans hz
  refine z_iconst hx hb dX2_init_59 ?_
  refine lv_istore_n (lv' := [(1, .int (zI 0)), (0, .ref a)]) hx hb dX2_init_60 rfl hl (by decide) rfl (fun ls hl => ?_)
  have hT : va_at G.1 vwCl (a, .inr (2, sF (adS a sz) gs0)) H2 := hT
  have lp : ∀ (n : Nat) (v : Int), 0 ≤ v → v ≤ 4 → 4 - v < n → ∀ (H : Heap) (locs : List Loc) (cells slots : Nat), cells + 21 * (4 - v.toNat) ≤ 93 → slots + 3153 * (4 - v.toNat) ≤ 19087 → va_at G.1 vwCl (a, .inr (2, sF (adS a sz) gs0)) H → va_at G.1 vwCl (sz, .inl (G.2.1 2, 4, .inr (.inr (.inr (.inr (fun j => if (j : Int) < v then some (sz + 9 + 21 * j) else none)))))) H → va_at G.1 vwCl (sz + 1, .inr (0, [.ref (sz + 2 + 0), .ref (sz + 2 + 5)])) H → va_at G.1 vwCl (sz + 2 + 0, .inl (G.2.1 1, 4, .inr (.inr (.inr (.inr (fun j => some (sz + 2 + 0 + 1 + j))))))) H → (∀ j, j < 4 → va_at G.1 vwCl (sz + 2 + 0 + 1 + j, .inl (G.2.1 0, 1600, .inl (zA (fun _ => 0)))) H) → va_at G.1 vwCl (sz + 2 + 5, .inl (G.2.1 0, 4, .inl (zA (fun _ => 0)))) H → va_at G.1 vwCl (sz + 8, .inl (G.2.1 0, 56, .inl (zA (fun _ => 0)))) H → (∀ u : Nat, (u : Int) < v → VP G (adI (sz + 9 + 21 * u) (sz + 10 + 21 * u)) f0 f0 f0 f0 fv1 H) → H.size = sz + 9 + 21 * v.toNat → va_S (AI a sz) s.heap H locs → ∀ (ls : Array Slot), lv_has ls 2 [(1, .int (zI v)), (0, .ref a)] → W p l env (rmz 2 60 93 19087) s m (([.ref a] : List Value).toArray) below meth c H locs cells slots (MQ below (QV (AI a sz) (fun H => CP G (adS a sz) gs0 f0 f0 (fun _ => f0) (fun _ => f0) (fun _ => f0) (fun _ => f0) (fun _ => fv1) H ∧ H.size = sz + 93)) ([.ref a] : List Value).toArray s 93 19087 (AI a sz)) (F0 m 61 ls []) := by
    intro n
    induction n with
    | zero => intro v v0 v4 vm; exact absurd vm (by omega)
    | succ n ih =>
      intro v v0 v4 vm H locs cells slots hce hsl hT gV gN gO gR gD gP gU hz hS ls hl
      refine lv_iload_n hx hb dX2_init_61 rfl (lv_at hl 0 rfl) ?_
      refine z_iconst hx hb dX2_init_62 ?_
      refine z_icmp_ge (a := v) (b := 4) (tgt := 85) hx hb dX2_init_63 (by decide) (by omega) (by omega) (fun h9 => ?_) (fun h9 => ?_)
      · have hv : v = 4 := by omega
        subst hv
        refine e_Wv hx hb hr hlk hS (by omega) (by omega) ?_ dX2_init_85
        have hz : H.size = sz + 93 := hz
        refine ⟨⟨⟨adS_in (N := 94) haz, fun k _ => adS_lo ha hgz k⟩, fun k hk => ?_⟩, hz⟩
        exact c94 haz hT gV gN gO gR gD gP gU k hk
      · have tn : ((v.toNat : Nat) : Int) = v := Int.toNat_of_nonneg v0
        have t1 : (v + 1).toNat = v.toNat + 1 := by omega
        refine lv_aload_n hx hb dX2_init_66 rfl (lv_at hl 1 rfl) ?_
        refine z_get (C := RX2) (T := TX2) (N := 8) hx hb hK hts u_in_X2 hown hT rfl 0 (by decide) q_fl_RX2_11 (v := .ref (adS a sz 1)) rfl dX2_init_67 ?_
        refine lv_iload_n hx hb dX2_init_70 rfl (lv_at hl 0 rfl) ?_
        refine z_new (C := RX1) (T := TX1) (N := 12) (ci := 1) (fs := [.null, .null, .null, .null, .null, .int 0, .int 0, .int 0, .int 0, .int 0, .int 0, .int 0]) hx hb hts u_in_X1 tyX1 tyX1_ok hown q_cl_RX2_9 q_inst_RX1 q_ini_RX1 hK hS rfl (by decide +kernel) (by show cells + 1 ≤ 93; omega) (by show slots + 12 ≤ 19087; omega) dX2_init_71 (fun H1 gX hz2 ho hS => ?_)
        refine lv_dup hx hb dX2_init_74 rfl ?_
        refine k_Wv (c_IN (own := RX2) (host := RX2) (rest := [.ref H.size, .int (zI v), .ref (adS a sz 1)]) ⟨hx, hb, hml, hown, hts⟩ hG hov hS hA (c_X1_init l G H.size H1.size (by omega)) ⟨by decide, q_im_X1_init, q_ini_RX1, q_code_X1_init⟩ rfl hs_X1_init gX ⟨Nat.le_of_ble_eq_true rfl, Nat.le_of_ble_eq_true rfl⟩ ⟨(by show cells + 1 + 20 ≤ 93; omega), (by show slots + 12 + 3141 ≤ 19087; omega)⟩ hl.1 (Nat.le_of_ble_eq_true rfl) dX2_init_75) hS (fun q h => h.elim (fun e => Or.inr (by omega)) (fun h => Or.inr (by omega))) (fun H2 locs hq hz1 hk1 hS => ?_)
        obtain ⟨gX, hz3⟩ := hq
        have ho2 : ∀ q : Nat, q < H.size → H2[q]? = H[q]? := fun q hq => (hk1 q (by omega) (fun h => h.elim (fun e => by omega) (fun h => by omega))).trans (ho q hq)
        have ho := ho2
        have hT := hT.push ho
        have gV := gV.push ho
        have gN := gN.push ho
        have gO := gO.push ho
        have gR := fun j hj => (gR j hj).push ho
        have gD := gD.push ho
        have gP := gP.push ho
        have gU := fun u hu => PP.kept (gU u hu) (fun k hk => ho _ ((gU u hu).lt hk))
        refine z_aast hx hb hK hS (a := sz) (v := H.size) (n := 4) (Or.inr (Nat.le_refl _)) gV (gX.2 0 (by decide)) (i := v) ⟨v0, by omega⟩ (by decide) dX2_init_78 (fun H3 locs gV hz4 ho hS => ?_)
        have hT := hT.kept (ho _ (by show a ≠ sz; omega))
        have gN := gN.kept (ho _ (by show sz + 1 ≠ sz; omega))
        have gO := gO.kept (ho _ (by show sz + 2 + 0 ≠ sz; omega))
        have gR := fun j hj => (gR j hj).kept (ho _ (by show sz + 2 + 0 + 1 + j ≠ sz; omega))
        have gD := gD.kept (ho _ (by show sz + 2 + 5 ≠ sz; omega))
        have gP := gP.kept (ho _ (by show sz + 8 ≠ sz; omega))
        have gU := fun u hu => PP.kept (gU u hu) (fun k hk => ho _ (by show adI _ _ k ≠ sz; unfold adI; split <;> omega))
        have gX := PP.kept gX (fun k hk => ho _ (by show adI _ _ k ≠ sz; unfold adI; split <;> omega))
        refine z_iinc (lv' := [(1, .int (zI (v + 1))), (0, .ref a)]) hx hb dX2_init_79 hl (k := 0) rfl (by decide) rfl (fun ls hl => ?_)
        refine lv_goto (tgt := 61) hx hb dX2_init_82 (by decide) ?_
        refine ih (v + 1) (by omega) (by omega) (by omega) H3 _ _ _ (by omega) (by omega) hT ?_ gN gO gR gD gP (fun u hu => ?_) (by omega) hS ls hl
        · have e : (fun j => if j = v.toNat then some H.size else if (j : Int) < v then some (sz + 9 + 21 * j) else none) = (fun j : Nat => if (j : Int) < v + 1 then some (sz + 9 + 21 * j) else none) := by
            funext j
            by_cases q : j = v.toNat
            · rw [if_pos q, if_pos (by omega), q, hz]
            · rw [if_neg q]; exact zite9 (by omega)
          rw [← e]; exact gV
        · rcases (by omega : (u : Int) < v ∨ u = v.toNat) with q | q
          · exact gU u q
          · rw [q, ← hz, show sz + 10 + 21 * v.toNat = H1.size by omega]; exact gX
  exact lp 5 0 (by decide) (by decide) (by decide) H2 _ _ _ (by decide) (by decide) hT gV gN gO gR gD gP (fun u hu => absurd hu (by omega)) hz hS ls hl
