/-- the events' rows, made anew or as they stand -/
def rfQ (F : Nat → Int) (A E : Nat → Int → Int) (S : Int → Nat → Int → Int) (Fv : Int → Nat → Int) (F2 : Nat → Int) (A2 E2 : Nat → Int → Int) : Prop := (¬ F 4 = 0 ∧ F2 = F ∧ A2 = A ∧ E2 = E) ∨ (F 4 = 0 ∧ F2 = zN F 4 1 ∧ A2 = zW A 0 (mgF Fv S (F 0) E (A 0) (2 * nSou Fv (F 0))).2 ∧ E2 = (mgF Fv S (F 0) E (A 0) (2 * nSou Fv (F 0))).1)
theorem rfQ_F0 {F : Nat → Int} {A E : Nat → Int → Int} {S : Int → Nat → Int → Int} {Fv : Int → Nat → Int} {F2 : Nat → Int} {A2 E2 : Nat → Int → Int} (h : rfQ F A E S Fv F2 A2 E2) : F2 0 = F 0 := by
  rcases h with ⟨-, h, -⟩ | ⟨-, h, -⟩
  · rw [h]
  · rw [h]; rfl
def de4 (E : Nat → Int → Int) (i : Int) (d : Int64) : Int → Int64 := pf d (fun w d => dA d (E w.toNat i))
def deF (E : Nat → Int → Int) (d : Int64) : Int → Int64 := pf d (fun i d => de4 E i d 4)
set_option maxHeartbeats 2000000 in
theorem c_X2_digestEvents (l : Launch) (G : zG) (ad : Nat → Nat) (F : Nat → Int) (A E : Nat → Int → Int) (T P S Av : Int → Nat → Int → Int) (Fv : Int → Nat → Int) (d0 : Int64) (sz : Nat) (hVC : COK F Fv) : MW l yX2_digestEvents cX2_digestEvents 8 (some .long) 1 22 (0) (0) G [.ref (ad 0), .long (d0)] (fA 94 ad sz) sz (CP G ad F A E T P S Av Fv) (QL (fA 94 ad sz) (fun r H => r = deF E d0 (2 * nSou Fv (F 0)) ∧ CP G ad F A E T P S Av Fv H)) := by
  refine mw_of hp_X2_digestEvents (Nat.le_of_ble_eq_true rfl) ?_
  intro p env s m below meth c ls hB hsz hP hl
  obtain ⟨hx, hb, hml, hr, hlk, hown, hts, hG⟩ := hB
  subst hsz
  have hK := hG.1
  have hS : va_S (fA 94 ad s.heap.size) s.heap s.heap [] := va_S.rf
  have hA : ∀ q : Nat, (fA 94 ad s.heap.size) q → G.2.2 ≤ q := fA_lo hP.1.2 hG.2.1
  have hD : ∀ k, k < 94 → (fA 94 ad s.heap.size) (ad k) := fun k hk => fA_in hk
  have hl : lv_has ls 8 [(0, .ref (ad 0)), (1, .long (d0))] := hl
  have h0b := hVC.1
  have hns := nSou_rng hVC (n := F 0) hVC.1
  refine lv_lload_n hx hb dX2_digestEvents_0 rfl (lv_at hl 1 rfl) ?_
  refine lv_lstore_n (lv' := [(3, .long (d0)), (0, .ref (ad 0)), (1, .long (d0))]) hx hb dX2_digestEvents_1 rfl hl (by decide) rfl (fun ls hl => ?_)
  refine lv_aload_n hx hb dX2_digestEvents_2 rfl (lv_at hl 1 rfl) ?_
  refine k_R (c_VR (As := []) (rest := []) ⟨hx, hb, hml, hown, hts⟩ hG hS hA (c_X2_countEvents l G ad F A E T P S Av Fv hVC) ⟨q_ml_RX2_183, q_im_X2_countEvents, q_sel_X2_countEvents, q_ini_RX2, q_code_X2_countEvents⟩ hv_X2_countEvents (CP.rec hK hP) hP ⟨by decide, by decide⟩ ⟨Nat.zero_le _, Nat.zero_le _⟩ rfl hl.1 rfl (Nat.le_of_ble_eq_true rfl) dX2_digestEvents_3) ?_
  refine lv_istore (lv' := [(5, .int (zI (2 * nSou Fv (F 0)))), (3, .long (d0)), (0, .ref (ad 0)), (1, .long (d0))]) hx hb dX2_digestEvents_6 hl (by decide) rfl (fun ls hl => ?_)
  refine z_iconst hx hb dX2_digestEvents_8 ?_
  refine lv_istore (lv' := [(6, .int (zI (0))), (5, .int (zI (2 * nSou Fv (F 0)))), (3, .long (d0)), (0, .ref (ad 0)), (1, .long (d0))]) hx hb dX2_digestEvents_9 hl (by decide) rfl (fun ls hl => ?_)
  have lp_11 : ∀ (n : Nat) (i : Int) (d3 : Int64), 0 ≤ i → i ≤ 2 * nSou Fv (F 0) → d3 = deF E d0 i → 2 * nSou Fv (F 0) - i < n → ∀ (H : Heap) (locs : List Loc), CP G ad F A E T P S Av Fv H → va_S (fA 94 ad s.heap.size) s.heap H locs → ∀ (ls : Array Slot), lv_has ls 8 [(6, .int (zI (i))), (5, .int (zI (2 * nSou Fv (F 0)))), (3, .long (d3)), (0, .ref (ad 0))] → W p l env (rmz 1 22 0 0) s m (([.ref (ad 0), .long (d0)] : List Value).toArray) below meth c H locs 0 0 (MQ below (QL (fA 94 ad s.heap.size) (fun r H => r = deF E d0 (2 * nSou Fv (F 0)) ∧ CP G ad F A E T P S Av Fv H)) (([.ref (ad 0), .long (d0)] : List Value).toArray) s 0 0 (fA 94 ad s.heap.size)) (F0 m 11 ls []) := by
    intro n
    induction n with
    | zero => intro i d3 he0 he1 he2 hme H locs hP hS ls hl; exact absurd hme (by omega)
    | succ n ih =>
      intro i d3 he0 he1 he2 hme H locs hP hS ls hl
      refine lv_iload hx hb dX2_digestEvents_11 (lv_at hl 0 rfl) ?_
      refine lv_iload hx hb dX2_digestEvents_13 (lv_at hl 1 rfl) ?_
      refine z_icmp_ge (a := i) (b := 2 * nSou Fv (F 0)) (tgt := 60) hx hb dX2_digestEvents_15 (by decide) (by omega) (by omega) (fun h_15 => ?_) (fun h_15 => ?_)
      · skip
        refine lv_lload_n hx hb dX2_digestEvents_60 rfl (lv_at hl 2 rfl) ?_
        exact e_Wl (r := d3) hx hb hr hlk hS (by omega) (by omega) ⟨(by rw [he2, show 2 * nSou Fv (F 0) = i by omega]), hP⟩ dX2_digestEvents_61
      · skip
        refine z_iconst hx hb dX2_digestEvents_18 ?_
        refine lv_istore (lv' := [(7, .int (zI (0))), (6, .int (zI (i))), (5, .int (zI (2 * nSou Fv (F 0)))), (3, .long (d3)), (0, .ref (ad 0))]) hx hb dX2_digestEvents_19 hl (by decide) rfl (fun ls hl => ?_)
        have lp_21 : ∀ (n : Nat) (x : Int) (d4 : Int64), 0 ≤ x → x ≤ 4 → d4 = de4 E i d3 x → 4 - x < n → ∀ (H : Heap) (locs : List Loc), CP G ad F A E T P S Av Fv H → va_S (fA 94 ad s.heap.size) s.heap H locs → ∀ (ls : Array Slot), lv_has ls 8 [(7, .int (zI (x))), (6, .int (zI (i))), (5, .int (zI (2 * nSou Fv (F 0)))), (3, .long (d4)), (0, .ref (ad 0))] → W p l env (rmz 1 22 0 0) s m (([.ref (ad 0), .long (d0)] : List Value).toArray) below meth c H locs 0 0 (MQ below (QL (fA 94 ad s.heap.size) (fun r H => r = deF E d0 (2 * nSou Fv (F 0)) ∧ CP G ad F A E T P S Av Fv H)) (([.ref (ad 0), .long (d0)] : List Value).toArray) s 0 0 (fA 94 ad s.heap.size)) (F0 m 21 ls []) := by
          intro n
          induction n with
          | zero => intro x d4 hx0 hx1 hx2 hmx H locs hP hS ls hl; exact absurd hmx (by omega)
          | succ n ih2 =>
            intro x d4 hx0 hx1 hx2 hmx H locs hP hS ls hl
            refine lv_iload hx hb dX2_digestEvents_21 (lv_at hl 0 rfl) ?_
            refine z_iconst hx hb dX2_digestEvents_23 ?_
            refine z_icmp_ge (a := x) (b := 4) (tgt := 54) hx hb dX2_digestEvents_24 (by decide) (by omega) (by omega) (fun h_24 => ?_) (fun h_24 => ?_)
            · skip
              refine z_iinc (lv' := [(6, .int (zI (i + 1))), (7, .int (zI (x))), (5, .int (zI (2 * nSou Fv (F 0)))), (3, .long (d4)), (0, .ref (ad 0))]) hx hb dX2_digestEvents_54 hl (k := 1) rfl (by decide) rfl (fun ls hl => ?_)
              refine lv_goto (tgt := 11) hx hb dX2_digestEvents_57 (by decide) ?_
              exact ih (i + 1) (d4) (by omega) (by omega) (by rw [show deF E d0 (i + 1) = de4 E i (deF E d0 i) 4 from pf_s _ _ he0, ← he2, show (4 : Int) = x by omega]; exact hx2) (by omega) H _ hP hS _ (lv_sub hl [0, 2, 3, 4] rfl)
            · skip
              refine lv_lload_n hx hb dX2_digestEvents_27 rfl (lv_at hl 3 rfl) ?_
              refine lv_ldc2 hx hb hown (hts _ q_k_RX2_201) dX2_digestEvents_28 ?_
              refine lv_lmul hx hb dX2_digestEvents_31 ?_
              refine lv_aload_n hx hb dX2_digestEvents_32 rfl (lv_at hl 4 rfl) ?_
              refine zs_get hx hb hK hts hown hP 1 (by decide) q_fl_RX2_18 (v := .ref (ad 2)) rfl dX2_digestEvents_33 ?_
              refine ze_get hx hb hK hts hown hP 0 (by decide) q_fl_RX2_193 (v := .ref (ad 3)) rfl dX2_digestEvents_36 ?_
              refine lv_iload hx hb dX2_digestEvents_39 (lv_at hl 0 rfl) ?_
              refine ze_aE hx hb hK hP ((x).toNat) (by omega) (i := x) (by omega) dX2_digestEvents_41 ?_
              refine lv_iload hx hb dX2_digestEvents_42 (lv_at hl 1 rfl) ?_
              refine ze_lE hx hb hK hP ((x).toNat) (by omega) (i := i) (by omega) dX2_digestEvents_44 ?_
              refine lv_i2l (v := (zI (E ((x).toNat) (i))).toInt64) hx hb dX2_digestEvents_45 rfl ?_
              refine lv_ladd hx hb dX2_digestEvents_46 ?_
              refine lv_lstore_n (lv' := [(3, .long (((d4) * (31)) + ((zI (E ((x).toNat) (i))).toInt64))), (7, .int (zI (x))), (6, .int (zI (i))), (5, .int (zI (2 * nSou Fv (F 0)))), (0, .ref (ad 0))]) hx hb dX2_digestEvents_47 rfl hl (by decide) rfl (fun ls hl => ?_)
              refine z_iinc (lv' := [(7, .int (zI (x + 1))), (3, .long (((d4) * (31)) + ((zI (E ((x).toNat) (i))).toInt64))), (6, .int (zI (i))), (5, .int (zI (2 * nSou Fv (F 0)))), (0, .ref (ad 0))]) hx hb dX2_digestEvents_48 hl (k := 1) rfl (by decide) rfl (fun ls hl => ?_)
              refine lv_goto (tgt := 21) hx hb dX2_digestEvents_51 (by decide) ?_
              exact ih2 (x + 1) (((d4) * (31)) + ((zI (E ((x).toNat) (i))).toInt64)) (by omega) (by omega) (by rw [show de4 E i d3 (x + 1) = dA (de4 E i d3 x) (E x.toNat i) from pf_s _ _ hx0, ← hx2]; rfl) (by omega) H _ hP hS _ (lv_sub hl [0, 2, 3, 1, 4] rfl)
        exact lp_21 5 0 d3 (by omega) (by omega) rfl (by omega) H _ hP hS _ (lv_sub hl [0, 1, 2, 3, 4] rfl)
  exact lp_11 1601 0 d0 (by omega) (by omega) rfl (by omega) s.heap _ hP hS _ (lv_sub hl [0, 1, 2, 3] rfl)
