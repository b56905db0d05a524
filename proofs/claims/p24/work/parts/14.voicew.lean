theorem sgK_rng (key st : Int) : -1 ≤ sgK key st ∧ sgK key st ≤ 1 := by
  unfold sgK
  repeat' split
  all_goals omega
theorem zR2_rng {A : Nat → Int → Int} {pl x y : Int} (h : ∀ p, 0 ≤ p → p < 63 → -1 ≤ A 0 p ∧ A 0 p ≤ 1000 ∧ -2 ≤ A 1 p ∧ A 1 p ≤ 2) (hx : -1 ≤ x ∧ x ≤ 1000) (hy : -2 ≤ y ∧ y ≤ 2) : ∀ p, 0 ≤ p → p < 63 → -1 ≤ zR (zR A 0 pl x) 1 pl y 0 p ∧ zR (zR A 0 pl x) 1 pl y 0 p ≤ 1000 ∧ -2 ≤ zR (zR A 0 pl x) 1 pl y 1 p ∧ zR (zR A 0 pl x) 1 pl y 1 p ≤ 2 := by
  intro p h0 h1
  have q := h p h0 h1
  have e1 : zR (zR A 0 pl x) 1 pl y 0 p = if p = pl then x else A 0 p := by
    unfold zR; simp
  have e2 : zR (zR A 0 pl x) 1 pl y 1 p = if p = pl then y else A 1 p := by
    unfold zR; simp
  rw [e1, e2]
  split <;> omega
abbrev okP (st sg oc : Int) : Prop := 0 ≤ st ∧ st < 7 ∧ 0 ≤ oc ∧ oc < 9 ∧ -2 ≤ sg ∧ sg ≤ 2 ∧ 0 ≤ toneF st sg oc
/-- a note that can't be moved: tn tones, st steps, oc octaves -/
abbrev trB (tn st oc : Int → Int) (u v : Int) (i : Int) : Prop := ¬ tn i = -1 ∧ ¬ okP ((7 * oc i + st i + u) % 7) (tn i + v - toneF ((7 * oc i + st i + u) % 7) 0 ((7 * oc i + st i + u) / 7)) ((7 * oc i + st i + u) / 7)
def mvS (u v : Int) (k : Int) (a : (Int → Int) × (Nat → Int → Int)) : (Int → Int) × (Nat → Int → Int) :=
  if a.1 k = -1 then a
  else (zU a.1 k (toneF ((7 * a.2 2 k + a.2 0 k + u) % 7) (a.1 k + v - toneF ((7 * a.2 2 k + a.2 0 k + u) % 7) 0 ((7 * a.2 2 k + a.2 0 k + u) / 7)) ((7 * a.2 2 k + a.2 0 k + u) / 7)),
    zR (zR (zR a.2 0 k ((7 * a.2 2 k + a.2 0 k + u) % 7)) 1 k (a.1 k + v - toneF ((7 * a.2 2 k + a.2 0 k + u) % 7) 0 ((7 * a.2 2 k + a.2 0 k + u) / 7))) 2 k ((7 * a.2 2 k + a.2 0 k + u) / 7))
def mvF (u v : Int) (tn : Int → Int) (P : Nat → Int → Int) : Int → (Int → Int) × (Nat → Int → Int) := pf (tn, P) (mvS u v)
theorem mvF_off {u v : Int} {tn : Int → Int} {P : Nat → Int → Int} {i : Int} (h : 0 ≤ i) : ∀ k, i ≤ k → (mvF u v tn P i).1 k = tn k ∧ ∀ w, (mvF u v tn P i).2 w k = P w k := by
  refine pf_ind (fun (i : Int) (a : (Int → Int) × (Nat → Int → Int)) => ∀ k, i ≤ k → a.1 k = tn k ∧ ∀ w, a.2 w k = P w k) (fun k _ => ⟨rfl, fun w => rfl⟩) ?_ h
  intro j a hj ih k hk
  have q := ih k (by omega)
  unfold mvS
  split
  · exact q
  · refine ⟨?_, fun w => ?_⟩
    · show zU a.1 j _ k = _
      rw [zU_n (by omega)]; exact q.1
    · show zR (zR (zR a.2 0 j _) 1 j _) 2 j _ w k = _
      rw [zR_n (Or.inr (by omega)), zR_n (Or.inr (by omega)), zR_n (Or.inr (by omega))]; exact q.2 w
set_option maxHeartbeats 2000000 in
theorem c_X1_arrangeSounds (l : Launch) (G : zG) (ad : Nat → Nat) (T P S A : Nat → Int → Int) (F : Nat → Int) (sz : Nat) (hV : VOK T P (F 0)) : MW l yX1_arrangeSounds cX1_arrangeSounds 4 none 2 42 (0) (0) G [.ref (ad 0)] (fA 21 ad sz) sz (VP G ad T P S A F) (QV (fA 21 ad sz) (fun H => VP G ad T P (soF (T 5) (T 4) (T 0) (T 1) (F 0) S (F 0)).2 A (zN F 2 (soF (T 5) (T 4) (T 0) (T 1) (F 0) S (F 0)).1) H)) := by
  refine mw_of hp_X1_arrangeSounds (Nat.le_of_ble_eq_true rfl) ?_
  intro p env s m below meth c ls hB hsz hP hl
  obtain ⟨hx, hb, hml, hr, hlk, hown, hts, hG⟩ := hB
  subst hsz
  have hK := hG.1
  have hS : va_S (fA 21 ad s.heap.size) s.heap s.heap [] := va_S.rf
  have hA : ∀ q : Nat, (fA 21 ad s.heap.size) q → G.2.2 ≤ q := fA_lo hP.1.2 hG.2.1
  have hD : ∀ k, k < 21 → (fA 21 ad s.heap.size) (ad k) := fun k hk => fA_in hk
  have hl : lv_has ls 4 [(0, .ref (ad 0))] := hl
  have hn1 := hV.1
  have hn2 := hV.2.1
  refine lv_aload_n hx hb dX1_arrangeSounds_0 rfl (lv_at hl 0 rfl) ?_
  refine z_iconst hx hb dX1_arrangeSounds_1 ?_
  refine zv_put (x := 0) hx hb hK hts hown hP hS (hD 0 (by decide)) 2 (by decide) q_fl_RX1_36 dX1_arrangeSounds_2 (fun H locs hP hz ho hS => ?_)
  refine z_iconst hx hb dX1_arrangeSounds_5 ?_
  refine lv_istore_n (lv' := [(1, .int (zI (0))), (0, .ref (ad 0))]) hx hb dX1_arrangeSounds_6 rfl hl (by decide) rfl (fun ls hl => ?_)
  have lp_7 : ∀ (n : Nat) (i sc : Int) (S1 : Nat → Int → Int), 0 ≤ i → i ≤ F 0 → (sc, S1) = soF (T 5) (T 4) (T 0) (T 1) (F 0) S i → F 0 - i < n → ∀ (H : Heap) (locs : List Loc), VP G ad T P S1 A (zN F 2 (sc)) H → va_S (fA 21 ad s.heap.size) s.heap H locs → ∀ (ls : Array Slot), lv_has ls 4 [(1, .int (zI (i))), (0, .ref (ad 0))] → W p l env (rmz 2 42 0 0) s m (([.ref (ad 0)] : List Value).toArray) below meth c H locs 0 0 (MQ below (QV (fA 21 ad s.heap.size) (fun H => VP G ad T P (soF (T 5) (T 4) (T 0) (T 1) (F 0) S (F 0)).2 A (zN F 2 (soF (T 5) (T 4) (T 0) (T 1) (F 0) S (F 0)).1) H)) (([.ref (ad 0)] : List Value).toArray) s 0 0 (fA 21 ad s.heap.size)) (F0 m 7 ls []) := by
    intro n
    induction n with
    | zero => intro i sc S1 h0 h1 h2 hm H locs hP hS ls hl; exact absurd hm (by omega)
    | succ n ih =>
      intro i sc S1 h0 h1 h2 hm H locs hP hS ls hl
      have hs : soF (T 5) (T 4) (T 0) (T 1) (F 0) S (i + 1) = soS (T 5) (T 4) (T 0) (T 1) (F 0) i (soF (T 5) (T 4) (T 0) (T 1) (F 0) S i) := pf_s _ _ h0
      have hr9 : 0 ≤ sc ∧ sc ≤ i := by have q := soF_rng (td := T 5) (tn := T 4) (bg := T 0) (tk := T 1) (n := F 0) (S := S) h0; rw [← h2] at q; exact q
      refine lv_iload_n hx hb dX1_arrangeSounds_7 rfl (lv_at hl 0 rfl) ?_
      refine lv_aload_n hx hb dX1_arrangeSounds_8 rfl (lv_at hl 1 rfl) ?_
      refine zv_get hx hb hK hts hown hP 5 (by decide) q_fl_RX1_29 (v := .int (zI (F 0))) rfl dX1_arrangeSounds_9 ?_
      refine z_icmp_ge (a := i) (b := F 0) (tgt := 137) hx hb dX1_arrangeSounds_12 (by decide) (by omega) (by omega) (fun h_12 => ?_) (fun h_12 => ?_)
      · skip
        exact e_Wv hx hb hr hlk hS (by omega) (by omega) (by have h9 : F 0 = i := (by omega); rw [h9] at h2 ⊢; rw [← h2]; exact hP) dX1_arrangeSounds_137
      · skip
        have hv := hV.2.2.1 i (by omega) (by omega)
        refine lv_aload_n hx hb dX1_arrangeSounds_15 rfl (lv_at hl 1 rfl) ?_
        refine lv_iload_n hx hb dX1_arrangeSounds_16 rfl (lv_at hl 0 rfl) ?_
        refine k_R (c_VR (As := [.int (zI (i))]) (rest := []) ⟨hx, hb, hml, hown, hts⟩ hG hS hA (c_X1_isNote l G ad T P S1 A (zN F 2 (sc)) i (show 0 ≤ i ∧ i < 200 by omega) (show -2147483648 ≤ T 4 i ∧ T 4 i ≤ 2147483647 by omega)) ⟨q_ml_RX1_76, q_im_X1_isNote, q_sel_X1_isNote, q_ini_RX1, q_code_X1_isNote⟩ hv_X1_isNote (VP.rec hK hP) hP ⟨by decide, by decide⟩ ⟨Nat.zero_le _, Nat.zero_le _⟩ rfl hl.1 rfl (Nat.le_of_ble_eq_true rfl) dX1_arrangeSounds_17) ?_
        refine z_bif_eq (q := ¬ T 4 i = -1) (tgt := 131) hx hb dX1_arrangeSounds_20 (by decide) (fun h_20 => ?_) (fun h_20 => ?_)
        · skip
          refine z_iinc (lv' := [(1, .int (zI (i + 1))), (0, .ref (ad 0))]) hx hb dX1_arrangeSounds_131 hl (k := 0) rfl (by decide) rfl (fun ls hl => ?_)
          refine lv_goto (tgt := 7) hx hb dX1_arrangeSounds_134 (by decide) ?_
          exact ih (i + 1) sc S1 (by omega) (by omega) (by rw [hs, ← h2]; simp only [soS, jn]; (repeat' split) <;> first | rfl | (exfalso; omega)) (by omega) H _ hP hS _ (lv_sub hl [0, 1] rfl)
        · skip
          refine lv_aload_n hx hb dX1_arrangeSounds_23 rfl (lv_at hl 1 rfl) ?_
          refine lv_iload_n hx hb dX1_arrangeSounds_24 rfl (lv_at hl 0 rfl) ?_
          refine z_iconst hx hb dX1_arrangeSounds_25 ?_
          refine z_isub (x := i) (y := 1) hx hb dX1_arrangeSounds_26 ?_
          refine k_R (c_VR (As := [.int (zI ((i) - (1)))]) (rest := []) ⟨hx, hb, hml, hown, hts⟩ hG hS hA (c_X1_isJoinedToNext l G ad T P S1 A (zN F 2 (sc)) ((i) - (1)) (show -1 ≤ ((i) - (1)) ∧ ((i) - (1)) < 200 by omega) hV) ⟨q_ml_RX1_93, q_im_X1_isJoinedToNext, q_sel_X1_isJoinedToNext, q_ini_RX1, q_code_X1_isJoinedToNext⟩ hv_X1_isJoinedToNext (VP.rec hK hP) hP ⟨by decide, by decide⟩ ⟨Nat.zero_le _, Nat.zero_le _⟩ rfl hl.1 rfl (Nat.le_of_ble_eq_true rfl) dX1_arrangeSounds_27) ?_
          refine lv_istore_n (lv' := [(2, .int (zI (bI (0 ≤ ((i) - (1)) ∧ ((i) - (1)) + 1 < (F 0) ∧ T 5 (((i) - (1))) = 1 ∧ T 4 (((i) - (1))) = T 4 (((i) - (1)) + 1))))), (1, .int (zI (i))), (0, .ref (ad 0))]) hx hb dX1_arrangeSounds_30 rfl hl (by decide) rfl (fun ls hl => ?_)
          refine lv_iload_n hx hb dX1_arrangeSounds_31 rfl (lv_at hl 0 rfl) ?_
          refine z_bif_eq (q := 0 ≤ ((i) - (1)) ∧ ((i) - (1)) + 1 < (F 0) ∧ T 5 (((i) - (1))) = 1 ∧ T 4 (((i) - (1))) = T 4 (((i) - (1)) + 1)) (tgt := 51) hx hb dX1_arrangeSounds_32 (by decide) (fun h_32 => ?_) (fun h_32 => ?_)
          · skip
            refine lv_aload_n hx hb dX1_arrangeSounds_51 rfl (lv_at hl 2 rfl) ?_
            refine zv_get hx hb hK hts hown hP 7 (by decide) q_fl_RX1_36 (v := .int (zI (sc))) rfl dX1_arrangeSounds_52 ?_
            refine lv_istore_n (lv' := [(3, .int (zI (sc))), (2, .int (zI (bI (0 ≤ ((i) - (1)) ∧ ((i) - (1)) + 1 < (F 0) ∧ T 5 (((i) - (1))) = 1 ∧ T 4 (((i) - (1))) = T 4 (((i) - (1)) + 1))))), (1, .int (zI (i))), (0, .ref (ad 0))]) hx hb dX1_arrangeSounds_55 rfl hl (by decide) rfl (fun ls hl => ?_)
            refine lv_iload_n hx hb dX1_arrangeSounds_56 rfl (lv_at hl 0 rfl) ?_
            refine lv_aload_n hx hb dX1_arrangeSounds_57 rfl (lv_at hl 3 rfl) ?_
            refine zv_get hx hb hK hts hown hP 7 (by decide) q_fl_RX1_36 (v := .int (zI (sc))) rfl dX1_arrangeSounds_58 ?_
            refine z_icmp_ne (a := sc) (b := sc) (tgt := 106) hx hb dX1_arrangeSounds_61 (by decide) (by omega) (by omega) (fun h_61 => ?_) (fun h_61 => ?_)
            · skip
              refine lv_aload_n hx hb dX1_arrangeSounds_106 rfl (lv_at hl 3 rfl) ?_
              refine zv_get hx hb hK hts hown hP 2 (by decide) q_fl_RX1_19 (v := .ref (ad 15)) rfl dX1_arrangeSounds_107 ?_
              refine z_iconst hx hb dX1_arrangeSounds_110 ?_
              refine zv_aS hx hb hK hP (1) (by decide) (i := 1) rfl dX1_arrangeSounds_111 ?_
              refine lv_iload_n hx hb dX1_arrangeSounds_112 rfl (lv_at hl 0 rfl) ?_
              refine lv_aload_n hx hb dX1_arrangeSounds_113 rfl (lv_at hl 3 rfl) ?_
              refine zv_get hx hb hK hts hown hP 0 (by decide) q_fl_RX1_11 (v := .ref (ad 1)) rfl dX1_arrangeSounds_114 ?_
              refine z_iconst hx hb dX1_arrangeSounds_117 ?_
              refine zv_aT hx hb hK hP (0) (by decide) (i := 0) rfl dX1_arrangeSounds_118 ?_
              refine lv_iload_n hx hb dX1_arrangeSounds_119 rfl (lv_at hl 2 rfl) ?_
              refine zv_lT hx hb hK hP (0) (by decide) (i := i) (by omega) dX1_arrangeSounds_120 ?_
              refine lv_aload_n hx hb dX1_arrangeSounds_121 rfl (lv_at hl 3 rfl) ?_
              refine zv_get hx hb hK hts hown hP 0 (by decide) q_fl_RX1_11 (v := .ref (ad 1)) rfl dX1_arrangeSounds_122 ?_
              refine z_iconst hx hb dX1_arrangeSounds_125 ?_
              refine zv_aT hx hb hK hP (1) (by decide) (i := 1) rfl dX1_arrangeSounds_126 ?_
              refine lv_iload_n hx hb dX1_arrangeSounds_127 rfl (lv_at hl 2 rfl) ?_
              refine zv_lT hx hb hK hP (1) (by decide) (i := i) (by omega) dX1_arrangeSounds_128 ?_
              refine z_iadd (x := T 0 (i)) (y := T 1 (i)) hx hb dX1_arrangeSounds_129 ?_
              refine zv_sS (x := (T 0 (i)) + (T 1 (i))) hx hb hK hP hS (1) (by decide) (hD (16 + 1) (by omega)) (i := sc) (by omega) dX1_arrangeSounds_130 (fun H locs hP hz ho hS => ?_)
              refine z_iinc (lv' := [(1, .int (zI (i + 1))), (3, .int (zI (sc))), (2, .int (zI (bI (0 ≤ ((i) - (1)) ∧ ((i) - (1)) + 1 < (F 0) ∧ T 5 (((i) - (1))) = 1 ∧ T 4 (((i) - (1))) = T 4 (((i) - (1)) + 1))))), (0, .ref (ad 0))]) hx hb dX1_arrangeSounds_131 hl (k := 2) rfl (by decide) rfl (fun ls hl => ?_)
              refine lv_goto (tgt := 7) hx hb dX1_arrangeSounds_134 (by decide) ?_
              exact ih (i + 1) sc (zR S1 1 (sc) ((T 0 (i)) + (T 1 (i)))) (by omega) (by omega) (by rw [hs, ← h2]; simp only [soS, jn]; (repeat' split) <;> first | rfl | (exfalso; omega)) (by omega) H _ hP hS _ (lv_sub hl [0, 3] rfl)
            · skip
              refine lv_aload_n hx hb dX1_arrangeSounds_64 rfl (lv_at hl 3 rfl) ?_
              refine zv_get hx hb hK hts hown hP 2 (by decide) q_fl_RX1_19 (v := .ref (ad 15)) rfl dX1_arrangeSounds_65 ?_
              refine z_iconst hx hb dX1_arrangeSounds_68 ?_
              refine zv_aS hx hb hK hP (0) (by decide) (i := 0) rfl dX1_arrangeSounds_69 ?_
              refine lv_iload_n hx hb dX1_arrangeSounds_70 rfl (lv_at hl 0 rfl) ?_
              refine lv_aload_n hx hb dX1_arrangeSounds_71 rfl (lv_at hl 3 rfl) ?_
              refine zv_get hx hb hK hts hown hP 0 (by decide) q_fl_RX1_11 (v := .ref (ad 1)) rfl dX1_arrangeSounds_72 ?_
              refine z_iconst hx hb dX1_arrangeSounds_75 ?_
              refine zv_aT hx hb hK hP (0) (by decide) (i := 0) rfl dX1_arrangeSounds_76 ?_
              refine lv_iload_n hx hb dX1_arrangeSounds_77 rfl (lv_at hl 2 rfl) ?_
              refine zv_lT hx hb hK hP (0) (by decide) (i := i) (by omega) dX1_arrangeSounds_78 ?_
              refine zv_sS (x := T 0 (i)) hx hb hK hP hS (0) (by decide) (hD (16 + 0) (by omega)) (i := sc) (by omega) dX1_arrangeSounds_79 (fun H locs hP hz ho hS => ?_)
              refine lv_aload_n hx hb dX1_arrangeSounds_80 rfl (lv_at hl 3 rfl) ?_
              refine zv_get hx hb hK hts hown hP 2 (by decide) q_fl_RX1_19 (v := .ref (ad 15)) rfl dX1_arrangeSounds_81 ?_
              refine z_iconst hx hb dX1_arrangeSounds_84 ?_
              refine zv_aS hx hb hK hP (2) (by decide) (i := 2) rfl dX1_arrangeSounds_85 ?_
              refine lv_iload_n hx hb dX1_arrangeSounds_86 rfl (lv_at hl 0 rfl) ?_
              refine lv_aload_n hx hb dX1_arrangeSounds_87 rfl (lv_at hl 3 rfl) ?_
              refine zv_get hx hb hK hts hown hP 0 (by decide) q_fl_RX1_11 (v := .ref (ad 1)) rfl dX1_arrangeSounds_88 ?_
              refine z_iconst hx hb dX1_arrangeSounds_91 ?_
              refine zv_aT hx hb hK hP (4) (by decide) (i := 4) rfl dX1_arrangeSounds_92 ?_
              refine lv_iload_n hx hb dX1_arrangeSounds_93 rfl (lv_at hl 2 rfl) ?_
              refine zv_lT hx hb hK hP (4) (by decide) (i := i) (by omega) dX1_arrangeSounds_94 ?_
              refine zv_sS (x := T 4 (i)) hx hb hK hP hS (2) (by decide) (hD (16 + 2) (by omega)) (i := sc) (by omega) dX1_arrangeSounds_95 (fun H locs hP hz ho hS => ?_)
              refine lv_aload_n hx hb dX1_arrangeSounds_96 rfl (lv_at hl 3 rfl) ?_
              refine lv_dup hx hb dX1_arrangeSounds_97 rfl ?_
              refine zv_get hx hb hK hts hown hP 7 (by decide) q_fl_RX1_36 (v := .int (zI (sc))) rfl dX1_arrangeSounds_98 ?_
              refine z_iconst hx hb dX1_arrangeSounds_101 ?_
              refine z_iadd (x := sc) (y := 1) hx hb dX1_arrangeSounds_102 ?_
              refine zv_put (x := (sc) + (1)) hx hb hK hts hown hP hS (hD 0 (by decide)) 2 (by decide) q_fl_RX1_36 dX1_arrangeSounds_103 (fun H locs hP hz ho hS => ?_)
              rw [zN_N] at hP
              refine lv_aload_n hx hb dX1_arrangeSounds_106 rfl (lv_at hl 3 rfl) ?_
              refine zv_get hx hb hK hts hown hP 2 (by decide) q_fl_RX1_19 (v := .ref (ad 15)) rfl dX1_arrangeSounds_107 ?_
              refine z_iconst hx hb dX1_arrangeSounds_110 ?_
              refine zv_aS hx hb hK hP (1) (by decide) (i := 1) rfl dX1_arrangeSounds_111 ?_
              refine lv_iload_n hx hb dX1_arrangeSounds_112 rfl (lv_at hl 0 rfl) ?_
              refine lv_aload_n hx hb dX1_arrangeSounds_113 rfl (lv_at hl 3 rfl) ?_
              refine zv_get hx hb hK hts hown hP 0 (by decide) q_fl_RX1_11 (v := .ref (ad 1)) rfl dX1_arrangeSounds_114 ?_
              refine z_iconst hx hb dX1_arrangeSounds_117 ?_
              refine zv_aT hx hb hK hP (0) (by decide) (i := 0) rfl dX1_arrangeSounds_118 ?_
              refine lv_iload_n hx hb dX1_arrangeSounds_119 rfl (lv_at hl 2 rfl) ?_
              refine zv_lT hx hb hK hP (0) (by decide) (i := i) (by omega) dX1_arrangeSounds_120 ?_
              refine lv_aload_n hx hb dX1_arrangeSounds_121 rfl (lv_at hl 3 rfl) ?_
              refine zv_get hx hb hK hts hown hP 0 (by decide) q_fl_RX1_11 (v := .ref (ad 1)) rfl dX1_arrangeSounds_122 ?_
              refine z_iconst hx hb dX1_arrangeSounds_125 ?_
              refine zv_aT hx hb hK hP (1) (by decide) (i := 1) rfl dX1_arrangeSounds_126 ?_
              refine lv_iload_n hx hb dX1_arrangeSounds_127 rfl (lv_at hl 2 rfl) ?_
              refine zv_lT hx hb hK hP (1) (by decide) (i := i) (by omega) dX1_arrangeSounds_128 ?_
              refine z_iadd (x := T 0 (i)) (y := T 1 (i)) hx hb dX1_arrangeSounds_129 ?_
              refine zv_sS (x := (T 0 (i)) + (T 1 (i))) hx hb hK hP hS (1) (by decide) (hD (16 + 1) (by omega)) (i := sc) (by omega) dX1_arrangeSounds_130 (fun H locs hP hz ho hS => ?_)
              refine z_iinc (lv' := [(1, .int (zI (i + 1))), (3, .int (zI (sc))), (2, .int (zI (bI (0 ≤ ((i) - (1)) ∧ ((i) - (1)) + 1 < (F 0) ∧ T 5 (((i) - (1))) = 1 ∧ T 4 (((i) - (1))) = T 4 (((i) - (1)) + 1))))), (0, .ref (ad 0))]) hx hb dX1_arrangeSounds_131 hl (k := 2) rfl (by decide) rfl (fun ls hl => ?_)
              refine lv_goto (tgt := 7) hx hb dX1_arrangeSounds_134 (by decide) ?_
              exact ih (i + 1) ((sc) + (1)) (zR (zR (zR S1 0 (sc) (T 0 (i))) 2 (sc) (T 4 (i))) 1 (sc) ((T 0 (i)) + (T 1 (i)))) (by omega) (by omega) (by rw [hs, ← h2]; simp only [soS, jn]; (repeat' split) <;> first | rfl | (exfalso; omega)) (by omega) H _ hP hS _ (lv_sub hl [0, 3] rfl)
          · skip
            refine lv_aload_n hx hb dX1_arrangeSounds_35 rfl (lv_at hl 2 rfl) ?_
            refine zv_get hx hb hK hts hown hP 7 (by decide) q_fl_RX1_36 (v := .int (zI (sc))) rfl dX1_arrangeSounds_36 ?_
            refine z_if_le (a := sc) (tgt := 51) hx hb dX1_arrangeSounds_39 (by decide) (by omega) (fun h_39 => ?_) (fun h_39 => ?_)
            · skip
              refine lv_aload_n hx hb dX1_arrangeSounds_51 rfl (lv_at hl 2 rfl) ?_
              refine zv_get hx hb hK hts hown hP 7 (by decide) q_fl_RX1_36 (v := .int (zI (sc))) rfl dX1_arrangeSounds_52 ?_
              refine lv_istore_n (lv' := [(3, .int (zI (sc))), (2, .int (zI (bI (0 ≤ ((i) - (1)) ∧ ((i) - (1)) + 1 < (F 0) ∧ T 5 (((i) - (1))) = 1 ∧ T 4 (((i) - (1))) = T 4 (((i) - (1)) + 1))))), (1, .int (zI (i))), (0, .ref (ad 0))]) hx hb dX1_arrangeSounds_55 rfl hl (by decide) rfl (fun ls hl => ?_)
              refine lv_iload_n hx hb dX1_arrangeSounds_56 rfl (lv_at hl 0 rfl) ?_
              refine lv_aload_n hx hb dX1_arrangeSounds_57 rfl (lv_at hl 3 rfl) ?_
              refine zv_get hx hb hK hts hown hP 7 (by decide) q_fl_RX1_36 (v := .int (zI (sc))) rfl dX1_arrangeSounds_58 ?_
              refine z_icmp_ne (a := sc) (b := sc) (tgt := 106) hx hb dX1_arrangeSounds_61 (by decide) (by omega) (by omega) (fun h_61 => ?_) (fun h_61 => ?_)
              · skip
                refine lv_aload_n hx hb dX1_arrangeSounds_106 rfl (lv_at hl 3 rfl) ?_
                refine zv_get hx hb hK hts hown hP 2 (by decide) q_fl_RX1_19 (v := .ref (ad 15)) rfl dX1_arrangeSounds_107 ?_
                refine z_iconst hx hb dX1_arrangeSounds_110 ?_
                refine zv_aS hx hb hK hP (1) (by decide) (i := 1) rfl dX1_arrangeSounds_111 ?_
                refine lv_iload_n hx hb dX1_arrangeSounds_112 rfl (lv_at hl 0 rfl) ?_
                refine lv_aload_n hx hb dX1_arrangeSounds_113 rfl (lv_at hl 3 rfl) ?_
                refine zv_get hx hb hK hts hown hP 0 (by decide) q_fl_RX1_11 (v := .ref (ad 1)) rfl dX1_arrangeSounds_114 ?_
                refine z_iconst hx hb dX1_arrangeSounds_117 ?_
                refine zv_aT hx hb hK hP (0) (by decide) (i := 0) rfl dX1_arrangeSounds_118 ?_
                refine lv_iload_n hx hb dX1_arrangeSounds_119 rfl (lv_at hl 2 rfl) ?_
                refine zv_lT hx hb hK hP (0) (by decide) (i := i) (by omega) dX1_arrangeSounds_120 ?_
                refine lv_aload_n hx hb dX1_arrangeSounds_121 rfl (lv_at hl 3 rfl) ?_
                refine zv_get hx hb hK hts hown hP 0 (by decide) q_fl_RX1_11 (v := .ref (ad 1)) rfl dX1_arrangeSounds_122 ?_
                refine z_iconst hx hb dX1_arrangeSounds_125 ?_
                refine zv_aT hx hb hK hP (1) (by decide) (i := 1) rfl dX1_arrangeSounds_126 ?_
                refine lv_iload_n hx hb dX1_arrangeSounds_127 rfl (lv_at hl 2 rfl) ?_
                refine zv_lT hx hb hK hP (1) (by decide) (i := i) (by omega) dX1_arrangeSounds_128 ?_
                refine z_iadd (x := T 0 (i)) (y := T 1 (i)) hx hb dX1_arrangeSounds_129 ?_
                refine zv_sS (x := (T 0 (i)) + (T 1 (i))) hx hb hK hP hS (1) (by decide) (hD (16 + 1) (by omega)) (i := sc) (by omega) dX1_arrangeSounds_130 (fun H locs hP hz ho hS => ?_)
                refine z_iinc (lv' := [(1, .int (zI (i + 1))), (3, .int (zI (sc))), (2, .int (zI (bI (0 ≤ ((i) - (1)) ∧ ((i) - (1)) + 1 < (F 0) ∧ T 5 (((i) - (1))) = 1 ∧ T 4 (((i) - (1))) = T 4 (((i) - (1)) + 1))))), (0, .ref (ad 0))]) hx hb dX1_arrangeSounds_131 hl (k := 2) rfl (by decide) rfl (fun ls hl => ?_)
                refine lv_goto (tgt := 7) hx hb dX1_arrangeSounds_134 (by decide) ?_
                exact ih (i + 1) sc (zR S1 1 (sc) ((T 0 (i)) + (T 1 (i)))) (by omega) (by omega) (by rw [hs, ← h2]; simp only [soS, jn]; (repeat' split) <;> first | rfl | (exfalso; omega)) (by omega) H _ hP hS _ (lv_sub hl [0, 3] rfl)
              · skip
                refine lv_aload_n hx hb dX1_arrangeSounds_64 rfl (lv_at hl 3 rfl) ?_
                refine zv_get hx hb hK hts hown hP 2 (by decide) q_fl_RX1_19 (v := .ref (ad 15)) rfl dX1_arrangeSounds_65 ?_
                refine z_iconst hx hb dX1_arrangeSounds_68 ?_
                refine zv_aS hx hb hK hP (0) (by decide) (i := 0) rfl dX1_arrangeSounds_69 ?_
                refine lv_iload_n hx hb dX1_arrangeSounds_70 rfl (lv_at hl 0 rfl) ?_
                refine lv_aload_n hx hb dX1_arrangeSounds_71 rfl (lv_at hl 3 rfl) ?_
                refine zv_get hx hb hK hts hown hP 0 (by decide) q_fl_RX1_11 (v := .ref (ad 1)) rfl dX1_arrangeSounds_72 ?_
                refine z_iconst hx hb dX1_arrangeSounds_75 ?_
                refine zv_aT hx hb hK hP (0) (by decide) (i := 0) rfl dX1_arrangeSounds_76 ?_
                refine lv_iload_n hx hb dX1_arrangeSounds_77 rfl (lv_at hl 2 rfl) ?_
                refine zv_lT hx hb hK hP (0) (by decide) (i := i) (by omega) dX1_arrangeSounds_78 ?_
                refine zv_sS (x := T 0 (i)) hx hb hK hP hS (0) (by decide) (hD (16 + 0) (by omega)) (i := sc) (by omega) dX1_arrangeSounds_79 (fun H locs hP hz ho hS => ?_)
                refine lv_aload_n hx hb dX1_arrangeSounds_80 rfl (lv_at hl 3 rfl) ?_
                refine zv_get hx hb hK hts hown hP 2 (by decide) q_fl_RX1_19 (v := .ref (ad 15)) rfl dX1_arrangeSounds_81 ?_
                refine z_iconst hx hb dX1_arrangeSounds_84 ?_
                refine zv_aS hx hb hK hP (2) (by decide) (i := 2) rfl dX1_arrangeSounds_85 ?_
                refine lv_iload_n hx hb dX1_arrangeSounds_86 rfl (lv_at hl 0 rfl) ?_
                refine lv_aload_n hx hb dX1_arrangeSounds_87 rfl (lv_at hl 3 rfl) ?_
                refine zv_get hx hb hK hts hown hP 0 (by decide) q_fl_RX1_11 (v := .ref (ad 1)) rfl dX1_arrangeSounds_88 ?_
                refine z_iconst hx hb dX1_arrangeSounds_91 ?_
                refine zv_aT hx hb hK hP (4) (by decide) (i := 4) rfl dX1_arrangeSounds_92 ?_
                refine lv_iload_n hx hb dX1_arrangeSounds_93 rfl (lv_at hl 2 rfl) ?_
                refine zv_lT hx hb hK hP (4) (by decide) (i := i) (by omega) dX1_arrangeSounds_94 ?_
                refine zv_sS (x := T 4 (i)) hx hb hK hP hS (2) (by decide) (hD (16 + 2) (by omega)) (i := sc) (by omega) dX1_arrangeSounds_95 (fun H locs hP hz ho hS => ?_)
                refine lv_aload_n hx hb dX1_arrangeSounds_96 rfl (lv_at hl 3 rfl) ?_
                refine lv_dup hx hb dX1_arrangeSounds_97 rfl ?_
                refine zv_get hx hb hK hts hown hP 7 (by decide) q_fl_RX1_36 (v := .int (zI (sc))) rfl dX1_arrangeSounds_98 ?_
                refine z_iconst hx hb dX1_arrangeSounds_101 ?_
                refine z_iadd (x := sc) (y := 1) hx hb dX1_arrangeSounds_102 ?_
                refine zv_put (x := (sc) + (1)) hx hb hK hts hown hP hS (hD 0 (by decide)) 2 (by decide) q_fl_RX1_36 dX1_arrangeSounds_103 (fun H locs hP hz ho hS => ?_)
                rw [zN_N] at hP
                refine lv_aload_n hx hb dX1_arrangeSounds_106 rfl (lv_at hl 3 rfl) ?_
                refine zv_get hx hb hK hts hown hP 2 (by decide) q_fl_RX1_19 (v := .ref (ad 15)) rfl dX1_arrangeSounds_107 ?_
                refine z_iconst hx hb dX1_arrangeSounds_110 ?_
                refine zv_aS hx hb hK hP (1) (by decide) (i := 1) rfl dX1_arrangeSounds_111 ?_
                refine lv_iload_n hx hb dX1_arrangeSounds_112 rfl (lv_at hl 0 rfl) ?_
                refine lv_aload_n hx hb dX1_arrangeSounds_113 rfl (lv_at hl 3 rfl) ?_
                refine zv_get hx hb hK hts hown hP 0 (by decide) q_fl_RX1_11 (v := .ref (ad 1)) rfl dX1_arrangeSounds_114 ?_
                refine z_iconst hx hb dX1_arrangeSounds_117 ?_
                refine zv_aT hx hb hK hP (0) (by decide) (i := 0) rfl dX1_arrangeSounds_118 ?_
                refine lv_iload_n hx hb dX1_arrangeSounds_119 rfl (lv_at hl 2 rfl) ?_
                refine zv_lT hx hb hK hP (0) (by decide) (i := i) (by omega) dX1_arrangeSounds_120 ?_
                refine lv_aload_n hx hb dX1_arrangeSounds_121 rfl (lv_at hl 3 rfl) ?_
                refine zv_get hx hb hK hts hown hP 0 (by decide) q_fl_RX1_11 (v := .ref (ad 1)) rfl dX1_arrangeSounds_122 ?_
                refine z_iconst hx hb dX1_arrangeSounds_125 ?_
                refine zv_aT hx hb hK hP (1) (by decide) (i := 1) rfl dX1_arrangeSounds_126 ?_
                refine lv_iload_n hx hb dX1_arrangeSounds_127 rfl (lv_at hl 2 rfl) ?_
                refine zv_lT hx hb hK hP (1) (by decide) (i := i) (by omega) dX1_arrangeSounds_128 ?_
                refine z_iadd (x := T 0 (i)) (y := T 1 (i)) hx hb dX1_arrangeSounds_129 ?_
                refine zv_sS (x := (T 0 (i)) + (T 1 (i))) hx hb hK hP hS (1) (by decide) (hD (16 + 1) (by omega)) (i := sc) (by omega) dX1_arrangeSounds_130 (fun H locs hP hz ho hS => ?_)
                refine z_iinc (lv' := [(1, .int (zI (i + 1))), (3, .int (zI (sc))), (2, .int (zI (bI (0 ≤ ((i) - (1)) ∧ ((i) - (1)) + 1 < (F 0) ∧ T 5 (((i) - (1))) = 1 ∧ T 4 (((i) - (1))) = T 4 (((i) - (1)) + 1))))), (0, .ref (ad 0))]) hx hb dX1_arrangeSounds_131 hl (k := 2) rfl (by decide) rfl (fun ls hl => ?_)
                refine lv_goto (tgt := 7) hx hb dX1_arrangeSounds_134 (by decide) ?_
                exact ih (i + 1) ((sc) + (1)) (zR (zR (zR S1 0 (sc) (T 0 (i))) 2 (sc) (T 4 (i))) 1 (sc) ((T 0 (i)) + (T 1 (i)))) (by omega) (by omega) (by rw [hs, ← h2]; simp only [soS, jn]; (repeat' split) <;> first | rfl | (exfalso; omega)) (by omega) H _ hP hS _ (lv_sub hl [0, 3] rfl)
            · skip
              refine lv_aload_n hx hb dX1_arrangeSounds_42 rfl (lv_at hl 2 rfl) ?_
              refine zv_get hx hb hK hts hown hP 7 (by decide) q_fl_RX1_36 (v := .int (zI (sc))) rfl dX1_arrangeSounds_43 ?_
              refine z_iconst hx hb dX1_arrangeSounds_46 ?_
              refine z_isub (x := sc) (y := 1) hx hb dX1_arrangeSounds_47 ?_
              refine lv_goto (tgt := 55) hx hb dX1_arrangeSounds_48 (by decide) ?_
              refine lv_istore_n (lv' := [(3, .int (zI ((sc) - (1)))), (2, .int (zI (bI (0 ≤ ((i) - (1)) ∧ ((i) - (1)) + 1 < (F 0) ∧ T 5 (((i) - (1))) = 1 ∧ T 4 (((i) - (1))) = T 4 (((i) - (1)) + 1))))), (1, .int (zI (i))), (0, .ref (ad 0))]) hx hb dX1_arrangeSounds_55 rfl hl (by decide) rfl (fun ls hl => ?_)
              refine lv_iload_n hx hb dX1_arrangeSounds_56 rfl (lv_at hl 0 rfl) ?_
              refine lv_aload_n hx hb dX1_arrangeSounds_57 rfl (lv_at hl 3 rfl) ?_
              refine zv_get hx hb hK hts hown hP 7 (by decide) q_fl_RX1_36 (v := .int (zI (sc))) rfl dX1_arrangeSounds_58 ?_
              refine z_icmp_ne (a := (sc) - (1)) (b := sc) (tgt := 106) hx hb dX1_arrangeSounds_61 (by decide) (by omega) (by omega) (fun h_61 => ?_) (fun h_61 => ?_)
              · skip
                refine lv_aload_n hx hb dX1_arrangeSounds_106 rfl (lv_at hl 3 rfl) ?_
                refine zv_get hx hb hK hts hown hP 2 (by decide) q_fl_RX1_19 (v := .ref (ad 15)) rfl dX1_arrangeSounds_107 ?_
                refine z_iconst hx hb dX1_arrangeSounds_110 ?_
                refine zv_aS hx hb hK hP (1) (by decide) (i := 1) rfl dX1_arrangeSounds_111 ?_
                refine lv_iload_n hx hb dX1_arrangeSounds_112 rfl (lv_at hl 0 rfl) ?_
                refine lv_aload_n hx hb dX1_arrangeSounds_113 rfl (lv_at hl 3 rfl) ?_
                refine zv_get hx hb hK hts hown hP 0 (by decide) q_fl_RX1_11 (v := .ref (ad 1)) rfl dX1_arrangeSounds_114 ?_
                refine z_iconst hx hb dX1_arrangeSounds_117 ?_
                refine zv_aT hx hb hK hP (0) (by decide) (i := 0) rfl dX1_arrangeSounds_118 ?_
                refine lv_iload_n hx hb dX1_arrangeSounds_119 rfl (lv_at hl 2 rfl) ?_
                refine zv_lT hx hb hK hP (0) (by decide) (i := i) (by omega) dX1_arrangeSounds_120 ?_
                refine lv_aload_n hx hb dX1_arrangeSounds_121 rfl (lv_at hl 3 rfl) ?_
                refine zv_get hx hb hK hts hown hP 0 (by decide) q_fl_RX1_11 (v := .ref (ad 1)) rfl dX1_arrangeSounds_122 ?_
                refine z_iconst hx hb dX1_arrangeSounds_125 ?_
                refine zv_aT hx hb hK hP (1) (by decide) (i := 1) rfl dX1_arrangeSounds_126 ?_
                refine lv_iload_n hx hb dX1_arrangeSounds_127 rfl (lv_at hl 2 rfl) ?_
                refine zv_lT hx hb hK hP (1) (by decide) (i := i) (by omega) dX1_arrangeSounds_128 ?_
                refine z_iadd (x := T 0 (i)) (y := T 1 (i)) hx hb dX1_arrangeSounds_129 ?_
                refine zv_sS (x := (T 0 (i)) + (T 1 (i))) hx hb hK hP hS (1) (by decide) (hD (16 + 1) (by omega)) (i := (sc) - (1)) (by omega) dX1_arrangeSounds_130 (fun H locs hP hz ho hS => ?_)
                refine z_iinc (lv' := [(1, .int (zI (i + 1))), (3, .int (zI ((sc) - (1)))), (2, .int (zI (bI (0 ≤ ((i) - (1)) ∧ ((i) - (1)) + 1 < (F 0) ∧ T 5 (((i) - (1))) = 1 ∧ T 4 (((i) - (1))) = T 4 (((i) - (1)) + 1))))), (0, .ref (ad 0))]) hx hb dX1_arrangeSounds_131 hl (k := 2) rfl (by decide) rfl (fun ls hl => ?_)
                refine lv_goto (tgt := 7) hx hb dX1_arrangeSounds_134 (by decide) ?_
                exact ih (i + 1) sc (zR S1 1 ((sc) - (1)) ((T 0 (i)) + (T 1 (i)))) (by omega) (by omega) (by rw [hs, ← h2]; simp only [soS, jn]; (repeat' split) <;> first | rfl | (exfalso; omega)) (by omega) H _ hP hS _ (lv_sub hl [0, 3] rfl)
              · skip
                refine lv_aload_n hx hb dX1_arrangeSounds_64 rfl (lv_at hl 3 rfl) ?_
                refine zv_get hx hb hK hts hown hP 2 (by decide) q_fl_RX1_19 (v := .ref (ad 15)) rfl dX1_arrangeSounds_65 ?_
                refine z_iconst hx hb dX1_arrangeSounds_68 ?_
                refine zv_aS hx hb hK hP (0) (by decide) (i := 0) rfl dX1_arrangeSounds_69 ?_
                refine lv_iload_n hx hb dX1_arrangeSounds_70 rfl (lv_at hl 0 rfl) ?_
                refine lv_aload_n hx hb dX1_arrangeSounds_71 rfl (lv_at hl 3 rfl) ?_
                refine zv_get hx hb hK hts hown hP 0 (by decide) q_fl_RX1_11 (v := .ref (ad 1)) rfl dX1_arrangeSounds_72 ?_
                refine z_iconst hx hb dX1_arrangeSounds_75 ?_
                refine zv_aT hx hb hK hP (0) (by decide) (i := 0) rfl dX1_arrangeSounds_76 ?_
                refine lv_iload_n hx hb dX1_arrangeSounds_77 rfl (lv_at hl 2 rfl) ?_
                refine zv_lT hx hb hK hP (0) (by decide) (i := i) (by omega) dX1_arrangeSounds_78 ?_
                refine zv_sS (x := T 0 (i)) hx hb hK hP hS (0) (by decide) (hD (16 + 0) (by omega)) (i := (sc) - (1)) (by omega) dX1_arrangeSounds_79 (fun H locs hP hz ho hS => ?_)
                refine lv_aload_n hx hb dX1_arrangeSounds_80 rfl (lv_at hl 3 rfl) ?_
                refine zv_get hx hb hK hts hown hP 2 (by decide) q_fl_RX1_19 (v := .ref (ad 15)) rfl dX1_arrangeSounds_81 ?_
                refine z_iconst hx hb dX1_arrangeSounds_84 ?_
                refine zv_aS hx hb hK hP (2) (by decide) (i := 2) rfl dX1_arrangeSounds_85 ?_
                refine lv_iload_n hx hb dX1_arrangeSounds_86 rfl (lv_at hl 0 rfl) ?_
                refine lv_aload_n hx hb dX1_arrangeSounds_87 rfl (lv_at hl 3 rfl) ?_
                refine zv_get hx hb hK hts hown hP 0 (by decide) q_fl_RX1_11 (v := .ref (ad 1)) rfl dX1_arrangeSounds_88 ?_
                refine z_iconst hx hb dX1_arrangeSounds_91 ?_
                refine zv_aT hx hb hK hP (4) (by decide) (i := 4) rfl dX1_arrangeSounds_92 ?_
                refine lv_iload_n hx hb dX1_arrangeSounds_93 rfl (lv_at hl 2 rfl) ?_
                refine zv_lT hx hb hK hP (4) (by decide) (i := i) (by omega) dX1_arrangeSounds_94 ?_
                refine zv_sS (x := T 4 (i)) hx hb hK hP hS (2) (by decide) (hD (16 + 2) (by omega)) (i := (sc) - (1)) (by omega) dX1_arrangeSounds_95 (fun H locs hP hz ho hS => ?_)
                refine lv_aload_n hx hb dX1_arrangeSounds_96 rfl (lv_at hl 3 rfl) ?_
                refine lv_dup hx hb dX1_arrangeSounds_97 rfl ?_
                refine zv_get hx hb hK hts hown hP 7 (by decide) q_fl_RX1_36 (v := .int (zI (sc))) rfl dX1_arrangeSounds_98 ?_
                refine z_iconst hx hb dX1_arrangeSounds_101 ?_
                refine z_iadd (x := sc) (y := 1) hx hb dX1_arrangeSounds_102 ?_
                refine zv_put (x := (sc) + (1)) hx hb hK hts hown hP hS (hD 0 (by decide)) 2 (by decide) q_fl_RX1_36 dX1_arrangeSounds_103 (fun H locs hP hz ho hS => ?_)
                rw [zN_N] at hP
                refine lv_aload_n hx hb dX1_arrangeSounds_106 rfl (lv_at hl 3 rfl) ?_
                refine zv_get hx hb hK hts hown hP 2 (by decide) q_fl_RX1_19 (v := .ref (ad 15)) rfl dX1_arrangeSounds_107 ?_
                refine z_iconst hx hb dX1_arrangeSounds_110 ?_
                refine zv_aS hx hb hK hP (1) (by decide) (i := 1) rfl dX1_arrangeSounds_111 ?_
                refine lv_iload_n hx hb dX1_arrangeSounds_112 rfl (lv_at hl 0 rfl) ?_
                refine lv_aload_n hx hb dX1_arrangeSounds_113 rfl (lv_at hl 3 rfl) ?_
                refine zv_get hx hb hK hts hown hP 0 (by decide) q_fl_RX1_11 (v := .ref (ad 1)) rfl dX1_arrangeSounds_114 ?_
                refine z_iconst hx hb dX1_arrangeSounds_117 ?_
                refine zv_aT hx hb hK hP (0) (by decide) (i := 0) rfl dX1_arrangeSounds_118 ?_
                refine lv_iload_n hx hb dX1_arrangeSounds_119 rfl (lv_at hl 2 rfl) ?_
                refine zv_lT hx hb hK hP (0) (by decide) (i := i) (by omega) dX1_arrangeSounds_120 ?_
                refine lv_aload_n hx hb dX1_arrangeSounds_121 rfl (lv_at hl 3 rfl) ?_
                refine zv_get hx hb hK hts hown hP 0 (by decide) q_fl_RX1_11 (v := .ref (ad 1)) rfl dX1_arrangeSounds_122 ?_
                refine z_iconst hx hb dX1_arrangeSounds_125 ?_
                refine zv_aT hx hb hK hP (1) (by decide) (i := 1) rfl dX1_arrangeSounds_126 ?_
                refine lv_iload_n hx hb dX1_arrangeSounds_127 rfl (lv_at hl 2 rfl) ?_
                refine zv_lT hx hb hK hP (1) (by decide) (i := i) (by omega) dX1_arrangeSounds_128 ?_
                refine z_iadd (x := T 0 (i)) (y := T 1 (i)) hx hb dX1_arrangeSounds_129 ?_
                refine zv_sS (x := (T 0 (i)) + (T 1 (i))) hx hb hK hP hS (1) (by decide) (hD (16 + 1) (by omega)) (i := (sc) - (1)) (by omega) dX1_arrangeSounds_130 (fun H locs hP hz ho hS => ?_)
                refine z_iinc (lv' := [(1, .int (zI (i + 1))), (3, .int (zI ((sc) - (1)))), (2, .int (zI (bI (0 ≤ ((i) - (1)) ∧ ((i) - (1)) + 1 < (F 0) ∧ T 5 (((i) - (1))) = 1 ∧ T 4 (((i) - (1))) = T 4 (((i) - (1)) + 1))))), (0, .ref (ad 0))]) hx hb dX1_arrangeSounds_131 hl (k := 2) rfl (by decide) rfl (fun ls hl => ?_)
                refine lv_goto (tgt := 7) hx hb dX1_arrangeSounds_134 (by decide) ?_
                exact ih (i + 1) ((sc) + (1)) (zR (zR (zR S1 0 ((sc) - (1)) (T 0 (i))) 2 ((sc) - (1)) (T 4 (i))) 1 ((sc) - (1)) ((T 0 (i)) + (T 1 (i)))) (by omega) (by omega) (by rw [hs, ← h2]; simp only [soS, jn]; (repeat' split) <;> first | rfl | (exfalso; omega)) (by omega) H _ hP hS _ (lv_sub hl [0, 3] rfl)
  exact lp_7 201 0 0 S (by omega) (by omega) rfl (by omega) H _ hP hS _ (lv_sub hl [0, 1] rfl)
set_option maxHeartbeats 2000000 in
theorem c_X1_arrangeSigns (l : Launch) (G : zG) (ad : Nat → Nat) (T P S A : Nat → Int → Int) (F : Nat → Int) (key : Int) (sz : Nat) (hk : -7 ≤ key ∧ key ≤ 7) (hV : VOK T P (F 0)) (hVA : ∀ p, 0 ≤ p → p < 63 → -2 ≤ A 1 p ∧ A 1 p ≤ 2) : MW l yX1_arrangeSigns cX1_arrangeSigns 5 none 2 42 (0) (0) G [.ref (ad 0), .int (zI (key))] (fA 21 ad sz) sz (VP G ad T P S A F) (QV (fA 21 ad sz) (fun H => VP G ad (zW T 7 (sgF (T 5) (T 4) (T 6) (P 0) (P 1) (P 2) (F 0) key (T 7) (zW A 0 (fillM (A 0) 63)) (F 0)).1) P S (sgF (T 5) (T 4) (T 6) (P 0) (P 1) (P 2) (F 0) key (T 7) (zW A 0 (fillM (A 0) 63)) (F 0)).2.1 (zN F 4 (sgF (T 5) (T 4) (T 6) (P 0) (P 1) (P 2) (F 0) key (T 7) (zW A 0 (fillM (A 0) 63)) (F 0)).2.2) H)) := by
  refine mw_of hp_X1_arrangeSigns (Nat.le_of_ble_eq_true rfl) ?_
  intro p env s m below meth c ls hB hsz hP hl
  obtain ⟨hx, hb, hml, hr, hlk, hown, hts, hG⟩ := hB
  subst hsz
  have hK := hG.1
  have hS : va_S (fA 21 ad s.heap.size) s.heap s.heap [] := va_S.rf
  have hA : ∀ q : Nat, (fA 21 ad s.heap.size) q → G.2.2 ≤ q := fA_lo hP.1.2 hG.2.1
  have hD : ∀ k, k < 21 → (fA 21 ad s.heap.size) (ad k) := fun k hk => fA_in hk
  have hl : lv_has ls 5 [(0, .ref (ad 0)), (1, .int (zI (key)))] := hl
  have hn1 := hV.1
  have hn2 := hV.2.1
  refine lv_aload_n hx hb dX1_arrangeSigns_0 rfl (lv_at hl 0 rfl) ?_
  refine z_iconst hx hb dX1_arrangeSigns_1 ?_
  refine zv_put (x := 0) hx hb hK hts hown hP hS (hD 0 (by decide)) 4 (by decide) q_fl_RX1_42 dX1_arrangeSigns_2 (fun H locs hP hz ho hS => ?_)
  refine z_iconst hx hb dX1_arrangeSigns_5 ?_
  refine lv_istore_n (lv' := [(2, .int (zI (0))), (0, .ref (ad 0)), (1, .int (zI (key)))]) hx hb dX1_arrangeSigns_6 rfl hl (by decide) rfl (fun ls hl => ?_)
  have hP : VP G ad T P S (zW A 0 (fillM (A 0) 0)) (zN F 4 0) H := by rw [fillM_0, zW_id]; exact hP
  have lp_7 : ∀ (n : Nat) (i : Int), 0 ≤ i → i ≤ 63 → 63 - i < n → ∀ (H : Heap) (locs : List Loc), VP G ad T P S (zW A 0 (fillM (A 0) i)) (zN F 4 (0)) H → va_S (fA 21 ad s.heap.size) s.heap H locs → ∀ (ls : Array Slot), lv_has ls 5 [(2, .int (zI (i))), (0, .ref (ad 0)), (1, .int (zI (key)))] → W p l env (rmz 2 42 0 0) s m (([.ref (ad 0), .int (zI (key))] : List Value).toArray) below meth c H locs 0 0 (MQ below (QV (fA 21 ad s.heap.size) (fun H => VP G ad (zW T 7 (sgF (T 5) (T 4) (T 6) (P 0) (P 1) (P 2) (F 0) key (T 7) (zW A 0 (fillM (A 0) 63)) (F 0)).1) P S (sgF (T 5) (T 4) (T 6) (P 0) (P 1) (P 2) (F 0) key (T 7) (zW A 0 (fillM (A 0) 63)) (F 0)).2.1 (zN F 4 (sgF (T 5) (T 4) (T 6) (P 0) (P 1) (P 2) (F 0) key (T 7) (zW A 0 (fillM (A 0) 63)) (F 0)).2.2) H)) (([.ref (ad 0), .int (zI (key))] : List Value).toArray) s 0 0 (fA 21 ad s.heap.size)) (F0 m 7 ls []) := by
    intro n
    induction n with
    | zero => intro i h0 h1 hm H locs hP hS ls hl; exact absurd hm (by omega)
    | succ n ih =>
      intro i h0 h1 hm H locs hP hS ls hl
      refine lv_iload_n hx hb dX1_arrangeSigns_7 rfl (lv_at hl 0 rfl) ?_
      refine lv_aload_n hx hb dX1_arrangeSigns_8 rfl (lv_at hl 1 rfl) ?_
      refine zv_get hx hb hK hts hown hP 3 (by decide) q_fl_RX1_22 (v := .ref (ad 19)) rfl dX1_arrangeSigns_9 ?_
      refine zv_nA hx hb hK hP 0 (by decide) dX1_arrangeSigns_12 ?_
      refine z_icmp_ge (a := i) (b := 63) (tgt := 29) hx hb dX1_arrangeSigns_13 (by decide) (by omega) (by omega) (fun h_13 => ?_) (fun h_13 => ?_)
      · skip
        refine z_iconst hx hb dX1_arrangeSigns_29 ?_
        refine lv_istore_n (lv' := [(2, .int (zI (0))), (0, .ref (ad 0)), (1, .int (zI (key)))]) hx hb dX1_arrangeSigns_30 rfl hl (by decide) rfl (fun ls hl => ?_)
        have h9 : i = 63 := by omega
        rw [h9] at hP
        have hP : VP G ad (zW T 7 (T 7)) P S (zW A 0 (fillM (A 0) 63)) (zN F 4 0) H := by rw [zW_id]; exact hP
        have hf9 : ∀ p, 0 ≤ p → p < 63 → -1 ≤ zW A 0 (fillM (A 0) 63) 0 p ∧ zW A 0 (fillM (A 0) 63) 0 p ≤ 1000 ∧ -2 ≤ zW A 0 (fillM (A 0) 63) 1 p ∧ zW A 0 (fillM (A 0) 63) 1 p ≤ 2 := fun p q0 q1 => by
          have e1 : zW A 0 (fillM (A 0) 63) 0 p = -1 := if_pos ⟨q0, q1⟩
          have e2 : zW A 0 (fillM (A 0) 63) 1 p = A 1 p := rfl
          have q2 := hVA p q0 q1
          rw [e1, e2]; omega
        have lp_31 : ∀ (n : Nat) (i c9 : Int) (sh : Int → Int) (A1 : Nat → Int → Int), 0 ≤ i → i ≤ F 0 → (sh, A1, c9) = sgF (T 5) (T 4) (T 6) (P 0) (P 1) (P 2) (F 0) key (T 7) (zW A 0 (fillM (A 0) 63)) i → (∀ p, 0 ≤ p → p < 63 → -1 ≤ A1 0 p ∧ A1 0 p ≤ 1000 ∧ -2 ≤ A1 1 p ∧ A1 1 p ≤ 2) → F 0 - i < n → ∀ (H : Heap) (locs : List Loc), VP G ad (zW T 7 sh) P S A1 (zN F 4 (c9)) H → va_S (fA 21 ad s.heap.size) s.heap H locs → ∀ (ls : Array Slot), lv_has ls 5 [(2, .int (zI (i))), (0, .ref (ad 0)), (1, .int (zI (key)))] → W p l env (rmz 2 42 0 0) s m (([.ref (ad 0), .int (zI (key))] : List Value).toArray) below meth c H locs 0 0 (MQ below (QV (fA 21 ad s.heap.size) (fun H => VP G ad (zW T 7 (sgF (T 5) (T 4) (T 6) (P 0) (P 1) (P 2) (F 0) key (T 7) (zW A 0 (fillM (A 0) 63)) (F 0)).1) P S (sgF (T 5) (T 4) (T 6) (P 0) (P 1) (P 2) (F 0) key (T 7) (zW A 0 (fillM (A 0) 63)) (F 0)).2.1 (zN F 4 (sgF (T 5) (T 4) (T 6) (P 0) (P 1) (P 2) (F 0) key (T 7) (zW A 0 (fillM (A 0) 63)) (F 0)).2.2) H)) (([.ref (ad 0), .int (zI (key))] : List Value).toArray) s 0 0 (fA 21 ad s.heap.size)) (F0 m 31 ls []) := by
          intro n
          induction n with
          | zero => intro i c9 sh A1 h0 h1 h2 h3 hm H locs hP hS ls hl; exact absurd hm (by omega)
          | succ n ih =>
            intro i c9 sh A1 h0 h1 h2 h3 hm H locs hP hS ls hl
            have hs : sgF (T 5) (T 4) (T 6) (P 0) (P 1) (P 2) (F 0) key (T 7) (zW A 0 (fillM (A 0) 63)) (i + 1) = sgS (T 5) (T 4) (T 6) (P 0) (P 1) (P 2) (F 0) key i (sgF (T 5) (T 4) (T 6) (P 0) (P 1) (P 2) (F 0) key (T 7) (zW A 0 (fillM (A 0) 63)) i) := pf_s _ _ h0
            refine lv_iload_n hx hb dX1_arrangeSigns_31 rfl (lv_at hl 0 rfl) ?_
            refine lv_aload_n hx hb dX1_arrangeSigns_32 rfl (lv_at hl 1 rfl) ?_
            refine zv_get hx hb hK hts hown hP 5 (by decide) q_fl_RX1_29 (v := .int (zI (F 0))) rfl dX1_arrangeSigns_33 ?_
            refine z_icmp_ge (a := i) (b := F 0) (tgt := 182) hx hb dX1_arrangeSigns_36 (by decide) (by omega) (by omega) (fun h_36 => ?_) (fun h_36 => ?_)
            · skip
              exact e_Wv hx hb hr hlk hS (by omega) (by omega) (by have h9 : F 0 = i := (by omega); rw [h9] at h2 ⊢; rw [← h2]; exact hP) dX1_arrangeSigns_182
            · skip
              have hv := hV.2.2.1 i (by omega) (by omega)
              have hp := hV.2.2.2 i (by omega) (by omega)
              refine lv_aload_n hx hb dX1_arrangeSigns_39 rfl (lv_at hl 1 rfl) ?_
              refine zv_get hx hb hK hts hown hP 0 (by decide) q_fl_RX1_11 (v := .ref (ad 1)) rfl dX1_arrangeSigns_40 ?_
              refine z_bipush hx hb dX1_arrangeSigns_43 (by decide) ?_
              refine zv_aT hx hb hK hP (7) (by decide) (i := 7) rfl dX1_arrangeSigns_45 ?_
              refine lv_iload_n hx hb dX1_arrangeSigns_46 rfl (lv_at hl 0 rfl) ?_
              refine z_iconst hx hb dX1_arrangeSigns_47 ?_
              refine zv_sT (x := 0) hx hb hK hP hS (7) (by decide) (hD (2 + 7) (by omega)) (i := i) (by omega) dX1_arrangeSigns_48 (fun H locs hP hz ho hS => ?_)
              rw [zW_R] at hP
              refine lv_aload_n hx hb dX1_arrangeSigns_49 rfl (lv_at hl 1 rfl) ?_
              refine lv_iload_n hx hb dX1_arrangeSigns_50 rfl (lv_at hl 0 rfl) ?_
              refine k_R (c_VR (As := [.int (zI (i))]) (rest := []) ⟨hx, hb, hml, hown, hts⟩ hG hS hA (c_X1_isNote l G ad (zW T 7 (zU sh (i) (0))) P S A1 (zN F 4 (c9)) i (show 0 ≤ i ∧ i < 200 by omega) (show -2147483648 ≤ T 4 i ∧ T 4 i ≤ 2147483647 by omega)) ⟨q_ml_RX1_76, q_im_X1_isNote, q_sel_X1_isNote, q_ini_RX1, q_code_X1_isNote⟩ hv_X1_isNote (VP.rec hK hP) hP ⟨by decide, by decide⟩ ⟨Nat.zero_le _, Nat.zero_le _⟩ rfl hl.1 rfl (Nat.le_of_ble_eq_true rfl) dX1_arrangeSigns_51) ?_
              refine z_bif_eq (q := ¬ T 4 i = -1) (tgt := 176) hx hb dX1_arrangeSigns_54 (by decide) (fun h_54 => ?_) (fun h_54 => ?_)
              · skip
                refine z_iinc (lv' := [(2, .int (zI (i + 1))), (0, .ref (ad 0)), (1, .int (zI (key)))]) hx hb dX1_arrangeSigns_176 hl (k := 0) rfl (by decide) rfl (fun ls hl => ?_)
                refine lv_goto (tgt := 31) hx hb dX1_arrangeSigns_179 (by decide) ?_
                exact ih (i + 1) c9 ((zU sh (i) (0))) A1 (by omega) (by omega) (by rw [hs, ← h2]; simp only [sgS, jn]; (repeat' split) <;> first | rfl | (exfalso; omega)) (by first | exact h3 | exact zR2_rng h3 (by omega) (by omega)) (by omega) H _ hP hS _ (lv_sub hl [0, 1, 2] rfl)
              · skip
                refine lv_aload_n hx hb dX1_arrangeSigns_57 rfl (lv_at hl 1 rfl) ?_
                refine lv_iload_n hx hb dX1_arrangeSigns_58 rfl (lv_at hl 0 rfl) ?_
                refine k_R (c_VR (As := [.int (zI (i))]) (rest := []) ⟨hx, hb, hml, hown, hts⟩ hG hS hA (c_X1_placeOf l G ad (zW T 7 (zU sh (i) (0))) P S A1 (zN F 4 (c9)) i (show 0 ≤ i ∧ i < 200 by omega)) ⟨q_ml_RX1_68, q_im_X1_placeOf, q_sel_X1_placeOf, q_ini_RX1, q_code_X1_placeOf⟩ hv_X1_placeOf (VP.rec hK hP) hP ⟨by decide, by decide⟩ ⟨Nat.zero_le _, Nat.zero_le _⟩ rfl hl.1 rfl (Nat.le_of_ble_eq_true rfl) dX1_arrangeSigns_59) ?_
                refine lv_istore_n (lv' := [(3, .int (zI (7 * P 2 i + P 0 i))), (2, .int (zI (i))), (0, .ref (ad 0)), (1, .int (zI (key)))]) hx hb dX1_arrangeSigns_62 rfl hl (by decide) rfl (fun ls hl => ?_)
                have ha9 := h3 (7 * P 2 i + P 0 i) (by omega) (by omega)
                refine lv_aload_n hx hb dX1_arrangeSigns_63 rfl (lv_at hl 2 rfl) ?_
                refine zv_get hx hb hK hts hown hP 3 (by decide) q_fl_RX1_22 (v := .ref (ad 19)) rfl dX1_arrangeSigns_64 ?_
                refine lv_iload_n hx hb dX1_arrangeSigns_67 rfl (lv_at hl 0 rfl) ?_
                refine zv_lA hx hb hK hP 0 (by decide) (i := 7 * P 2 i + P 0 i) (by omega) dX1_arrangeSigns_68 ?_
                refine lv_aload_n hx hb dX1_arrangeSigns_69 rfl (lv_at hl 2 rfl) ?_
                refine zv_get hx hb hK hts hown hP 0 (by decide) q_fl_RX1_11 (v := .ref (ad 1)) rfl dX1_arrangeSigns_70 ?_
                refine z_bipush hx hb dX1_arrangeSigns_73 (by decide) ?_
                refine zv_aT hx hb hK hP (6) (by decide) (i := 6) rfl dX1_arrangeSigns_75 ?_
                refine lv_iload_n hx hb dX1_arrangeSigns_76 rfl (lv_at hl 1 rfl) ?_
                refine zv_lT hx hb hK hP (6) (by decide) (i := i) (by omega) dX1_arrangeSigns_77 ?_
                refine z_icmp_ne (a := A1 0 (7 * P 2 i + P 0 i)) (b := T 6 (i)) (tgt := 90) hx hb dX1_arrangeSigns_78 (by decide) (by omega) (by omega) (fun h_78 => ?_) (fun h_78 => ?_)
                · skip
                  refine lv_iload_n hx hb dX1_arrangeSigns_90 rfl (lv_at hl 3 rfl) ?_
                  refine lv_aload_n hx hb dX1_arrangeSigns_91 rfl (lv_at hl 2 rfl) ?_
                  refine zv_get hx hb hK hts hown hP 1 (by decide) q_fl_RX1_16 (v := .ref (ad 11)) rfl dX1_arrangeSigns_92 ?_
                  refine z_iconst hx hb dX1_arrangeSigns_95 ?_
                  refine zv_aP hx hb hK hP (0) (by decide) (i := 0) rfl dX1_arrangeSigns_96 ?_
                  refine lv_iload_n hx hb dX1_arrangeSigns_97 rfl (lv_at hl 1 rfl) ?_
                  refine zv_lP hx hb hK hP (0) (by decide) (i := i) (by omega) dX1_arrangeSigns_98 ?_
                  refine k_R (c_NR (host := RX2) (As := [.int (zI (key)), .int (zI (P 0 (i)))]) (rest := []) ⟨hx, hb, hml, hown, hts⟩ hG hS hA (c_X2_signOfKey l G key (P 0 (i)) (show -7 ≤ key ∧ key ≤ 7 by omega) (show 0 ≤ (P 0 (i)) ∧ (P 0 (i)) < 7 by omega)) ⟨by decide, q_st_X2_signOfKey, q_ini_RX2, q_code_X2_signOfKey⟩ hs_X2_signOfKey trivial ⟨by decide, by decide⟩ ⟨Nat.zero_le _, Nat.zero_le _⟩ rfl hl.1 rfl (Nat.le_of_ble_eq_true rfl) dX1_arrangeSigns_99) ?_
                  have h8 := sgK_rng key (P 0 i)
                  refine lv_istore (lv' := [(4, .int (zI (sgK key (P 0 (i))))), (3, .int (zI (7 * P 2 i + P 0 i))), (2, .int (zI (i))), (0, .ref (ad 0)), (1, .int (zI (key)))]) hx hb dX1_arrangeSigns_102 hl (by decide) rfl (fun ls hl => ?_)
                  refine lv_iload hx hb dX1_arrangeSigns_104 (lv_at hl 0 rfl) ?_
                  refine lv_aload_n hx hb dX1_arrangeSigns_106 rfl (lv_at hl 3 rfl) ?_
                  refine zv_get hx hb hK hts hown hP 1 (by decide) q_fl_RX1_16 (v := .ref (ad 11)) rfl dX1_arrangeSigns_107 ?_
                  refine z_iconst hx hb dX1_arrangeSigns_110 ?_
                  refine zv_aP hx hb hK hP (1) (by decide) (i := 1) rfl dX1_arrangeSigns_111 ?_
                  refine lv_iload_n hx hb dX1_arrangeSigns_112 rfl (lv_at hl 2 rfl) ?_
                  refine zv_lP hx hb hK hP (1) (by decide) (i := i) (by omega) dX1_arrangeSigns_113 ?_
                  refine z_icmp_eq (a := sgK key (P 0 (i))) (b := P 1 (i)) (tgt := 147) hx hb dX1_arrangeSigns_114 (by decide) (by omega) (by omega) (fun h_114 => ?_) (fun h_114 => ?_)
                  · skip
                    refine lv_aload_n hx hb dX1_arrangeSigns_147 rfl (lv_at hl 3 rfl) ?_
                    refine zv_get hx hb hK hts hown hP 3 (by decide) q_fl_RX1_22 (v := .ref (ad 19)) rfl dX1_arrangeSigns_148 ?_
                    refine lv_iload_n hx hb dX1_arrangeSigns_151 rfl (lv_at hl 1 rfl) ?_
                    refine lv_aload_n hx hb dX1_arrangeSigns_152 rfl (lv_at hl 3 rfl) ?_
                    refine zv_get hx hb hK hts hown hP 0 (by decide) q_fl_RX1_11 (v := .ref (ad 1)) rfl dX1_arrangeSigns_153 ?_
                    refine z_bipush hx hb dX1_arrangeSigns_156 (by decide) ?_
                    refine zv_aT hx hb hK hP (6) (by decide) (i := 6) rfl dX1_arrangeSigns_158 ?_
                    refine lv_iload_n hx hb dX1_arrangeSigns_159 rfl (lv_at hl 2 rfl) ?_
                    refine zv_lT hx hb hK hP (6) (by decide) (i := i) (by omega) dX1_arrangeSigns_160 ?_
                    refine zv_sA (x := T 6 (i)) hx hb hK hP hS (0) (by decide) (hD (19 + 0) (by omega)) (i := 7 * P 2 i + P 0 i) (by omega) dX1_arrangeSigns_161 (fun H locs hP hz ho hS => ?_)
                    refine lv_aload_n hx hb dX1_arrangeSigns_162 rfl (lv_at hl 3 rfl) ?_
                    refine zv_get hx hb hK hts hown hP 4 (by decide) q_fl_RX1_26 (v := .ref (ad 20)) rfl dX1_arrangeSigns_163 ?_
                    refine lv_iload_n hx hb dX1_arrangeSigns_166 rfl (lv_at hl 1 rfl) ?_
                    refine lv_aload_n hx hb dX1_arrangeSigns_167 rfl (lv_at hl 3 rfl) ?_
                    refine zv_get hx hb hK hts hown hP 1 (by decide) q_fl_RX1_16 (v := .ref (ad 11)) rfl dX1_arrangeSigns_168 ?_
                    refine z_iconst hx hb dX1_arrangeSigns_171 ?_
                    refine zv_aP hx hb hK hP (1) (by decide) (i := 1) rfl dX1_arrangeSigns_172 ?_
                    refine lv_iload_n hx hb dX1_arrangeSigns_173 rfl (lv_at hl 2 rfl) ?_
                    refine zv_lP hx hb hK hP (1) (by decide) (i := i) (by omega) dX1_arrangeSigns_174 ?_
                    refine zv_sA (x := P 1 (i)) hx hb hK hP hS (1) (by decide) (hD (19 + 1) (by omega)) (i := 7 * P 2 i + P 0 i) (by omega) dX1_arrangeSigns_175 (fun H locs hP hz ho hS => ?_)
                    refine z_iinc (lv' := [(2, .int (zI (i + 1))), (4, .int (zI (sgK key (P 0 (i))))), (3, .int (zI (7 * P 2 i + P 0 i))), (0, .ref (ad 0)), (1, .int (zI (key)))]) hx hb dX1_arrangeSigns_176 hl (k := 2) rfl (by decide) rfl (fun ls hl => ?_)
                    refine lv_goto (tgt := 31) hx hb dX1_arrangeSigns_179 (by decide) ?_
                    exact ih (i + 1) c9 ((zU sh (i) (0))) (zR (zR A1 0 (7 * P 2 i + P 0 i) (T 6 (i))) 1 (7 * P 2 i + P 0 i) (P 1 (i))) (by omega) (by omega) (by rw [hs, ← h2]; simp only [sgS, jn]; (repeat' split) <;> first | rfl | (exfalso; omega)) (by first | exact h3 | exact zR2_rng h3 (by omega) (by omega)) (by omega) H _ hP hS _ (lv_sub hl [0, 3, 4] rfl)
                  · skip
                    refine lv_aload_n hx hb dX1_arrangeSigns_117 rfl (lv_at hl 3 rfl) ?_
                    refine lv_iload_n hx hb dX1_arrangeSigns_118 rfl (lv_at hl 2 rfl) ?_
                    refine z_iconst hx hb dX1_arrangeSigns_119 ?_
                    refine z_isub (x := i) (y := 1) hx hb dX1_arrangeSigns_120 ?_
                    refine k_R (c_VR (As := [.int (zI ((i) - (1)))]) (rest := []) ⟨hx, hb, hml, hown, hts⟩ hG hS hA (c_X1_isJoinedToNext l G ad (zW T 7 (zU sh (i) (0))) P S A1 (zN F 4 (c9)) ((i) - (1)) (show -1 ≤ ((i) - (1)) ∧ ((i) - (1)) < 200 by omega) hV) ⟨q_ml_RX1_93, q_im_X1_isJoinedToNext, q_sel_X1_isJoinedToNext, q_ini_RX1, q_code_X1_isJoinedToNext⟩ hv_X1_isJoinedToNext (VP.rec hK hP) hP ⟨by decide, by decide⟩ ⟨Nat.zero_le _, Nat.zero_le _⟩ rfl hl.1 rfl (Nat.le_of_ble_eq_true rfl) dX1_arrangeSigns_121) ?_
                    refine z_bif_ne (q := 0 ≤ ((i) - (1)) ∧ ((i) - (1)) + 1 < (F 0) ∧ T 5 (((i) - (1))) = 1 ∧ T 4 (((i) - (1))) = T 4 (((i) - (1)) + 1)) (tgt := 147) hx hb dX1_arrangeSigns_124 (by decide) (fun h_124 => ?_) (fun h_124 => ?_)
                    · skip
                      refine lv_aload_n hx hb dX1_arrangeSigns_147 rfl (lv_at hl 3 rfl) ?_
                      refine zv_get hx hb hK hts hown hP 3 (by decide) q_fl_RX1_22 (v := .ref (ad 19)) rfl dX1_arrangeSigns_148 ?_
                      refine lv_iload_n hx hb dX1_arrangeSigns_151 rfl (lv_at hl 1 rfl) ?_
                      refine lv_aload_n hx hb dX1_arrangeSigns_152 rfl (lv_at hl 3 rfl) ?_
                      refine zv_get hx hb hK hts hown hP 0 (by decide) q_fl_RX1_11 (v := .ref (ad 1)) rfl dX1_arrangeSigns_153 ?_
                      refine z_bipush hx hb dX1_arrangeSigns_156 (by decide) ?_
                      refine zv_aT hx hb hK hP (6) (by decide) (i := 6) rfl dX1_arrangeSigns_158 ?_
                      refine lv_iload_n hx hb dX1_arrangeSigns_159 rfl (lv_at hl 2 rfl) ?_
                      refine zv_lT hx hb hK hP (6) (by decide) (i := i) (by omega) dX1_arrangeSigns_160 ?_
                      refine zv_sA (x := T 6 (i)) hx hb hK hP hS (0) (by decide) (hD (19 + 0) (by omega)) (i := 7 * P 2 i + P 0 i) (by omega) dX1_arrangeSigns_161 (fun H locs hP hz ho hS => ?_)
                      refine lv_aload_n hx hb dX1_arrangeSigns_162 rfl (lv_at hl 3 rfl) ?_
                      refine zv_get hx hb hK hts hown hP 4 (by decide) q_fl_RX1_26 (v := .ref (ad 20)) rfl dX1_arrangeSigns_163 ?_
                      refine lv_iload_n hx hb dX1_arrangeSigns_166 rfl (lv_at hl 1 rfl) ?_
                      refine lv_aload_n hx hb dX1_arrangeSigns_167 rfl (lv_at hl 3 rfl) ?_
                      refine zv_get hx hb hK hts hown hP 1 (by decide) q_fl_RX1_16 (v := .ref (ad 11)) rfl dX1_arrangeSigns_168 ?_
                      refine z_iconst hx hb dX1_arrangeSigns_171 ?_
                      refine zv_aP hx hb hK hP (1) (by decide) (i := 1) rfl dX1_arrangeSigns_172 ?_
                      refine lv_iload_n hx hb dX1_arrangeSigns_173 rfl (lv_at hl 2 rfl) ?_
                      refine zv_lP hx hb hK hP (1) (by decide) (i := i) (by omega) dX1_arrangeSigns_174 ?_
                      refine zv_sA (x := P 1 (i)) hx hb hK hP hS (1) (by decide) (hD (19 + 1) (by omega)) (i := 7 * P 2 i + P 0 i) (by omega) dX1_arrangeSigns_175 (fun H locs hP hz ho hS => ?_)
                      refine z_iinc (lv' := [(2, .int (zI (i + 1))), (4, .int (zI (sgK key (P 0 (i))))), (3, .int (zI (7 * P 2 i + P 0 i))), (0, .ref (ad 0)), (1, .int (zI (key)))]) hx hb dX1_arrangeSigns_176 hl (k := 2) rfl (by decide) rfl (fun ls hl => ?_)
                      refine lv_goto (tgt := 31) hx hb dX1_arrangeSigns_179 (by decide) ?_
                      exact ih (i + 1) c9 ((zU sh (i) (0))) (zR (zR A1 0 (7 * P 2 i + P 0 i) (T 6 (i))) 1 (7 * P 2 i + P 0 i) (P 1 (i))) (by omega) (by omega) (by rw [hs, ← h2]; simp only [sgS, jn]; (repeat' split) <;> first | rfl | (exfalso; omega)) (by first | exact h3 | exact zR2_rng h3 (by omega) (by omega)) (by omega) H _ hP hS _ (lv_sub hl [0, 3, 4] rfl)
                    · skip
                      refine lv_aload_n hx hb dX1_arrangeSigns_127 rfl (lv_at hl 3 rfl) ?_
                      refine zv_get hx hb hK hts hown hP 0 (by decide) q_fl_RX1_11 (v := .ref (ad 1)) rfl dX1_arrangeSigns_128 ?_
                      refine z_bipush hx hb dX1_arrangeSigns_131 (by decide) ?_
                      refine zv_aT hx hb hK hP (7) (by decide) (i := 7) rfl dX1_arrangeSigns_133 ?_
                      refine lv_iload_n hx hb dX1_arrangeSigns_134 rfl (lv_at hl 2 rfl) ?_
                      refine z_iconst hx hb dX1_arrangeSigns_135 ?_
                      refine zv_sT (x := 1) hx hb hK hP hS (7) (by decide) (hD (2 + 7) (by omega)) (i := i) (by omega) dX1_arrangeSigns_136 (fun H locs hP hz ho hS => ?_)
                      rw [zW_R] at hP
                      refine lv_aload_n hx hb dX1_arrangeSigns_137 rfl (lv_at hl 3 rfl) ?_
                      refine lv_dup hx hb dX1_arrangeSigns_138 rfl ?_
                      refine zv_get hx hb hK hts hown hP 9 (by decide) q_fl_RX1_42 (v := .int (zI (c9))) rfl dX1_arrangeSigns_139 ?_
                      refine z_iconst hx hb dX1_arrangeSigns_142 ?_
                      refine z_iadd (x := c9) (y := 1) hx hb dX1_arrangeSigns_143 ?_
                      refine zv_put (x := (c9) + (1)) hx hb hK hts hown hP hS (hD 0 (by decide)) 4 (by decide) q_fl_RX1_42 dX1_arrangeSigns_144 (fun H locs hP hz ho hS => ?_)
                      rw [zN_N] at hP
                      refine lv_aload_n hx hb dX1_arrangeSigns_147 rfl (lv_at hl 3 rfl) ?_
                      refine zv_get hx hb hK hts hown hP 3 (by decide) q_fl_RX1_22 (v := .ref (ad 19)) rfl dX1_arrangeSigns_148 ?_
                      refine lv_iload_n hx hb dX1_arrangeSigns_151 rfl (lv_at hl 1 rfl) ?_
                      refine lv_aload_n hx hb dX1_arrangeSigns_152 rfl (lv_at hl 3 rfl) ?_
                      refine zv_get hx hb hK hts hown hP 0 (by decide) q_fl_RX1_11 (v := .ref (ad 1)) rfl dX1_arrangeSigns_153 ?_
                      refine z_bipush hx hb dX1_arrangeSigns_156 (by decide) ?_
                      refine zv_aT hx hb hK hP (6) (by decide) (i := 6) rfl dX1_arrangeSigns_158 ?_
                      refine lv_iload_n hx hb dX1_arrangeSigns_159 rfl (lv_at hl 2 rfl) ?_
                      refine zv_lT hx hb hK hP (6) (by decide) (i := i) (by omega) dX1_arrangeSigns_160 ?_
                      refine zv_sA (x := T 6 (i)) hx hb hK hP hS (0) (by decide) (hD (19 + 0) (by omega)) (i := 7 * P 2 i + P 0 i) (by omega) dX1_arrangeSigns_161 (fun H locs hP hz ho hS => ?_)
                      refine lv_aload_n hx hb dX1_arrangeSigns_162 rfl (lv_at hl 3 rfl) ?_
                      refine zv_get hx hb hK hts hown hP 4 (by decide) q_fl_RX1_26 (v := .ref (ad 20)) rfl dX1_arrangeSigns_163 ?_
                      refine lv_iload_n hx hb dX1_arrangeSigns_166 rfl (lv_at hl 1 rfl) ?_
                      refine lv_aload_n hx hb dX1_arrangeSigns_167 rfl (lv_at hl 3 rfl) ?_
                      refine zv_get hx hb hK hts hown hP 1 (by decide) q_fl_RX1_16 (v := .ref (ad 11)) rfl dX1_arrangeSigns_168 ?_
                      refine z_iconst hx hb dX1_arrangeSigns_171 ?_
                      refine zv_aP hx hb hK hP (1) (by decide) (i := 1) rfl dX1_arrangeSigns_172 ?_
                      refine lv_iload_n hx hb dX1_arrangeSigns_173 rfl (lv_at hl 2 rfl) ?_
                      refine zv_lP hx hb hK hP (1) (by decide) (i := i) (by omega) dX1_arrangeSigns_174 ?_
                      refine zv_sA (x := P 1 (i)) hx hb hK hP hS (1) (by decide) (hD (19 + 1) (by omega)) (i := 7 * P 2 i + P 0 i) (by omega) dX1_arrangeSigns_175 (fun H locs hP hz ho hS => ?_)
                      refine z_iinc (lv' := [(2, .int (zI (i + 1))), (4, .int (zI (sgK key (P 0 (i))))), (3, .int (zI (7 * P 2 i + P 0 i))), (0, .ref (ad 0)), (1, .int (zI (key)))]) hx hb dX1_arrangeSigns_176 hl (k := 2) rfl (by decide) rfl (fun ls hl => ?_)
                      refine lv_goto (tgt := 31) hx hb dX1_arrangeSigns_179 (by decide) ?_
                      exact ih (i + 1) ((c9) + (1)) ((zU (zU sh (i) (0)) (i) (1))) (zR (zR A1 0 (7 * P 2 i + P 0 i) (T 6 (i))) 1 (7 * P 2 i + P 0 i) (P 1 (i))) (by omega) (by omega) (by rw [hs, ← h2]; simp only [sgS, jn]; (repeat' split) <;> first | rfl | (exfalso; omega)) (by first | exact h3 | exact zR2_rng h3 (by omega) (by omega)) (by omega) H _ hP hS _ (lv_sub hl [0, 3, 4] rfl)
                · skip
                  refine lv_aload_n hx hb dX1_arrangeSigns_81 rfl (lv_at hl 2 rfl) ?_
                  refine zv_get hx hb hK hts hown hP 4 (by decide) q_fl_RX1_26 (v := .ref (ad 20)) rfl dX1_arrangeSigns_82 ?_
                  refine lv_iload_n hx hb dX1_arrangeSigns_85 rfl (lv_at hl 0 rfl) ?_
                  refine zv_lA hx hb hK hP 1 (by decide) (i := 7 * P 2 i + P 0 i) (by omega) dX1_arrangeSigns_86 ?_
                  refine lv_goto (tgt := 102) hx hb dX1_arrangeSigns_87 (by decide) ?_
                  refine lv_istore (lv' := [(4, .int (zI (A1 1 (7 * P 2 i + P 0 i)))), (3, .int (zI (7 * P 2 i + P 0 i))), (2, .int (zI (i))), (0, .ref (ad 0)), (1, .int (zI (key)))]) hx hb dX1_arrangeSigns_102 hl (by decide) rfl (fun ls hl => ?_)
                  refine lv_iload hx hb dX1_arrangeSigns_104 (lv_at hl 0 rfl) ?_
                  refine lv_aload_n hx hb dX1_arrangeSigns_106 rfl (lv_at hl 3 rfl) ?_
                  refine zv_get hx hb hK hts hown hP 1 (by decide) q_fl_RX1_16 (v := .ref (ad 11)) rfl dX1_arrangeSigns_107 ?_
                  refine z_iconst hx hb dX1_arrangeSigns_110 ?_
                  refine zv_aP hx hb hK hP (1) (by decide) (i := 1) rfl dX1_arrangeSigns_111 ?_
                  refine lv_iload_n hx hb dX1_arrangeSigns_112 rfl (lv_at hl 2 rfl) ?_
                  refine zv_lP hx hb hK hP (1) (by decide) (i := i) (by omega) dX1_arrangeSigns_113 ?_
                  refine z_icmp_eq (a := A1 1 (7 * P 2 i + P 0 i)) (b := P 1 (i)) (tgt := 147) hx hb dX1_arrangeSigns_114 (by decide) (by omega) (by omega) (fun h_114 => ?_) (fun h_114 => ?_)
                  · skip
                    refine lv_aload_n hx hb dX1_arrangeSigns_147 rfl (lv_at hl 3 rfl) ?_
                    refine zv_get hx hb hK hts hown hP 3 (by decide) q_fl_RX1_22 (v := .ref (ad 19)) rfl dX1_arrangeSigns_148 ?_
                    refine lv_iload_n hx hb dX1_arrangeSigns_151 rfl (lv_at hl 1 rfl) ?_
                    refine lv_aload_n hx hb dX1_arrangeSigns_152 rfl (lv_at hl 3 rfl) ?_
                    refine zv_get hx hb hK hts hown hP 0 (by decide) q_fl_RX1_11 (v := .ref (ad 1)) rfl dX1_arrangeSigns_153 ?_
                    refine z_bipush hx hb dX1_arrangeSigns_156 (by decide) ?_
                    refine zv_aT hx hb hK hP (6) (by decide) (i := 6) rfl dX1_arrangeSigns_158 ?_
                    refine lv_iload_n hx hb dX1_arrangeSigns_159 rfl (lv_at hl 2 rfl) ?_
                    refine zv_lT hx hb hK hP (6) (by decide) (i := i) (by omega) dX1_arrangeSigns_160 ?_
                    refine zv_sA (x := T 6 (i)) hx hb hK hP hS (0) (by decide) (hD (19 + 0) (by omega)) (i := 7 * P 2 i + P 0 i) (by omega) dX1_arrangeSigns_161 (fun H locs hP hz ho hS => ?_)
                    refine lv_aload_n hx hb dX1_arrangeSigns_162 rfl (lv_at hl 3 rfl) ?_
                    refine zv_get hx hb hK hts hown hP 4 (by decide) q_fl_RX1_26 (v := .ref (ad 20)) rfl dX1_arrangeSigns_163 ?_
                    refine lv_iload_n hx hb dX1_arrangeSigns_166 rfl (lv_at hl 1 rfl) ?_
                    refine lv_aload_n hx hb dX1_arrangeSigns_167 rfl (lv_at hl 3 rfl) ?_
                    refine zv_get hx hb hK hts hown hP 1 (by decide) q_fl_RX1_16 (v := .ref (ad 11)) rfl dX1_arrangeSigns_168 ?_
                    refine z_iconst hx hb dX1_arrangeSigns_171 ?_
                    refine zv_aP hx hb hK hP (1) (by decide) (i := 1) rfl dX1_arrangeSigns_172 ?_
                    refine lv_iload_n hx hb dX1_arrangeSigns_173 rfl (lv_at hl 2 rfl) ?_
                    refine zv_lP hx hb hK hP (1) (by decide) (i := i) (by omega) dX1_arrangeSigns_174 ?_
                    refine zv_sA (x := P 1 (i)) hx hb hK hP hS (1) (by decide) (hD (19 + 1) (by omega)) (i := 7 * P 2 i + P 0 i) (by omega) dX1_arrangeSigns_175 (fun H locs hP hz ho hS => ?_)
                    refine z_iinc (lv' := [(2, .int (zI (i + 1))), (4, .int (zI (A1 1 (7 * P 2 i + P 0 i)))), (3, .int (zI (7 * P 2 i + P 0 i))), (0, .ref (ad 0)), (1, .int (zI (key)))]) hx hb dX1_arrangeSigns_176 hl (k := 2) rfl (by decide) rfl (fun ls hl => ?_)
                    refine lv_goto (tgt := 31) hx hb dX1_arrangeSigns_179 (by decide) ?_
                    exact ih (i + 1) c9 ((zU sh (i) (0))) (zR (zR A1 0 (7 * P 2 i + P 0 i) (T 6 (i))) 1 (7 * P 2 i + P 0 i) (P 1 (i))) (by omega) (by omega) (by rw [hs, ← h2]; simp only [sgS, jn]; (repeat' split) <;> first | rfl | (exfalso; omega)) (by first | exact h3 | exact zR2_rng h3 (by omega) (by omega)) (by omega) H _ hP hS _ (lv_sub hl [0, 3, 4] rfl)
                  · skip
                    refine lv_aload_n hx hb dX1_arrangeSigns_117 rfl (lv_at hl 3 rfl) ?_
                    refine lv_iload_n hx hb dX1_arrangeSigns_118 rfl (lv_at hl 2 rfl) ?_
                    refine z_iconst hx hb dX1_arrangeSigns_119 ?_
                    refine z_isub (x := i) (y := 1) hx hb dX1_arrangeSigns_120 ?_
                    refine k_R (c_VR (As := [.int (zI ((i) - (1)))]) (rest := []) ⟨hx, hb, hml, hown, hts⟩ hG hS hA (c_X1_isJoinedToNext l G ad (zW T 7 (zU sh (i) (0))) P S A1 (zN F 4 (c9)) ((i) - (1)) (show -1 ≤ ((i) - (1)) ∧ ((i) - (1)) < 200 by omega) hV) ⟨q_ml_RX1_93, q_im_X1_isJoinedToNext, q_sel_X1_isJoinedToNext, q_ini_RX1, q_code_X1_isJoinedToNext⟩ hv_X1_isJoinedToNext (VP.rec hK hP) hP ⟨by decide, by decide⟩ ⟨Nat.zero_le _, Nat.zero_le _⟩ rfl hl.1 rfl (Nat.le_of_ble_eq_true rfl) dX1_arrangeSigns_121) ?_
                    refine z_bif_ne (q := 0 ≤ ((i) - (1)) ∧ ((i) - (1)) + 1 < (F 0) ∧ T 5 (((i) - (1))) = 1 ∧ T 4 (((i) - (1))) = T 4 (((i) - (1)) + 1)) (tgt := 147) hx hb dX1_arrangeSigns_124 (by decide) (fun h_124 => ?_) (fun h_124 => ?_)
                    · skip
                      refine lv_aload_n hx hb dX1_arrangeSigns_147 rfl (lv_at hl 3 rfl) ?_
                      refine zv_get hx hb hK hts hown hP 3 (by decide) q_fl_RX1_22 (v := .ref (ad 19)) rfl dX1_arrangeSigns_148 ?_
                      refine lv_iload_n hx hb dX1_arrangeSigns_151 rfl (lv_at hl 1 rfl) ?_
                      refine lv_aload_n hx hb dX1_arrangeSigns_152 rfl (lv_at hl 3 rfl) ?_
                      refine zv_get hx hb hK hts hown hP 0 (by decide) q_fl_RX1_11 (v := .ref (ad 1)) rfl dX1_arrangeSigns_153 ?_
                      refine z_bipush hx hb dX1_arrangeSigns_156 (by decide) ?_
                      refine zv_aT hx hb hK hP (6) (by decide) (i := 6) rfl dX1_arrangeSigns_158 ?_
                      refine lv_iload_n hx hb dX1_arrangeSigns_159 rfl (lv_at hl 2 rfl) ?_
                      refine zv_lT hx hb hK hP (6) (by decide) (i := i) (by omega) dX1_arrangeSigns_160 ?_
                      refine zv_sA (x := T 6 (i)) hx hb hK hP hS (0) (by decide) (hD (19 + 0) (by omega)) (i := 7 * P 2 i + P 0 i) (by omega) dX1_arrangeSigns_161 (fun H locs hP hz ho hS => ?_)
                      refine lv_aload_n hx hb dX1_arrangeSigns_162 rfl (lv_at hl 3 rfl) ?_
                      refine zv_get hx hb hK hts hown hP 4 (by decide) q_fl_RX1_26 (v := .ref (ad 20)) rfl dX1_arrangeSigns_163 ?_
                      refine lv_iload_n hx hb dX1_arrangeSigns_166 rfl (lv_at hl 1 rfl) ?_
                      refine lv_aload_n hx hb dX1_arrangeSigns_167 rfl (lv_at hl 3 rfl) ?_
                      refine zv_get hx hb hK hts hown hP 1 (by decide) q_fl_RX1_16 (v := .ref (ad 11)) rfl dX1_arrangeSigns_168 ?_
                      refine z_iconst hx hb dX1_arrangeSigns_171 ?_
                      refine zv_aP hx hb hK hP (1) (by decide) (i := 1) rfl dX1_arrangeSigns_172 ?_
                      refine lv_iload_n hx hb dX1_arrangeSigns_173 rfl (lv_at hl 2 rfl) ?_
                      refine zv_lP hx hb hK hP (1) (by decide) (i := i) (by omega) dX1_arrangeSigns_174 ?_
                      refine zv_sA (x := P 1 (i)) hx hb hK hP hS (1) (by decide) (hD (19 + 1) (by omega)) (i := 7 * P 2 i + P 0 i) (by omega) dX1_arrangeSigns_175 (fun H locs hP hz ho hS => ?_)
                      refine z_iinc (lv' := [(2, .int (zI (i + 1))), (4, .int (zI (A1 1 (7 * P 2 i + P 0 i)))), (3, .int (zI (7 * P 2 i + P 0 i))), (0, .ref (ad 0)), (1, .int (zI (key)))]) hx hb dX1_arrangeSigns_176 hl (k := 2) rfl (by decide) rfl (fun ls hl => ?_)
                      refine lv_goto (tgt := 31) hx hb dX1_arrangeSigns_179 (by decide) ?_
                      exact ih (i + 1) c9 ((zU sh (i) (0))) (zR (zR A1 0 (7 * P 2 i + P 0 i) (T 6 (i))) 1 (7 * P 2 i + P 0 i) (P 1 (i))) (by omega) (by omega) (by rw [hs, ← h2]; simp only [sgS, jn]; (repeat' split) <;> first | rfl | (exfalso; omega)) (by first | exact h3 | exact zR2_rng h3 (by omega) (by omega)) (by omega) H _ hP hS _ (lv_sub hl [0, 3, 4] rfl)
                    · skip
                      refine lv_aload_n hx hb dX1_arrangeSigns_127 rfl (lv_at hl 3 rfl) ?_
                      refine zv_get hx hb hK hts hown hP 0 (by decide) q_fl_RX1_11 (v := .ref (ad 1)) rfl dX1_arrangeSigns_128 ?_
                      refine z_bipush hx hb dX1_arrangeSigns_131 (by decide) ?_
                      refine zv_aT hx hb hK hP (7) (by decide) (i := 7) rfl dX1_arrangeSigns_133 ?_
                      refine lv_iload_n hx hb dX1_arrangeSigns_134 rfl (lv_at hl 2 rfl) ?_
                      refine z_iconst hx hb dX1_arrangeSigns_135 ?_
                      refine zv_sT (x := 1) hx hb hK hP hS (7) (by decide) (hD (2 + 7) (by omega)) (i := i) (by omega) dX1_arrangeSigns_136 (fun H locs hP hz ho hS => ?_)
                      rw [zW_R] at hP
                      refine lv_aload_n hx hb dX1_arrangeSigns_137 rfl (lv_at hl 3 rfl) ?_
                      refine lv_dup hx hb dX1_arrangeSigns_138 rfl ?_
                      refine zv_get hx hb hK hts hown hP 9 (by decide) q_fl_RX1_42 (v := .int (zI (c9))) rfl dX1_arrangeSigns_139 ?_
                      refine z_iconst hx hb dX1_arrangeSigns_142 ?_
                      refine z_iadd (x := c9) (y := 1) hx hb dX1_arrangeSigns_143 ?_
                      refine zv_put (x := (c9) + (1)) hx hb hK hts hown hP hS (hD 0 (by decide)) 4 (by decide) q_fl_RX1_42 dX1_arrangeSigns_144 (fun H locs hP hz ho hS => ?_)
                      rw [zN_N] at hP
                      refine lv_aload_n hx hb dX1_arrangeSigns_147 rfl (lv_at hl 3 rfl) ?_
                      refine zv_get hx hb hK hts hown hP 3 (by decide) q_fl_RX1_22 (v := .ref (ad 19)) rfl dX1_arrangeSigns_148 ?_
                      refine lv_iload_n hx hb dX1_arrangeSigns_151 rfl (lv_at hl 1 rfl) ?_
                      refine lv_aload_n hx hb dX1_arrangeSigns_152 rfl (lv_at hl 3 rfl) ?_
                      refine zv_get hx hb hK hts hown hP 0 (by decide) q_fl_RX1_11 (v := .ref (ad 1)) rfl dX1_arrangeSigns_153 ?_
                      refine z_bipush hx hb dX1_arrangeSigns_156 (by decide) ?_
                      refine zv_aT hx hb hK hP (6) (by decide) (i := 6) rfl dX1_arrangeSigns_158 ?_
                      refine lv_iload_n hx hb dX1_arrangeSigns_159 rfl (lv_at hl 2 rfl) ?_
                      refine zv_lT hx hb hK hP (6) (by decide) (i := i) (by omega) dX1_arrangeSigns_160 ?_
                      refine zv_sA (x := T 6 (i)) hx hb hK hP hS (0) (by decide) (hD (19 + 0) (by omega)) (i := 7 * P 2 i + P 0 i) (by omega) dX1_arrangeSigns_161 (fun H locs hP hz ho hS => ?_)
                      refine lv_aload_n hx hb dX1_arrangeSigns_162 rfl (lv_at hl 3 rfl) ?_
                      refine zv_get hx hb hK hts hown hP 4 (by decide) q_fl_RX1_26 (v := .ref (ad 20)) rfl dX1_arrangeSigns_163 ?_
                      refine lv_iload_n hx hb dX1_arrangeSigns_166 rfl (lv_at hl 1 rfl) ?_
                      refine lv_aload_n hx hb dX1_arrangeSigns_167 rfl (lv_at hl 3 rfl) ?_
                      refine zv_get hx hb hK hts hown hP 1 (by decide) q_fl_RX1_16 (v := .ref (ad 11)) rfl dX1_arrangeSigns_168 ?_
                      refine z_iconst hx hb dX1_arrangeSigns_171 ?_
                      refine zv_aP hx hb hK hP (1) (by decide) (i := 1) rfl dX1_arrangeSigns_172 ?_
                      refine lv_iload_n hx hb dX1_arrangeSigns_173 rfl (lv_at hl 2 rfl) ?_
                      refine zv_lP hx hb hK hP (1) (by decide) (i := i) (by omega) dX1_arrangeSigns_174 ?_
                      refine zv_sA (x := P 1 (i)) hx hb hK hP hS (1) (by decide) (hD (19 + 1) (by omega)) (i := 7 * P 2 i + P 0 i) (by omega) dX1_arrangeSigns_175 (fun H locs hP hz ho hS => ?_)
                      refine z_iinc (lv' := [(2, .int (zI (i + 1))), (4, .int (zI (A1 1 (7 * P 2 i + P 0 i)))), (3, .int (zI (7 * P 2 i + P 0 i))), (0, .ref (ad 0)), (1, .int (zI (key)))]) hx hb dX1_arrangeSigns_176 hl (k := 2) rfl (by decide) rfl (fun ls hl => ?_)
                      refine lv_goto (tgt := 31) hx hb dX1_arrangeSigns_179 (by decide) ?_
                      exact ih (i + 1) ((c9) + (1)) ((zU (zU sh (i) (0)) (i) (1))) (zR (zR A1 0 (7 * P 2 i + P 0 i) (T 6 (i))) 1 (7 * P 2 i + P 0 i) (P 1 (i))) (by omega) (by omega) (by rw [hs, ← h2]; simp only [sgS, jn]; (repeat' split) <;> first | rfl | (exfalso; omega)) (by first | exact h3 | exact zR2_rng h3 (by omega) (by omega)) (by omega) H _ hP hS _ (lv_sub hl [0, 3, 4] rfl)
        exact lp_31 201 0 0 (T 7) (zW A 0 (fillM (A 0) 63)) (by omega) (by omega) rfl hf9 (by omega) H _ hP hS _ (lv_sub hl [0, 1, 2] rfl)
      · skip
        refine lv_aload_n hx hb dX1_arrangeSigns_16 rfl (lv_at hl 1 rfl) ?_
        refine zv_get hx hb hK hts hown hP 3 (by decide) q_fl_RX1_22 (v := .ref (ad 19)) rfl dX1_arrangeSigns_17 ?_
        refine lv_iload_n hx hb dX1_arrangeSigns_20 rfl (lv_at hl 0 rfl) ?_
        refine z_iconst hx hb dX1_arrangeSigns_21 ?_
        refine zv_sA (x := -1) hx hb hK hP hS (0) (by decide) (hD (19 + 0) (by omega)) (i := i) (by omega) dX1_arrangeSigns_22 (fun H locs hP hz ho hS => ?_)
        rw [zW_R] at hP
        refine z_iinc (lv' := [(2, .int (zI (i + 1))), (0, .ref (ad 0)), (1, .int (zI (key)))]) hx hb dX1_arrangeSigns_23 hl (k := 0) rfl (by decide) rfl (fun ls hl => ?_)
        refine lv_goto (tgt := 7) hx hb dX1_arrangeSigns_26 (by decide) ?_
        rw [fillM_s _ h0] at hP
        exact ih (i + 1) (by omega) (by omega) (by omega) H _ hP hS _ (lv_sub hl [0, 1, 2] rfl)
  exact lp_7 64 0 (by omega) (by omega) (by omega) H _ hP hS _ (lv_sub hl [0, 1, 2] rfl)
set_option maxHeartbeats 2000000 in
theorem c_X1_arrangeBeams (l : Launch) (G : zG) (ad : Nat → Nat) (T P S A : Nat → Int → Int) (F : Nat → Int) (b : Int) (sz : Nat) (hb9 : 0 < b ∧ b ≤ 1000000) (hV : VOK T P (F 0)) : MW l yX1_arrangeBeams cX1_arrangeBeams 3 none 3 65 (0) (0) G [.ref (ad 0), .int (zI (b))] (fA 21 ad sz) sz (VP G ad T P S A F) (QV (fA 21 ad sz) (fun H => VP G ad (zW T 8 (bmF (T 4) (T 2) (T 0) b (F 0) (T 8) (F 0)).1) P S A (zN F 3 (bmF (T 4) (T 2) (T 0) b (F 0) (T 8) (F 0)).2) H)) := by
  refine mw_of hp_X1_arrangeBeams (Nat.le_of_ble_eq_true rfl) ?_
  intro p env s m below meth c ls hB hsz hP hl
  obtain ⟨hx, hb, hml, hr, hlk, hown, hts, hG⟩ := hB
  subst hsz
  have hK := hG.1
  have hS : va_S (fA 21 ad s.heap.size) s.heap s.heap [] := va_S.rf
  have hA : ∀ q : Nat, (fA 21 ad s.heap.size) q → G.2.2 ≤ q := fA_lo hP.1.2 hG.2.1
  have hD : ∀ k, k < 21 → (fA 21 ad s.heap.size) (ad k) := fun k hk => fA_in hk
  have hl : lv_has ls 3 [(0, .ref (ad 0)), (1, .int (zI (b)))] := hl
  have hn1 := hV.1
  have hn2 := hV.2.1
  refine lv_aload_n hx hb dX1_arrangeBeams_0 rfl (lv_at hl 0 rfl) ?_
  refine z_iconst hx hb dX1_arrangeBeams_1 ?_
  refine zv_put (x := 0) hx hb hK hts hown hP hS (hD 0 (by decide)) 3 (by decide) q_fl_RX1_39 dX1_arrangeBeams_2 (fun H locs hP hz ho hS => ?_)
  refine z_iconst hx hb dX1_arrangeBeams_5 ?_
  refine lv_istore_n (lv' := [(2, .int (zI (0))), (0, .ref (ad 0)), (1, .int (zI (b)))]) hx hb dX1_arrangeBeams_6 rfl hl (by decide) rfl (fun ls hl => ?_)
  have hP : VP G ad (zW T 8 (T 8)) P S A (zN F 3 0) H := by rw [zW_id]; exact hP
  have lp_7 : ∀ (n : Nat) (i c9 : Int) (bm : Int → Int), 0 ≤ i → i ≤ F 0 → (bm, c9) = bmF (T 4) (T 2) (T 0) b (F 0) (T 8) i → F 0 - i < n → ∀ (H : Heap) (locs : List Loc), VP G ad (zW T 8 bm) P S A (zN F 3 (c9)) H → va_S (fA 21 ad s.heap.size) s.heap H locs → ∀ (ls : Array Slot), lv_has ls 3 [(2, .int (zI (i))), (0, .ref (ad 0)), (1, .int (zI (b)))] → W p l env (rmz 3 65 0 0) s m (([.ref (ad 0), .int (zI (b))] : List Value).toArray) below meth c H locs 0 0 (MQ below (QV (fA 21 ad s.heap.size) (fun H => VP G ad (zW T 8 (bmF (T 4) (T 2) (T 0) b (F 0) (T 8) (F 0)).1) P S A (zN F 3 (bmF (T 4) (T 2) (T 0) b (F 0) (T 8) (F 0)).2) H)) (([.ref (ad 0), .int (zI (b))] : List Value).toArray) s 0 0 (fA 21 ad s.heap.size)) (F0 m 7 ls []) := by
    intro n
    induction n with
    | zero => intro i c9 bm h0 h1 h2 hm H locs hP hS ls hl; exact absurd hm (by omega)
    | succ n ih =>
      intro i c9 bm h0 h1 h2 hm H locs hP hS ls hl
      have hs : bmF (T 4) (T 2) (T 0) b (F 0) (T 8) (i + 1) = bmS (T 4) (T 2) (T 0) b (F 0) i (bmF (T 4) (T 2) (T 0) b (F 0) (T 8) i) := pf_s _ _ h0
      have hr9 : (0 ≤ c9 ∧ c9 ≤ i) ∧ ∀ j, 0 ≤ j → j < i → -1 ≤ bm j ∧ bm j ≤ i := by have q := bmF_rng (tn := T 4) (pa := T 2) (bg := T 0) (beat := b) (n := F 0) (bm := T 8) h0; rw [← h2] at q; exact q
      refine lv_iload_n hx hb dX1_arrangeBeams_7 rfl (lv_at hl 0 rfl) ?_
      refine lv_aload_n hx hb dX1_arrangeBeams_8 rfl (lv_at hl 1 rfl) ?_
      refine zv_get hx hb hK hts hown hP 5 (by decide) q_fl_RX1_29 (v := .int (zI (F 0))) rfl dX1_arrangeBeams_9 ?_
      refine z_icmp_ge (a := i) (b := F 0) (tgt := 102) hx hb dX1_arrangeBeams_12 (by decide) (by omega) (by omega) (fun h_12 => ?_) (fun h_12 => ?_)
      · skip
        exact e_Wv hx hb hr hlk hS (by omega) (by omega) (by have h9 : F 0 = i := (by omega); rw [h9] at h2 ⊢; rw [← h2]; exact hP) dX1_arrangeBeams_102
      · skip
        have hv := hV.2.2.1 i (by omega) (by omega)
        refine lv_aload_n hx hb dX1_arrangeBeams_15 rfl (lv_at hl 1 rfl) ?_
        refine zv_get hx hb hK hts hown hP 0 (by decide) q_fl_RX1_11 (v := .ref (ad 1)) rfl dX1_arrangeBeams_16 ?_
        refine z_bipush hx hb dX1_arrangeBeams_19 (by decide) ?_
        refine zv_aT hx hb hK hP (8) (by decide) (i := 8) rfl dX1_arrangeBeams_21 ?_
        refine lv_iload_n hx hb dX1_arrangeBeams_22 rfl (lv_at hl 0 rfl) ?_
        refine z_iconst hx hb dX1_arrangeBeams_23 ?_
        refine zv_sT (x := -1) hx hb hK hP hS (8) (by decide) (hD (2 + 8) (by omega)) (i := i) (by omega) dX1_arrangeBeams_24 (fun H locs hP hz ho hS => ?_)
        rw [zW_R] at hP
        refine lv_aload_n hx hb dX1_arrangeBeams_25 rfl (lv_at hl 1 rfl) ?_
        refine lv_iload_n hx hb dX1_arrangeBeams_26 rfl (lv_at hl 0 rfl) ?_
        refine z_iconst hx hb dX1_arrangeBeams_27 ?_
        refine z_isub (x := i) (y := 1) hx hb dX1_arrangeBeams_28 ?_
        refine lv_iload_n hx hb dX1_arrangeBeams_29 rfl (lv_at hl 2 rfl) ?_
        refine k_R (c_VR (As := [.int (zI ((i) - (1))), .int (zI (b))]) (rest := []) ⟨hx, hb, hml, hown, hts⟩ hG hS hA (c_X1_isGrouped l G ad (zW T 8 (zU bm (i) (-1))) P S A (zN F 3 (c9)) ((i) - (1)) b (show -1 ≤ ((i) - (1)) ∧ ((i) - (1)) < 200 by omega) (show 0 < b ∧ b ≤ 1000000 by omega) hV) ⟨q_ml_RX1_120, q_im_X1_isGrouped, q_sel_X1_isGrouped, q_ini_RX1, q_code_X1_isGrouped⟩ hv_X1_isGrouped (VP.rec hK hP) hP ⟨by decide, by decide⟩ ⟨Nat.zero_le _, Nat.zero_le _⟩ rfl hl.1 rfl (Nat.le_of_ble_eq_true rfl) dX1_arrangeBeams_30) ?_
        refine z_bif_eq (q := 0 ≤ ((i) - (1)) ∧ ((i) - (1)) + 1 < (F 0) ∧ (¬ T 4 ((i) - (1)) = -1 ∧ 8 ≤ T 2 ((i) - (1))) ∧ (¬ T 4 (((i) - (1)) + 1) = -1 ∧ 8 ≤ T 2 (((i) - (1)) + 1)) ∧ T 0 ((i) - (1)) / b = T 0 (((i) - (1)) + 1) / b) (tgt := 96) hx hb dX1_arrangeBeams_33 (by decide) (fun h_33 => ?_) (fun h_33 => ?_)
        · skip
          refine z_iinc (lv' := [(2, .int (zI (i + 1))), (0, .ref (ad 0)), (1, .int (zI (b)))]) hx hb dX1_arrangeBeams_96 hl (k := 0) rfl (by decide) rfl (fun ls hl => ?_)
          refine lv_goto (tgt := 7) hx hb dX1_arrangeBeams_99 (by decide) ?_
          exact ih (i + 1) c9 ((zU bm (i) (-1))) (by omega) (by omega) (by rw [hs, ← h2]; simp only [bmS, gr, zU_s]; (repeat' split) <;> first | rfl | (exfalso; omega)) (by omega) H _ hP hS _ (lv_sub hl [0, 1, 2] rfl)
        · skip
          have e9 : zU bm (i) (-1) ((i) - (1)) = bm (i - 1) := zU_n (by omega)
          have e8 := hr9.2 (i - 1) (by omega) (by omega)
          refine lv_aload_n hx hb dX1_arrangeBeams_36 rfl (lv_at hl 1 rfl) ?_
          refine zv_get hx hb hK hts hown hP 0 (by decide) q_fl_RX1_11 (v := .ref (ad 1)) rfl dX1_arrangeBeams_37 ?_
          refine z_bipush hx hb dX1_arrangeBeams_40 (by decide) ?_
          refine zv_aT hx hb hK hP (8) (by decide) (i := 8) rfl dX1_arrangeBeams_42 ?_
          refine lv_iload_n hx hb dX1_arrangeBeams_43 rfl (lv_at hl 0 rfl) ?_
          refine z_iconst hx hb dX1_arrangeBeams_44 ?_
          refine z_isub (x := i) (y := 1) hx hb dX1_arrangeBeams_45 ?_
          refine zv_lT hx hb hK hP (8) (by decide) (i := (i) - (1)) (by omega) dX1_arrangeBeams_46 ?_
          refine z_iconst hx hb dX1_arrangeBeams_47 ?_
          refine z_icmp_ne (a := (zU bm (i) (-1)) ((i) - (1))) (b := -1) (tgt := 76) hx hb dX1_arrangeBeams_48 (by decide) (by omega) (by omega) (fun h_48 => ?_) (fun h_48 => ?_)
          · skip
            refine lv_aload_n hx hb dX1_arrangeBeams_76 rfl (lv_at hl 1 rfl) ?_
            refine zv_get hx hb hK hts hown hP 0 (by decide) q_fl_RX1_11 (v := .ref (ad 1)) rfl dX1_arrangeBeams_77 ?_
            refine z_bipush hx hb dX1_arrangeBeams_80 (by decide) ?_
            refine zv_aT hx hb hK hP (8) (by decide) (i := 8) rfl dX1_arrangeBeams_82 ?_
            refine lv_iload_n hx hb dX1_arrangeBeams_83 rfl (lv_at hl 0 rfl) ?_
            refine lv_aload_n hx hb dX1_arrangeBeams_84 rfl (lv_at hl 1 rfl) ?_
            refine zv_get hx hb hK hts hown hP 0 (by decide) q_fl_RX1_11 (v := .ref (ad 1)) rfl dX1_arrangeBeams_85 ?_
            refine z_bipush hx hb dX1_arrangeBeams_88 (by decide) ?_
            refine zv_aT hx hb hK hP (8) (by decide) (i := 8) rfl dX1_arrangeBeams_90 ?_
            refine lv_iload_n hx hb dX1_arrangeBeams_91 rfl (lv_at hl 0 rfl) ?_
            refine z_iconst hx hb dX1_arrangeBeams_92 ?_
            refine z_isub (x := i) (y := 1) hx hb dX1_arrangeBeams_93 ?_
            refine zv_lT hx hb hK hP (8) (by decide) (i := (i) - (1)) (by omega) dX1_arrangeBeams_94 ?_
            refine zv_sT (x := (zU bm (i) (-1)) ((i) - (1))) hx hb hK hP hS (8) (by decide) (hD (2 + 8) (by omega)) (i := i) (by omega) dX1_arrangeBeams_95 (fun H locs hP hz ho hS => ?_)
            rw [zW_R] at hP
            refine z_iinc (lv' := [(2, .int (zI (i + 1))), (0, .ref (ad 0)), (1, .int (zI (b)))]) hx hb dX1_arrangeBeams_96 hl (k := 0) rfl (by decide) rfl (fun ls hl => ?_)
            refine lv_goto (tgt := 7) hx hb dX1_arrangeBeams_99 (by decide) ?_
            exact ih (i + 1) c9 ((zU (zU bm (i) (-1)) (i) ((zU bm (i) (-1)) ((i) - (1))))) (by omega) (by omega) (by rw [hs, ← h2]; simp only [bmS, gr, zU_s]; (repeat' split) <;> first | rfl | (exfalso; omega)) (by omega) H _ hP hS _ (lv_sub hl [0, 1, 2] rfl)
          · skip
            refine lv_aload_n hx hb dX1_arrangeBeams_51 rfl (lv_at hl 1 rfl) ?_
            refine zv_get hx hb hK hts hown hP 0 (by decide) q_fl_RX1_11 (v := .ref (ad 1)) rfl dX1_arrangeBeams_52 ?_
            refine z_bipush hx hb dX1_arrangeBeams_55 (by decide) ?_
            refine zv_aT hx hb hK hP (8) (by decide) (i := 8) rfl dX1_arrangeBeams_57 ?_
            refine lv_iload_n hx hb dX1_arrangeBeams_58 rfl (lv_at hl 0 rfl) ?_
            refine z_iconst hx hb dX1_arrangeBeams_59 ?_
            refine z_isub (x := i) (y := 1) hx hb dX1_arrangeBeams_60 ?_
            refine lv_aload_n hx hb dX1_arrangeBeams_61 rfl (lv_at hl 1 rfl) ?_
            refine zv_get hx hb hK hts hown hP 8 (by decide) q_fl_RX1_39 (v := .int (zI (c9))) rfl dX1_arrangeBeams_62 ?_
            refine zv_sT (x := c9) hx hb hK hP hS (8) (by decide) (hD (2 + 8) (by omega)) (i := (i) - (1)) (by omega) dX1_arrangeBeams_65 (fun H locs hP hz ho hS => ?_)
            rw [zW_R] at hP
            refine lv_aload_n hx hb dX1_arrangeBeams_66 rfl (lv_at hl 1 rfl) ?_
            refine lv_dup hx hb dX1_arrangeBeams_67 rfl ?_
            refine zv_get hx hb hK hts hown hP 8 (by decide) q_fl_RX1_39 (v := .int (zI (c9))) rfl dX1_arrangeBeams_68 ?_
            refine z_iconst hx hb dX1_arrangeBeams_71 ?_
            refine z_iadd (x := c9) (y := 1) hx hb dX1_arrangeBeams_72 ?_
            refine zv_put (x := (c9) + (1)) hx hb hK hts hown hP hS (hD 0 (by decide)) 3 (by decide) q_fl_RX1_39 dX1_arrangeBeams_73 (fun H locs hP hz ho hS => ?_)
            rw [zN_N] at hP
            refine lv_aload_n hx hb dX1_arrangeBeams_76 rfl (lv_at hl 1 rfl) ?_
            refine zv_get hx hb hK hts hown hP 0 (by decide) q_fl_RX1_11 (v := .ref (ad 1)) rfl dX1_arrangeBeams_77 ?_
            refine z_bipush hx hb dX1_arrangeBeams_80 (by decide) ?_
            refine zv_aT hx hb hK hP (8) (by decide) (i := 8) rfl dX1_arrangeBeams_82 ?_
            refine lv_iload_n hx hb dX1_arrangeBeams_83 rfl (lv_at hl 0 rfl) ?_
            refine lv_aload_n hx hb dX1_arrangeBeams_84 rfl (lv_at hl 1 rfl) ?_
            refine zv_get hx hb hK hts hown hP 0 (by decide) q_fl_RX1_11 (v := .ref (ad 1)) rfl dX1_arrangeBeams_85 ?_
            refine z_bipush hx hb dX1_arrangeBeams_88 (by decide) ?_
            refine zv_aT hx hb hK hP (8) (by decide) (i := 8) rfl dX1_arrangeBeams_90 ?_
            refine lv_iload_n hx hb dX1_arrangeBeams_91 rfl (lv_at hl 0 rfl) ?_
            refine z_iconst hx hb dX1_arrangeBeams_92 ?_
            refine z_isub (x := i) (y := 1) hx hb dX1_arrangeBeams_93 ?_
            refine zv_lT hx hb hK hP (8) (by decide) (i := (i) - (1)) (by omega) dX1_arrangeBeams_94 ?_
            refine zv_sT (x := (zU (zU bm (i) (-1)) ((i) - (1)) (c9)) ((i) - (1))) hx hb hK hP hS (8) (by decide) (hD (2 + 8) (by omega)) (i := i) (by omega) dX1_arrangeBeams_95 (fun H locs hP hz ho hS => ?_)
            rw [zW_R] at hP
            refine z_iinc (lv' := [(2, .int (zI (i + 1))), (0, .ref (ad 0)), (1, .int (zI (b)))]) hx hb dX1_arrangeBeams_96 hl (k := 0) rfl (by decide) rfl (fun ls hl => ?_)
            refine lv_goto (tgt := 7) hx hb dX1_arrangeBeams_99 (by decide) ?_
            exact ih (i + 1) ((c9) + (1)) ((zU (zU (zU bm (i) (-1)) ((i) - (1)) (c9)) (i) ((zU (zU bm (i) (-1)) ((i) - (1)) (c9)) ((i) - (1))))) (by omega) (by omega) (by rw [hs, ← h2]; simp only [bmS, gr, zU_s]; (repeat' split) <;> first | rfl | (exfalso; omega)) (by omega) H _ hP hS _ (lv_sub hl [0, 1, 2] rfl)
  exact lp_7 201 0 0 (T 8) (by omega) (by omega) rfl (by omega) H _ hP hS _ (lv_sub hl [0, 1, 2] rfl)
set_option maxHeartbeats 2000000 in
theorem c_X1_append (l : Launch) (G : zG) (ad : Nat → Nat) (T P S A : Nat → Int → Int) (F : Nat → Int) (v ba : Int) (sz : Nat) (hn : 0 ≤ F 0 ∧ F 0 < 200) (hv : 0 ≤ v ∧ v < 15) : MW l yX1_append cX1_append 3 none 0 0 (0) (0) G [.ref (ad 0), .int (zI (v)), .int (zI (ba))] (fA 21 ad sz) sz (VP G ad T P S A F) (QV (fA 21 ad sz) (fun H => VP G ad (zR (zR (zR (zR (zR (zR (zR T 0 (F 0) (F 1)) 1 (F 0) (valT v)) 2 (F 0) (valP v)) 3 (F 0) (valD v)) 4 (F 0) (-1)) 5 (F 0) 0) 6 (F 0) ba) P S A (zN (zN F 1 (F 1 + valT v)) 0 (F 0 + 1)) H)) := by
  refine mw_of hp_X1_append (Nat.le_of_ble_eq_true rfl) ?_
  intro p env s m below meth c ls hB hsz hP hl
  obtain ⟨hx, hb, hml, hr, hlk, hown, hts, hG⟩ := hB
  subst hsz
  have hK := hG.1
  have hS : va_S (fA 21 ad s.heap.size) s.heap s.heap [] := va_S.rf
  have hA : ∀ q : Nat, (fA 21 ad s.heap.size) q → G.2.2 ≤ q := fA_lo hP.1.2 hG.2.1
  have hD : ∀ k, k < 21 → (fA 21 ad s.heap.size) (ad k) := fun k hk => fA_in hk
  have hl : lv_has ls 3 [(0, .ref (ad 0)), (1, .int (zI (v))), (2, .int (zI (ba)))] := hl
  refine lv_aload_n hx hb dX1_append_0 rfl (lv_at hl 0 rfl) ?_
  refine zv_get hx hb hK hts hown hP 0 (by decide) q_fl_RX1_11 (v := .ref (ad 1)) rfl dX1_append_1 ?_
  refine z_iconst hx hb dX1_append_4 ?_
  refine zv_aT hx hb hK hP (0) (by decide) (i := 0) rfl dX1_append_5 ?_
  refine lv_aload_n hx hb dX1_append_6 rfl (lv_at hl 0 rfl) ?_
  refine zv_get hx hb hK hts hown hP 5 (by decide) q_fl_RX1_29 (v := .int (zI (F 0))) rfl dX1_append_7 ?_
  refine lv_aload_n hx hb dX1_append_10 rfl (lv_at hl 0 rfl) ?_
  refine zv_get hx hb hK hts hown hP 6 (by decide) q_fl_RX1_33 (v := .int (zI (F 1))) rfl dX1_append_11 ?_
  refine zv_sT (x := F 1) hx hb hK hP hS (0) (by decide) (hD (2 + 0) (by omega)) (i := F 0) (by omega) dX1_append_14 (fun H locs hP hz ho hS => ?_)
  refine lv_aload_n hx hb dX1_append_15 rfl (lv_at hl 0 rfl) ?_
  refine zv_get hx hb hK hts hown hP 0 (by decide) q_fl_RX1_11 (v := .ref (ad 1)) rfl dX1_append_16 ?_
  refine z_iconst hx hb dX1_append_19 ?_
  refine zv_aT hx hb hK hP (1) (by decide) (i := 1) rfl dX1_append_20 ?_
  refine lv_aload_n hx hb dX1_append_21 rfl (lv_at hl 0 rfl) ?_
  refine zv_get hx hb hK hts hown hP 5 (by decide) q_fl_RX1_29 (v := .int (zI (F 0))) rfl dX1_append_22 ?_
  refine z_getsN hx hb hG hS hA (own := RX1) (C := "ScorePress") (n := "VALUE_TICKS") (vs := [672, 576, 384, 336, 288, 192, 168, 144, 96, 84, 72, 48, 36, 24, 12]) (index := 55) (host := RX2) (by decide) hown (by decide) dX1_append_25 (fun t_1 ht_1 => ?_)
  refine lv_iload_n hx hb dX1_append_28 rfl (lv_at hl 1 rfl) ?_
  refine z_tld (vs := [672, 576, 384, 336, 288, 192, 168, 144, 96, 84, 72, 48, 36, 24, 12]) hx hb ht_1 hS (i := v) (by have h9 : ([672, 576, 384, 336, 288, 192, 168, 144, 96, 84, 72, 48, 36, 24, 12] : List Int).length = 15 := rfl; omega) (by decide) dX1_append_29 ?_
  refine zv_sT (x := valT (v)) hx hb hK hP hS (1) (by decide) (hD (2 + 1) (by omega)) (i := F 0) (by omega) dX1_append_30 (fun H locs hP hz ho hS => ?_)
  refine lv_aload_n hx hb dX1_append_31 rfl (lv_at hl 0 rfl) ?_
  refine zv_get hx hb hK hts hown hP 0 (by decide) q_fl_RX1_11 (v := .ref (ad 1)) rfl dX1_append_32 ?_
  refine z_iconst hx hb dX1_append_35 ?_
  refine zv_aT hx hb hK hP (2) (by decide) (i := 2) rfl dX1_append_36 ?_
  refine lv_aload_n hx hb dX1_append_37 rfl (lv_at hl 0 rfl) ?_
  refine zv_get hx hb hK hts hown hP 5 (by decide) q_fl_RX1_29 (v := .int (zI (F 0))) rfl dX1_append_38 ?_
  refine z_getsN hx hb hG hS hA (own := RX1) (C := "ScorePress") (n := "VALUE_PARTS") (vs := [1, 1, 1, 2, 2, 2, 4, 4, 4, 8, 8, 8, 16, 16, 32]) (index := 58) (host := RX2) (by decide) hown (by decide) dX1_append_41 (fun t_2 ht_2 => ?_)
  refine lv_iload_n hx hb dX1_append_44 rfl (lv_at hl 1 rfl) ?_
  refine z_tld (vs := [1, 1, 1, 2, 2, 2, 4, 4, 4, 8, 8, 8, 16, 16, 32]) hx hb ht_2 hS (i := v) (by have h9 : ([1, 1, 1, 2, 2, 2, 4, 4, 4, 8, 8, 8, 16, 16, 32] : List Int).length = 15 := rfl; omega) (by decide) dX1_append_45 ?_
  refine zv_sT (x := valP (v)) hx hb hK hP hS (2) (by decide) (hD (2 + 2) (by omega)) (i := F 0) (by omega) dX1_append_46 (fun H locs hP hz ho hS => ?_)
  refine lv_aload_n hx hb dX1_append_47 rfl (lv_at hl 0 rfl) ?_
  refine zv_get hx hb hK hts hown hP 0 (by decide) q_fl_RX1_11 (v := .ref (ad 1)) rfl dX1_append_48 ?_
  refine z_iconst hx hb dX1_append_51 ?_
  refine zv_aT hx hb hK hP (3) (by decide) (i := 3) rfl dX1_append_52 ?_
  refine lv_aload_n hx hb dX1_append_53 rfl (lv_at hl 0 rfl) ?_
  refine zv_get hx hb hK hts hown hP 5 (by decide) q_fl_RX1_29 (v := .int (zI (F 0))) rfl dX1_append_54 ?_
  refine z_getsN hx hb hG hS hA (own := RX1) (C := "ScorePress") (n := "VALUE_DOTS") (vs := [2, 1, 0, 2, 1, 0, 2, 1, 0, 2, 1, 0, 1, 0, 0]) (index := 61) (host := RX2) (by decide) hown (by decide) dX1_append_57 (fun t_3 ht_3 => ?_)
  refine lv_iload_n hx hb dX1_append_60 rfl (lv_at hl 1 rfl) ?_
  refine z_tld (vs := [2, 1, 0, 2, 1, 0, 2, 1, 0, 2, 1, 0, 1, 0, 0]) hx hb ht_3 hS (i := v) (by have h9 : ([2, 1, 0, 2, 1, 0, 2, 1, 0, 2, 1, 0, 1, 0, 0] : List Int).length = 15 := rfl; omega) (by decide) dX1_append_61 ?_
  refine zv_sT (x := valD (v)) hx hb hK hP hS (3) (by decide) (hD (2 + 3) (by omega)) (i := F 0) (by omega) dX1_append_62 (fun H locs hP hz ho hS => ?_)
  refine lv_aload_n hx hb dX1_append_63 rfl (lv_at hl 0 rfl) ?_
  refine zv_get hx hb hK hts hown hP 0 (by decide) q_fl_RX1_11 (v := .ref (ad 1)) rfl dX1_append_64 ?_
  refine z_iconst hx hb dX1_append_67 ?_
  refine zv_aT hx hb hK hP (4) (by decide) (i := 4) rfl dX1_append_68 ?_
  refine lv_aload_n hx hb dX1_append_69 rfl (lv_at hl 0 rfl) ?_
  refine zv_get hx hb hK hts hown hP 5 (by decide) q_fl_RX1_29 (v := .int (zI (F 0))) rfl dX1_append_70 ?_
  refine z_iconst hx hb dX1_append_73 ?_
  refine zv_sT (x := -1) hx hb hK hP hS (4) (by decide) (hD (2 + 4) (by omega)) (i := F 0) (by omega) dX1_append_74 (fun H locs hP hz ho hS => ?_)
  refine lv_aload_n hx hb dX1_append_75 rfl (lv_at hl 0 rfl) ?_
  refine zv_get hx hb hK hts hown hP 0 (by decide) q_fl_RX1_11 (v := .ref (ad 1)) rfl dX1_append_76 ?_
  refine z_iconst hx hb dX1_append_79 ?_
  refine zv_aT hx hb hK hP (5) (by decide) (i := 5) rfl dX1_append_80 ?_
  refine lv_aload_n hx hb dX1_append_81 rfl (lv_at hl 0 rfl) ?_
  refine zv_get hx hb hK hts hown hP 5 (by decide) q_fl_RX1_29 (v := .int (zI (F 0))) rfl dX1_append_82 ?_
  refine z_iconst hx hb dX1_append_85 ?_
  refine zv_sT (x := 0) hx hb hK hP hS (5) (by decide) (hD (2 + 5) (by omega)) (i := F 0) (by omega) dX1_append_86 (fun H locs hP hz ho hS => ?_)
  refine lv_aload_n hx hb dX1_append_87 rfl (lv_at hl 0 rfl) ?_
  refine zv_get hx hb hK hts hown hP 0 (by decide) q_fl_RX1_11 (v := .ref (ad 1)) rfl dX1_append_88 ?_
  refine z_bipush hx hb dX1_append_91 (by decide) ?_
  refine zv_aT hx hb hK hP (6) (by decide) (i := 6) rfl dX1_append_93 ?_
  refine lv_aload_n hx hb dX1_append_94 rfl (lv_at hl 0 rfl) ?_
  refine zv_get hx hb hK hts hown hP 5 (by decide) q_fl_RX1_29 (v := .int (zI (F 0))) rfl dX1_append_95 ?_
  refine lv_iload_n hx hb dX1_append_98 rfl (lv_at hl 2 rfl) ?_
  refine zv_sT (x := ba) hx hb hK hP hS (6) (by decide) (hD (2 + 6) (by omega)) (i := F 0) (by omega) dX1_append_99 (fun H locs hP hz ho hS => ?_)
  refine lv_aload_n hx hb dX1_append_100 rfl (lv_at hl 0 rfl) ?_
  refine lv_dup hx hb dX1_append_101 rfl ?_
  refine zv_get hx hb hK hts hown hP 6 (by decide) q_fl_RX1_33 (v := .int (zI (F 1))) rfl dX1_append_102 ?_
  refine z_getsN hx hb hG hS hA (own := RX1) (C := "ScorePress") (n := "VALUE_TICKS") (vs := [672, 576, 384, 336, 288, 192, 168, 144, 96, 84, 72, 48, 36, 24, 12]) (index := 55) (host := RX2) (by decide) hown (by decide) dX1_append_105 (fun t_4 ht_4 => ?_)
  refine lv_iload_n hx hb dX1_append_108 rfl (lv_at hl 1 rfl) ?_
  refine z_tld (vs := [672, 576, 384, 336, 288, 192, 168, 144, 96, 84, 72, 48, 36, 24, 12]) hx hb ht_4 hS (i := v) (by have h9 : ([672, 576, 384, 336, 288, 192, 168, 144, 96, 84, 72, 48, 36, 24, 12] : List Int).length = 15 := rfl; omega) (by decide) dX1_append_109 ?_
  refine z_iadd (x := F 1) (y := valT (v)) hx hb dX1_append_110 ?_
  refine zv_put (x := (F 1) + (valT (v))) hx hb hK hts hown hP hS (hD 0 (by decide)) 1 (by decide) q_fl_RX1_33 dX1_append_111 (fun H locs hP hz ho hS => ?_)
  refine lv_aload_n hx hb dX1_append_114 rfl (lv_at hl 0 rfl) ?_
  refine lv_dup hx hb dX1_append_115 rfl ?_
  refine zv_get hx hb hK hts hown hP 5 (by decide) q_fl_RX1_29 (v := .int (zI (F 0))) rfl dX1_append_116 ?_
  refine z_iconst hx hb dX1_append_119 ?_
  refine z_iadd (x := F 0) (y := 1) hx hb dX1_append_120 ?_
  refine zv_put (x := (F 0) + (1)) hx hb hK hts hown hP hS (hD 0 (by decide)) 0 (by decide) q_fl_RX1_29 dX1_append_121 (fun H locs hP hz ho hS => ?_)
  exact e_Wv hx hb hr hlk hS (by omega) (by omega) hP dX1_append_124
set_option maxHeartbeats 2000000 in
theorem c_X1_putPitch (l : Launch) (G : zG) (ad : Nat → Nat) (T P S A : Nat → Int → Int) (F : Nat → Int) (i st sg oc : Int) (sz : Nat) (hi : 0 ≤ i ∧ i < 200) (hst : 0 ≤ st ∧ st < 7) : MW l yX1_putPitch cX1_putPitch 5 none 1 22 (0) (0) G [.ref (ad 0), .int (zI (i)), .int (zI (st)), .int (zI (sg)), .int (zI (oc))] (fA 21 ad sz) sz (VP G ad T P S A F) (QV (fA 21 ad sz) (fun H => VP G ad (zR T 4 i (toneF st sg oc)) (zR (zR (zR P 0 i st) 1 i sg) 2 i oc) S A F H)) := by
  refine mw_of hp_X1_putPitch (Nat.le_of_ble_eq_true rfl) ?_
  intro p env s m below meth c ls hB hsz hP hl
  obtain ⟨hx, hb, hml, hr, hlk, hown, hts, hG⟩ := hB
  subst hsz
  have hK := hG.1
  have hS : va_S (fA 21 ad s.heap.size) s.heap s.heap [] := va_S.rf
  have hA : ∀ q : Nat, (fA 21 ad s.heap.size) q → G.2.2 ≤ q := fA_lo hP.1.2 hG.2.1
  have hD : ∀ k, k < 21 → (fA 21 ad s.heap.size) (ad k) := fun k hk => fA_in hk
  have hl : lv_has ls 5 [(0, .ref (ad 0)), (1, .int (zI (i))), (2, .int (zI (st))), (3, .int (zI (sg))), (4, .int (zI (oc)))] := hl
  refine lv_aload_n hx hb dX1_putPitch_0 rfl (lv_at hl 0 rfl) ?_
  refine zv_get hx hb hK hts hown hP 1 (by decide) q_fl_RX1_16 (v := .ref (ad 11)) rfl dX1_putPitch_1 ?_
  refine z_iconst hx hb dX1_putPitch_4 ?_
  refine zv_aP hx hb hK hP (0) (by decide) (i := 0) rfl dX1_putPitch_5 ?_
  refine lv_iload_n hx hb dX1_putPitch_6 rfl (lv_at hl 1 rfl) ?_
  refine lv_iload_n hx hb dX1_putPitch_7 rfl (lv_at hl 2 rfl) ?_
  refine zv_sP (x := st) hx hb hK hP hS (0) (by decide) (hD (12 + 0) (by omega)) (i := i) (by omega) dX1_putPitch_8 (fun H locs hP hz ho hS => ?_)
  refine lv_aload_n hx hb dX1_putPitch_9 rfl (lv_at hl 0 rfl) ?_
  refine zv_get hx hb hK hts hown hP 1 (by decide) q_fl_RX1_16 (v := .ref (ad 11)) rfl dX1_putPitch_10 ?_
  refine z_iconst hx hb dX1_putPitch_13 ?_
  refine zv_aP hx hb hK hP (1) (by decide) (i := 1) rfl dX1_putPitch_14 ?_
  refine lv_iload_n hx hb dX1_putPitch_15 rfl (lv_at hl 1 rfl) ?_
  refine lv_iload_n hx hb dX1_putPitch_16 rfl (lv_at hl 3 rfl) ?_
  refine zv_sP (x := sg) hx hb hK hP hS (1) (by decide) (hD (12 + 1) (by omega)) (i := i) (by omega) dX1_putPitch_17 (fun H locs hP hz ho hS => ?_)
  refine lv_aload_n hx hb dX1_putPitch_18 rfl (lv_at hl 0 rfl) ?_
  refine zv_get hx hb hK hts hown hP 1 (by decide) q_fl_RX1_16 (v := .ref (ad 11)) rfl dX1_putPitch_19 ?_
  refine z_iconst hx hb dX1_putPitch_22 ?_
  refine zv_aP hx hb hK hP (2) (by decide) (i := 2) rfl dX1_putPitch_23 ?_
  refine lv_iload_n hx hb dX1_putPitch_24 rfl (lv_at hl 1 rfl) ?_
  refine lv_iload hx hb dX1_putPitch_25 (lv_at hl 4 rfl) ?_
  refine zv_sP (x := oc) hx hb hK hP hS (2) (by decide) (hD (12 + 2) (by omega)) (i := i) (by omega) dX1_putPitch_27 (fun H locs hP hz ho hS => ?_)
  refine lv_aload_n hx hb dX1_putPitch_28 rfl (lv_at hl 0 rfl) ?_
  refine zv_get hx hb hK hts hown hP 0 (by decide) q_fl_RX1_11 (v := .ref (ad 1)) rfl dX1_putPitch_29 ?_
  refine z_iconst hx hb dX1_putPitch_32 ?_
  refine zv_aT hx hb hK hP (4) (by decide) (i := 4) rfl dX1_putPitch_33 ?_
  refine lv_iload_n hx hb dX1_putPitch_34 rfl (lv_at hl 1 rfl) ?_
  refine lv_iload_n hx hb dX1_putPitch_35 rfl (lv_at hl 2 rfl) ?_
  refine lv_iload_n hx hb dX1_putPitch_36 rfl (lv_at hl 3 rfl) ?_
  refine lv_iload hx hb dX1_putPitch_37 (lv_at hl 4 rfl) ?_
  refine k_R (c_NR (host := RX2) (As := [.int (zI (st)), .int (zI (sg)), .int (zI (oc))]) (rest := [.int (zI (i)), .ref (ad (2 + (4)))]) ⟨hx, hb, hml, hown, hts⟩ hG hS hA (c_X2_toneOf l G st sg oc (show 0 ≤ st ∧ st < 7 by omega)) ⟨by decide, q_st_X2_toneOf, q_ini_RX2, q_code_X2_toneOf⟩ hs_X2_toneOf trivial ⟨by decide, by decide⟩ ⟨Nat.zero_le _, Nat.zero_le _⟩ rfl hl.1 rfl (Nat.le_of_ble_eq_true rfl) dX1_putPitch_39) ?_
  refine zv_sT (x := toneF st sg oc) hx hb hK hP hS (4) (by decide) (hD (2 + 4) (by omega)) (i := i) (by omega) dX1_putPitch_42 (fun H locs hP hz ho hS => ?_)
  exact e_Wv hx hb hr hlk hS (by omega) (by omega) hP dX1_putPitch_43
