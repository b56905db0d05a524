def parB (ea eb ta tb : Int) : Int := bI (((tb - ta) % 12 = 0 ∨ (tb - ta) % 12 = 7) ∧ (tb - ta) % 12 = (eb - ea) % 12 ∧ ((ea < ta ∧ eb < tb) ∨ (ta < ea ∧ tb < eb)))
/-- the class's walk over two voices: the first element of b that doesn't begin ahead of a's i -/
def jxC (T : Int → Nat → Int → Int) (Fv : Int → Nat → Int) (a b i : Int) : Int := fp (fun k => T a 0 i ≤ T b 0 k) (Fv b 0)
def cpS (T : Int → Nat → Int → Int) (Fv : Int → Nat → Int) (a b i : Int) (z : Int × Int × Int) : Int × Int × Int :=
  if jxC T Fv a b i < Fv b 0 ∧ T b 0 (jxC T Fv a b i) = T a 0 i ∧ ¬ T a 4 i = -1 ∧ ¬ T b 4 (jxC T Fv a b i) = -1 then
    (if ¬ z.2.1 = -1 ∧ parB z.2.1 z.2.2 (T a 4 i) (T b 4 (jxC T Fv a b i)) = 1 then z.1 + 1 else z.1, T a 4 i, T b 4 (jxC T Fv a b i)) else z
def cpF (T : Int → Nat → Int → Int) (Fv : Int → Nat → Int) (a b : Int) : Int → Int × Int × Int := pf (0, -1, -1) (cpS T Fv a b)
def parC (T : Int → Nat → Int → Int) (Fv : Int → Nat → Int) (a b : Int) : Int := (cpF T Fv a b (Fv a 0)).1
theorem cpF_s (T : Int → Nat → Int → Int) (Fv : Int → Nat → Int) (a b : Int) {e : Int} (h : 0 ≤ e) : cpF T Fv a b (e + 1) = cpS T Fv a b e (cpF T Fv a b e) := pf_s _ _ h
theorem cpF_rng (T : Int → Nat → Int → Int) (Fv : Int → Nat → Int) (a b : Int) {n : Int} (hn : 0 ≤ n) : 0 ≤ (cpF T Fv a b n).1 ∧ (cpF T Fv a b n).1 ≤ n := by
  refine pf_ind (fun (i : Int) (z : Int × Int × Int) => 0 ≤ z.1 ∧ z.1 ≤ i) ⟨Int.le_refl 0, Int.le_refl 0⟩ ?_ hn
  intro k z hk ⟨h1, h2⟩
  unfold cpS
  split
  · have r : ∀ (q : Prop) [Decidable q], z.1 ≤ (if q then z.1 + 1 else z.1) ∧ (if q then z.1 + 1 else z.1) ≤ z.1 + 1 := fun q _ => by split <;> omega
    exact ⟨Int.le_trans h1 (r _).1, Int.le_trans (r _).2 (by omega)⟩
  · exact ⟨h1, by omega⟩
theorem jxC_of {T : Int → Nat → Int → Int} {Fv : Int → Nat → Int} {a b i j : Int} (h0 : 0 ≤ j) (h1 : ∀ k, 0 ≤ k → k < j → T b 0 k < T a 0 i) (h2 : j = Fv b 0 ∨ (j < Fv b 0 ∧ T a 0 i ≤ T b 0 j)) : jxC T Fv a b i = j := by
  have q : fp (fun k => T a 0 i ≤ T b 0 k) j = j := by
    obtain ⟨n, rfl⟩ : ∃ n : Nat, j = (n : Int) := ⟨j.toNat, by omega⟩
    clear h2 h0
    induction n with
    | zero => rfl
    | succ n ih =>
      have := fp_no (q := fun k => T a 0 i ≤ T b 0 k) (n := (n : Int)) (by omega) (ih (fun k g1 g2 => h1 k g1 (by omega))) (by show ¬ _; have := h1 (n : Int) (by omega) (by omega); omega)
      exact this
  rcases h2 with h2 | ⟨h2, h3⟩
  · unfold jxC; rw [← h2]; exact q
  · exact fp_yes (q := fun k => T a 0 i ≤ T b 0 k) h0 q h3 h2
set_option maxHeartbeats 600000 in
theorem c_X2_countParallels (l : Launch) (G : zG) (ad : Nat → Nat) (F : Nat → Int) (A E : Nat → Int → Int) (T P S Av : Int → Nat → Int → Int) (Fv : Int → Nat → Int) (a b : Int) (hVa : 0 ≤ a ∧ a < 4) (hVb : 0 ≤ b ∧ b < 4) (hVoa : VOK (T a) (P a) (Fv a 0)) (hVob : VOK (T b) (P b) (Fv b 0)) (hVm : ∀ i k, 0 ≤ i → i < k → k < Fv a 0 → T a 0 i ≤ T a 0 k) : MR l yX2_countParallels cX2_countParallels 11 (some .int) 2 48 G [.ref (vad ad a 0), .ref (vad ad b 0)] (CP G ad F A E T P S Av Fv) (.int (zI (parC T Fv a b))) := by
  refine mr_of hp_X2_countParallels (Nat.le_of_ble_eq_true rfl) ?_
  intro p env s m below meth c ls hB hP hl
  obtain ⟨hx, hb, hml, hr, hlk, hown, hts, hG⟩ := hB
  have hK := hG.1
  have hS : va_S (fun _ => False) s.heap s.heap [] := va_S.rf
  have hA : ∀ q : Nat, (fun _ : Nat => False) q → G.2.2 ≤ q := fun _ h => h.elim
  have hl : lv_has ls 11 [(0, .ref (vad ad a 0)), (1, .ref (vad ad b 0))] := hl
  have hV_a := CP.voice hP a hVa
  have hV_b := CP.voice hP b hVb
  have hna := hVoa.1
  have hna2 := hVoa.2.1
  have hnb := hVob.1
  have hnb2 := hVob.2.1
  refine z_iconst hx hb dX2_countParallels_0 ?_
  refine lv_istore_n (lv' := [(2, .int (zI (0))), (0, .ref (vad ad a 0)), (1, .ref (vad ad b 0))]) hx hb dX2_countParallels_1 rfl hl (by decide) rfl (fun ls hl => ?_)
  refine z_iconst hx hb dX2_countParallels_2 ?_
  refine lv_istore_n (lv' := [(3, .int (zI (-1))), (2, .int (zI (0))), (0, .ref (vad ad a 0)), (1, .ref (vad ad b 0))]) hx hb dX2_countParallels_3 rfl hl (by decide) rfl (fun ls hl => ?_)
  refine z_iconst hx hb dX2_countParallels_4 ?_
  refine lv_istore (lv' := [(4, .int (zI (-1))), (3, .int (zI (-1))), (2, .int (zI (0))), (0, .ref (vad ad a 0)), (1, .ref (vad ad b 0))]) hx hb dX2_countParallels_5 hl (by decide) rfl (fun ls hl => ?_)
  refine z_iconst hx hb dX2_countParallels_7 ?_
  refine lv_istore (lv' := [(5, .int (zI (0))), (4, .int (zI (-1))), (3, .int (zI (-1))), (2, .int (zI (0))), (0, .ref (vad ad a 0)), (1, .ref (vad ad b 0))]) hx hb dX2_countParallels_8 hl (by decide) rfl (fun ls hl => ?_)
  refine z_iconst hx hb dX2_countParallels_10 ?_
  refine lv_istore (lv' := [(6, .int (zI (0))), (5, .int (zI (0))), (4, .int (zI (-1))), (3, .int (zI (-1))), (2, .int (zI (0))), (0, .ref (vad ad a 0)), (1, .ref (vad ad b 0))]) hx hb dX2_countParallels_11 hl (by decide) rfl (fun ls hl => ?_)
  have lp_13 : ∀ (n : Nat) (i j f9 ea eb : Int), 0 ≤ i → i ≤ Fv a 0 → cpF T Fv a b i = (f9, ea, eb) → (0 ≤ f9 ∧ f9 ≤ i) → (-1 ≤ ea ∧ ea ≤ 1000) → (-1 ≤ eb ∧ eb ≤ 1000) → 0 ≤ j → j ≤ Fv b 0 → (i < Fv a 0 → ∀ k, 0 ≤ k → k < j → T b 0 k < T a 0 i) → Fv a 0 - i < n → ∀ (ls : Array Slot), lv_has ls 11 [(6, .int (zI (i))), (5, .int (zI (j))), (4, .int (zI (eb))), (3, .int (zI (ea))), (2, .int (zI (f9))), (0, .ref (vad ad a 0)), (1, .ref (vad ad b 0))] → W p l env (rmz 2 48 0 0) s m (([.ref (vad ad a 0), .ref (vad ad b 0)] : List Value).toArray) below meth c s.heap [] 0 0 (MQ below (QR (.int (zI (parC T Fv a b)))) (([.ref (vad ad a 0), .ref (vad ad b 0)] : List Value).toArray) s 0 0 (fun _ => False)) (F0 m 13 ls []) := by
    intro n
    induction n with
    | zero => intro i j f9 ea eb h0 h1 h3 h4 h5 h6 h7 h8 hj hm ls hl; exact absurd hm (by omega)
    | succ n ih =>
      intro i j f9 ea eb h0 h1 h3 h4 h5 h6 h7 h8 hj hm ls hl
      have hs := cpF_s T Fv a b h0
      have hj9 : ∀ k, 0 ≤ k → k < j → i < Fv a 0 → T b 0 k < T a 0 i := fun k g1 g2 g3 => hj g3 k g1 g2
      clear hj
      refine lv_iload hx hb dX2_countParallels_13 (lv_at hl 0 rfl) ?_
      refine lv_aload_n hx hb dX2_countParallels_15 rfl (lv_at hl 5 rfl) ?_
      refine zv_get hx hb hK hts hown hV_a 5 (by decide) q_fl_RX2_103 (v := .int (zI ((Fv a) 0))) rfl dX2_countParallels_16 ?_
      refine z_icmp_ge (a := i) (b := (Fv a) 0) (tgt := 171) hx hb dX2_countParallels_19 (by decide) (by omega) (by omega) (fun h_19 => ?_) (fun h_19 => ?_)
      · skip
        refine lv_iload_n hx hb dX2_countParallels_171 rfl (lv_at hl 4 rfl) ?_
        exact e_R (r' := f9) hx hb hr hlk (n_i _) (by unfold parC; rw [show Fv a 0 = i by omega, h3]) dX2_countParallels_172
      · skip
        have hva := hVoa.2.2.1 i h0 (by omega)
        have hi9 : i < Fv a 0 := by omega
        refine lv_aload_n hx hb dX2_countParallels_22 rfl (lv_at hl 5 rfl) ?_
        refine zv_get hx hb hK hts hown hV_a 0 (by decide) q_fl_RX2_114 (v := .ref ((vad ad a) 1)) rfl dX2_countParallels_23 ?_
        refine z_iconst hx hb dX2_countParallels_26 ?_
        refine zv_aT hx hb hK hV_a (0) (by decide) (i := 0) rfl dX2_countParallels_27 ?_
        refine lv_iload hx hb dX2_countParallels_28 (lv_at hl 0 rfl) ?_
        refine zv_lT hx hb hK hV_a (0) (by decide) (i := i) (by omega) dX2_countParallels_30 ?_
        refine lv_istore (lv' := [(7, .int (zI ((T a) 0 (i)))), (6, .int (zI (i))), (5, .int (zI (j))), (4, .int (zI (eb))), (3, .int (zI (ea))), (2, .int (zI (f9))), (0, .ref (vad ad a 0)), (1, .ref (vad ad b 0))]) hx hb dX2_countParallels_31 hl (by decide) rfl (fun ls hl => ?_)
        have lp_33 : ∀ (n : Nat) (j2 : Int), 0 ≤ j2 → j2 ≤ Fv b 0 → (∀ k, 0 ≤ k → k < j2 → T b 0 k < T a 0 i) → Fv b 0 - j2 < n → ∀ (ls : Array Slot), lv_has ls 11 [(7, .int (zI ((T a) 0 (i)))), (6, .int (zI (i))), (5, .int (zI (j2))), (4, .int (zI (eb))), (3, .int (zI (ea))), (2, .int (zI (f9))), (0, .ref (vad ad a 0)), (1, .ref (vad ad b 0))] → W p l env (rmz 2 48 0 0) s m (([.ref (vad ad a 0), .ref (vad ad b 0)] : List Value).toArray) below meth c s.heap [] 0 0 (MQ below (QR (.int (zI (parC T Fv a b)))) (([.ref (vad ad a 0), .ref (vad ad b 0)] : List Value).toArray) s 0 0 (fun _ => False)) (F0 m 33 ls []) := by
          intro n
          induction n with
          | zero => intro j2 g0 g1 g2 gm ls hl; exact absurd gm (by omega)
          | succ n ih2 =>
            intro j2 g0 g1 g2 gm ls hl
            refine lv_iload hx hb dX2_countParallels_33 (lv_at hl 2 rfl) ?_
            refine lv_aload_n hx hb dX2_countParallels_35 rfl (lv_at hl 7 rfl) ?_
            refine zv_get hx hb hK hts hown hV_b 5 (by decide) q_fl_RX2_103 (v := .int (zI ((Fv b) 0))) rfl dX2_countParallels_36 ?_
            refine z_icmp_ge (a := j2) (b := (Fv b) 0) (tgt := 62) hx hb dX2_countParallels_39 (by decide) (by omega) (by omega) (fun h_39 => ?_) (fun h_39 => ?_)
            · skip
              have hj2 : j2 = Fv b 0 ∨ (j2 < Fv b 0 ∧ T a 0 i ≤ T b 0 j2) := Or.inl (by omega)
              have hjx : jxC T Fv a b i = j2 := jxC_of g0 g2 hj2
              have hjn : i + 1 < Fv a 0 → ∀ k, 0 ≤ k → k < j2 → T b 0 k < T a 0 (i + 1) := fun q k q1 q2 => by have := g2 k q1 q2; have := hVm i (i + 1) h0 (by omega) q; omega
              refine lv_iload hx hb dX2_countParallels_62 (lv_at hl 2 rfl) ?_
              refine lv_aload_n hx hb dX2_countParallels_64 rfl (lv_at hl 7 rfl) ?_
              refine zv_get hx hb hK hts hown hV_b 5 (by decide) q_fl_RX2_103 (v := .int (zI ((Fv b) 0))) rfl dX2_countParallels_65 ?_
              refine z_icmp_ge (a := j2) (b := (Fv b) 0) (tgt := 89) hx hb dX2_countParallels_68 (by decide) (by omega) (by omega) (fun h_68 => ?_) (fun h_68 => ?_)
              · skip
                refine z_iconst hx hb dX2_countParallels_89 ?_
                refine lv_istore (lv' := [(8, .int (zI (0))), (7, .int (zI ((T a) 0 (i)))), (6, .int (zI (i))), (5, .int (zI (j2))), (4, .int (zI (eb))), (3, .int (zI (ea))), (2, .int (zI (f9))), (0, .ref (vad ad a 0)), (1, .ref (vad ad b 0))]) hx hb dX2_countParallels_90 hl (by decide) rfl (fun ls hl => ?_)
                refine lv_iload hx hb dX2_countParallels_92 (lv_at hl 0 rfl) ?_
                refine z_if_eq (a := 0) (tgt := 165) hx hb dX2_countParallels_94 (by decide) (by omega) (fun h_94 => ?_) (fun h_94 => ?_)
                · skip
                  refine z_iinc (lv' := [(6, .int (zI (i + 1))), (8, .int (zI (0))), (7, .int (zI ((T a) 0 (i)))), (5, .int (zI (j2))), (4, .int (zI (eb))), (3, .int (zI (ea))), (2, .int (zI (f9))), (0, .ref (vad ad a 0)), (1, .ref (vad ad b 0))]) hx hb dX2_countParallels_165 hl (k := 2) rfl (by decide) rfl (fun ls hl => ?_)
                  refine lv_goto (tgt := 13) hx hb dX2_countParallels_168 (by decide) ?_
                  exact ih (i + 1) (j2) (f9) (ea) (eb) (by omega) (by omega) (by rw [hs, h3]; show (if (jxC T Fv a b i) < Fv b 0 ∧ T b 0 (jxC T Fv a b i) = T a 0 i ∧ ¬ T a 4 i = -1 ∧ ¬ T b 4 (jxC T Fv a b i) = -1 then (if ¬ ea = -1 ∧ parB ea eb (T a 4 i) (T b 4 (jxC T Fv a b i)) = 1 then f9 + 1 else f9, T a 4 i, T b 4 (jxC T Fv a b i)) else (f9, ea, eb)) = _; rw [hjx]; first | (exfalso; omega) | rw [if_neg (by omega)] | (rw [if_pos (by omega)]; first | rw [if_pos (by omega)] | rw [if_neg (by omega)])) (by omega) (by omega) (by omega) (by omega) (by omega) (hjn) (by omega) _ (lv_sub hl [0, 3, 4, 5, 6, 7, 8] rfl)
                · skip
                  refine lv_aload_n hx hb dX2_countParallels_97 rfl (lv_at hl 7 rfl) ?_
                  refine lv_iload hx hb dX2_countParallels_98 (lv_at hl 2 rfl) ?_
                  refine k_R (c_VR (As := [.int (zI (i))]) (rest := []) ⟨hx, hb, hml, hown, hts⟩ hG hS hA (c_X1_isNote l G (vad ad a) (T a) (P a) (S a) (Av a) (Fv a) i (by omega) (by omega)) ⟨q_ml_RX2_131, q_im_X1_isNote, q_sel_X1_isNote, q_ini_RX1, q_code_X1_isNote⟩ hv_X1_isNote (VP.rec hK hV_a) hV_a ⟨by decide, by decide⟩ ⟨Nat.zero_le _, Nat.zero_le _⟩ rfl hl.1 rfl (Nat.le_of_ble_eq_true rfl) dX2_countParallels_100) ?_
                  refine z_bif_eq (q := ¬ (T a) 4 i = -1) (tgt := 165) hx hb dX2_countParallels_103 (by decide) (fun h_103 => ?_) (fun h_103 => ?_)
                  · skip
                    refine z_iinc (lv' := [(6, .int (zI (i + 1))), (8, .int (zI (0))), (7, .int (zI ((T a) 0 (i)))), (5, .int (zI (j2))), (4, .int (zI (eb))), (3, .int (zI (ea))), (2, .int (zI (f9))), (0, .ref (vad ad a 0)), (1, .ref (vad ad b 0))]) hx hb dX2_countParallels_165 hl (k := 2) rfl (by decide) rfl (fun ls hl => ?_)
                    refine lv_goto (tgt := 13) hx hb dX2_countParallels_168 (by decide) ?_
                    exact ih (i + 1) (j2) (f9) (ea) (eb) (by omega) (by omega) (by rw [hs, h3]; show (if (jxC T Fv a b i) < Fv b 0 ∧ T b 0 (jxC T Fv a b i) = T a 0 i ∧ ¬ T a 4 i = -1 ∧ ¬ T b 4 (jxC T Fv a b i) = -1 then (if ¬ ea = -1 ∧ parB ea eb (T a 4 i) (T b 4 (jxC T Fv a b i)) = 1 then f9 + 1 else f9, T a 4 i, T b 4 (jxC T Fv a b i)) else (f9, ea, eb)) = _; rw [hjx]; first | (exfalso; omega) | rw [if_neg (by omega)] | (rw [if_pos (by omega)]; first | rw [if_pos (by omega)] | rw [if_neg (by omega)])) (by omega) (by omega) (by omega) (by omega) (by omega) (hjn) (by omega) _ (lv_sub hl [0, 3, 4, 5, 6, 7, 8] rfl)
                  · skip
                    refine lv_aload_n hx hb dX2_countParallels_106 rfl (lv_at hl 8 rfl) ?_
                    refine lv_iload hx hb dX2_countParallels_107 (lv_at hl 3 rfl) ?_
                    refine k_R (c_VR (As := [.int (zI (j2))]) (rest := []) ⟨hx, hb, hml, hown, hts⟩ hG hS hA (c_X1_isNote l G (vad ad b) (T b) (P b) (S b) (Av b) (Fv b) j2 (by omega) (by omega)) ⟨q_ml_RX2_131, q_im_X1_isNote, q_sel_X1_isNote, q_ini_RX1, q_code_X1_isNote⟩ hv_X1_isNote (VP.rec hK hV_b) hV_b ⟨by decide, by decide⟩ ⟨Nat.zero_le _, Nat.zero_le _⟩ rfl hl.1 rfl (Nat.le_of_ble_eq_true rfl) dX2_countParallels_109) ?_
                    refine z_bif_eq (q := ¬ (T b) 4 j2 = -1) (tgt := 165) hx hb dX2_countParallels_112 (by decide) (fun h_112 => ?_) (fun h_112 => ?_)
                    · skip
                      refine z_iinc (lv' := [(6, .int (zI (i + 1))), (8, .int (zI (0))), (7, .int (zI ((T a) 0 (i)))), (5, .int (zI (j2))), (4, .int (zI (eb))), (3, .int (zI (ea))), (2, .int (zI (f9))), (0, .ref (vad ad a 0)), (1, .ref (vad ad b 0))]) hx hb dX2_countParallels_165 hl (k := 2) rfl (by decide) rfl (fun ls hl => ?_)
                      refine lv_goto (tgt := 13) hx hb dX2_countParallels_168 (by decide) ?_
                      exact ih (i + 1) (j2) (f9) (ea) (eb) (by omega) (by omega) (by rw [hs, h3]; show (if (jxC T Fv a b i) < Fv b 0 ∧ T b 0 (jxC T Fv a b i) = T a 0 i ∧ ¬ T a 4 i = -1 ∧ ¬ T b 4 (jxC T Fv a b i) = -1 then (if ¬ ea = -1 ∧ parB ea eb (T a 4 i) (T b 4 (jxC T Fv a b i)) = 1 then f9 + 1 else f9, T a 4 i, T b 4 (jxC T Fv a b i)) else (f9, ea, eb)) = _; rw [hjx]; first | (exfalso; omega) | rw [if_neg (by omega)] | (rw [if_pos (by omega)]; first | rw [if_pos (by omega)] | rw [if_neg (by omega)])) (by omega) (by omega) (by omega) (by omega) (by omega) (hjn) (by omega) _ (lv_sub hl [0, 3, 4, 5, 6, 7, 8] rfl)
                    · skip
                      refine lv_aload_n hx hb dX2_countParallels_115 rfl (lv_at hl 7 rfl) ?_
                      refine zv_get hx hb hK hts hown hV_a 0 (by decide) q_fl_RX2_114 (v := .ref ((vad ad a) 1)) rfl dX2_countParallels_116 ?_
                      refine z_iconst hx hb dX2_countParallels_119 ?_
                      refine zv_aT hx hb hK hV_a (4) (by decide) (i := 4) rfl dX2_countParallels_120 ?_
                      refine lv_iload hx hb dX2_countParallels_121 (lv_at hl 2 rfl) ?_
                      refine zv_lT hx hb hK hV_a (4) (by decide) (i := i) (by omega) dX2_countParallels_123 ?_
                      refine lv_istore (lv' := [(9, .int (zI ((T a) 4 (i)))), (8, .int (zI (0))), (7, .int (zI ((T a) 0 (i)))), (6, .int (zI (i))), (5, .int (zI (j2))), (4, .int (zI (eb))), (3, .int (zI (ea))), (2, .int (zI (f9))), (0, .ref (vad ad a 0)), (1, .ref (vad ad b 0))]) hx hb dX2_countParallels_124 hl (by decide) rfl (fun ls hl => ?_)
                      refine lv_aload_n hx hb dX2_countParallels_126 rfl (lv_at hl 9 rfl) ?_
                      refine zv_get hx hb hK hts hown hV_b 0 (by decide) q_fl_RX2_114 (v := .ref ((vad ad b) 1)) rfl dX2_countParallels_127 ?_
                      refine z_iconst hx hb dX2_countParallels_130 ?_
                      refine zv_aT hx hb hK hV_b (4) (by decide) (i := 4) rfl dX2_countParallels_131 ?_
                      refine lv_iload hx hb dX2_countParallels_132 (lv_at hl 4 rfl) ?_
                      refine zv_lT hx hb hK hV_b (4) (by decide) (i := j2) (by omega) dX2_countParallels_134 ?_
                      refine lv_istore (lv' := [(10, .int (zI ((T b) 4 (j2)))), (9, .int (zI ((T a) 4 (i)))), (8, .int (zI (0))), (7, .int (zI ((T a) 0 (i)))), (6, .int (zI (i))), (5, .int (zI (j2))), (4, .int (zI (eb))), (3, .int (zI (ea))), (2, .int (zI (f9))), (0, .ref (vad ad a 0)), (1, .ref (vad ad b 0))]) hx hb dX2_countParallels_135 hl (by decide) rfl (fun ls hl => ?_)
                      refine lv_iload_n hx hb dX2_countParallels_137 rfl (lv_at hl 7 rfl) ?_
                      refine z_iconst hx hb dX2_countParallels_138 ?_
                      refine z_icmp_eq (a := ea) (b := -1) (tgt := 158) hx hb dX2_countParallels_139 (by decide) (by omega) (by omega) (fun h_139 => ?_) (fun h_139 => ?_)
                      · skip
                        refine lv_iload hx hb dX2_countParallels_158 (lv_at hl 1 rfl) ?_
                        refine lv_istore_n (lv' := [(3, .int (zI ((T a) 4 (i)))), (10, .int (zI ((T b) 4 (j2)))), (9, .int (zI ((T a) 4 (i)))), (8, .int (zI (0))), (7, .int (zI ((T a) 0 (i)))), (6, .int (zI (i))), (5, .int (zI (j2))), (4, .int (zI (eb))), (2, .int (zI (f9))), (0, .ref (vad ad a 0)), (1, .ref (vad ad b 0))]) hx hb dX2_countParallels_160 rfl hl (by decide) rfl (fun ls hl => ?_)
                        refine lv_iload hx hb dX2_countParallels_161 (lv_at hl 1 rfl) ?_
                        refine lv_istore (lv' := [(4, .int (zI ((T b) 4 (j2)))), (3, .int (zI ((T a) 4 (i)))), (10, .int (zI ((T b) 4 (j2)))), (9, .int (zI ((T a) 4 (i)))), (8, .int (zI (0))), (7, .int (zI ((T a) 0 (i)))), (6, .int (zI (i))), (5, .int (zI (j2))), (2, .int (zI (f9))), (0, .ref (vad ad a 0)), (1, .ref (vad ad b 0))]) hx hb dX2_countParallels_163 hl (by decide) rfl (fun ls hl => ?_)
                        refine z_iinc (lv' := [(6, .int (zI (i + 1))), (4, .int (zI ((T b) 4 (j2)))), (3, .int (zI ((T a) 4 (i)))), (10, .int (zI ((T b) 4 (j2)))), (9, .int (zI ((T a) 4 (i)))), (8, .int (zI (0))), (7, .int (zI ((T a) 0 (i)))), (5, .int (zI (j2))), (2, .int (zI (f9))), (0, .ref (vad ad a 0)), (1, .ref (vad ad b 0))]) hx hb dX2_countParallels_165 hl (k := 6) rfl (by decide) rfl (fun ls hl => ?_)
                        refine lv_goto (tgt := 13) hx hb dX2_countParallels_168 (by decide) ?_
                        exact ih (i + 1) (j2) (f9) ((T a) 4 (i)) ((T b) 4 (j2)) (by omega) (by omega) (by rw [hs, h3]; show (if (jxC T Fv a b i) < Fv b 0 ∧ T b 0 (jxC T Fv a b i) = T a 0 i ∧ ¬ T a 4 i = -1 ∧ ¬ T b 4 (jxC T Fv a b i) = -1 then (if ¬ ea = -1 ∧ parB ea eb (T a 4 i) (T b 4 (jxC T Fv a b i)) = 1 then f9 + 1 else f9, T a 4 i, T b 4 (jxC T Fv a b i)) else (f9, ea, eb)) = _; rw [hjx]; first | (exfalso; omega) | rw [if_neg (by omega)] | (rw [if_pos (by omega)]; first | rw [if_pos (by omega)] | rw [if_neg (by omega)])) (by omega) (by omega) (by omega) (by omega) (by omega) (hjn) (by omega) _ (lv_sub hl [0, 7, 1, 2, 8, 9, 10] rfl)
                      · skip
                        refine lv_iload_n hx hb dX2_countParallels_142 rfl (lv_at hl 7 rfl) ?_
                        refine lv_iload hx hb dX2_countParallels_143 (lv_at hl 6 rfl) ?_
                        refine lv_iload hx hb dX2_countParallels_145 (lv_at hl 1 rfl) ?_
                        refine lv_iload hx hb dX2_countParallels_147 (lv_at hl 0 rfl) ?_
                        refine k_R (c_SR (As := [.int (zI (ea)), .int (zI (eb)), .int (zI ((T a) 4 (i))), .int (zI ((T b) 4 (j2)))]) (rest := []) ⟨hx, hb, hml, hown, hts⟩ hG hS hA (c_X2_isParallel l G ea eb ((T a) 4 (i)) ((T b) 4 (j2)) (by omega) (by omega) (by omega) (by omega)) ⟨q_ml_RX2_273, q_st_X2_isParallel, q_ini_RX2, q_code_X2_isParallel⟩ hs_X2_isParallel trivial ⟨by decide, by decide⟩ ⟨Nat.zero_le _, Nat.zero_le _⟩ rfl hl.1 rfl (Nat.le_of_ble_eq_true rfl) dX2_countParallels_149) ?_
                        refine z_bif_eq (q := ((((T b) 4 (j2)) - ((T a) 4 (i))) % 12 = 0 ∨ (((T b) 4 (j2)) - ((T a) 4 (i))) % 12 = 7) ∧ (((T b) 4 (j2)) - ((T a) 4 (i))) % 12 = (eb - ea) % 12 ∧ ((ea < ((T a) 4 (i)) ∧ eb < ((T b) 4 (j2))) ∨ (((T a) 4 (i)) < ea ∧ ((T b) 4 (j2)) < eb))) (tgt := 158) hx hb dX2_countParallels_152 (by decide) (fun h_152 => ?_) (fun h_152 => ?_)
                        · skip
                          have hpar : parB ea eb (T a 4 i) (T b 4 j2) = 0 := (bI_f h_152).symm
                          refine lv_iload hx hb dX2_countParallels_158 (lv_at hl 1 rfl) ?_
                          refine lv_istore_n (lv' := [(3, .int (zI ((T a) 4 (i)))), (10, .int (zI ((T b) 4 (j2)))), (9, .int (zI ((T a) 4 (i)))), (8, .int (zI (0))), (7, .int (zI ((T a) 0 (i)))), (6, .int (zI (i))), (5, .int (zI (j2))), (4, .int (zI (eb))), (2, .int (zI (f9))), (0, .ref (vad ad a 0)), (1, .ref (vad ad b 0))]) hx hb dX2_countParallels_160 rfl hl (by decide) rfl (fun ls hl => ?_)
                          refine lv_iload hx hb dX2_countParallels_161 (lv_at hl 1 rfl) ?_
                          refine lv_istore (lv' := [(4, .int (zI ((T b) 4 (j2)))), (3, .int (zI ((T a) 4 (i)))), (10, .int (zI ((T b) 4 (j2)))), (9, .int (zI ((T a) 4 (i)))), (8, .int (zI (0))), (7, .int (zI ((T a) 0 (i)))), (6, .int (zI (i))), (5, .int (zI (j2))), (2, .int (zI (f9))), (0, .ref (vad ad a 0)), (1, .ref (vad ad b 0))]) hx hb dX2_countParallels_163 hl (by decide) rfl (fun ls hl => ?_)
                          refine z_iinc (lv' := [(6, .int (zI (i + 1))), (4, .int (zI ((T b) 4 (j2)))), (3, .int (zI ((T a) 4 (i)))), (10, .int (zI ((T b) 4 (j2)))), (9, .int (zI ((T a) 4 (i)))), (8, .int (zI (0))), (7, .int (zI ((T a) 0 (i)))), (5, .int (zI (j2))), (2, .int (zI (f9))), (0, .ref (vad ad a 0)), (1, .ref (vad ad b 0))]) hx hb dX2_countParallels_165 hl (k := 6) rfl (by decide) rfl (fun ls hl => ?_)
                          refine lv_goto (tgt := 13) hx hb dX2_countParallels_168 (by decide) ?_
                          exact ih (i + 1) (j2) (f9) ((T a) 4 (i)) ((T b) 4 (j2)) (by omega) (by omega) (by rw [hs, h3]; show (if (jxC T Fv a b i) < Fv b 0 ∧ T b 0 (jxC T Fv a b i) = T a 0 i ∧ ¬ T a 4 i = -1 ∧ ¬ T b 4 (jxC T Fv a b i) = -1 then (if ¬ ea = -1 ∧ parB ea eb (T a 4 i) (T b 4 (jxC T Fv a b i)) = 1 then f9 + 1 else f9, T a 4 i, T b 4 (jxC T Fv a b i)) else (f9, ea, eb)) = _; rw [hjx]; first | (exfalso; omega) | rw [if_neg (by omega)] | (rw [if_pos (by omega)]; first | rw [if_pos (by omega)] | rw [if_neg (by omega)])) (by omega) (by omega) (by omega) (by omega) (by omega) (hjn) (by omega) _ (lv_sub hl [0, 7, 1, 2, 8, 9, 10] rfl)
                        · skip
                          have hpar : parB ea eb (T a 4 i) (T b 4 j2) = 1 := (bI_t h_152).symm
                          refine z_iinc (lv' := [(2, .int (zI (f9 + 1))), (10, .int (zI ((T b) 4 (j2)))), (9, .int (zI ((T a) 4 (i)))), (8, .int (zI (0))), (7, .int (zI ((T a) 0 (i)))), (6, .int (zI (i))), (5, .int (zI (j2))), (4, .int (zI (eb))), (3, .int (zI (ea))), (0, .ref (vad ad a 0)), (1, .ref (vad ad b 0))]) hx hb dX2_countParallels_155 hl (k := 8) rfl (by decide) rfl (fun ls hl => ?_)
                          refine lv_iload hx hb dX2_countParallels_158 (lv_at hl 2 rfl) ?_
                          refine lv_istore_n (lv' := [(3, .int (zI ((T a) 4 (i)))), (2, .int (zI (f9 + 1))), (10, .int (zI ((T b) 4 (j2)))), (9, .int (zI ((T a) 4 (i)))), (8, .int (zI (0))), (7, .int (zI ((T a) 0 (i)))), (6, .int (zI (i))), (5, .int (zI (j2))), (4, .int (zI (eb))), (0, .ref (vad ad a 0)), (1, .ref (vad ad b 0))]) hx hb dX2_countParallels_160 rfl hl (by decide) rfl (fun ls hl => ?_)
                          refine lv_iload hx hb dX2_countParallels_161 (lv_at hl 2 rfl) ?_
                          refine lv_istore (lv' := [(4, .int (zI ((T b) 4 (j2)))), (3, .int (zI ((T a) 4 (i)))), (2, .int (zI (f9 + 1))), (10, .int (zI ((T b) 4 (j2)))), (9, .int (zI ((T a) 4 (i)))), (8, .int (zI (0))), (7, .int (zI ((T a) 0 (i)))), (6, .int (zI (i))), (5, .int (zI (j2))), (0, .ref (vad ad a 0)), (1, .ref (vad ad b 0))]) hx hb dX2_countParallels_163 hl (by decide) rfl (fun ls hl => ?_)
                          refine z_iinc (lv' := [(6, .int (zI (i + 1))), (4, .int (zI ((T b) 4 (j2)))), (3, .int (zI ((T a) 4 (i)))), (2, .int (zI (f9 + 1))), (10, .int (zI ((T b) 4 (j2)))), (9, .int (zI ((T a) 4 (i)))), (8, .int (zI (0))), (7, .int (zI ((T a) 0 (i)))), (5, .int (zI (j2))), (0, .ref (vad ad a 0)), (1, .ref (vad ad b 0))]) hx hb dX2_countParallels_165 hl (k := 7) rfl (by decide) rfl (fun ls hl => ?_)
                          refine lv_goto (tgt := 13) hx hb dX2_countParallels_168 (by decide) ?_
                          exact ih (i + 1) (j2) (f9 + 1) ((T a) 4 (i)) ((T b) 4 (j2)) (by omega) (by omega) (by rw [hs, h3]; show (if (jxC T Fv a b i) < Fv b 0 ∧ T b 0 (jxC T Fv a b i) = T a 0 i ∧ ¬ T a 4 i = -1 ∧ ¬ T b 4 (jxC T Fv a b i) = -1 then (if ¬ ea = -1 ∧ parB ea eb (T a 4 i) (T b 4 (jxC T Fv a b i)) = 1 then f9 + 1 else f9, T a 4 i, T b 4 (jxC T Fv a b i)) else (f9, ea, eb)) = _; rw [hjx]; first | (exfalso; omega) | rw [if_neg (by omega)] | (rw [if_pos (by omega)]; first | rw [if_pos (by omega)] | rw [if_neg (by omega)])) (by omega) (by omega) (by omega) (by omega) (by omega) (hjn) (by omega) _ (lv_sub hl [0, 8, 1, 2, 3, 9, 10] rfl)
              · skip
                refine lv_aload_n hx hb dX2_countParallels_71 rfl (lv_at hl 7 rfl) ?_
                refine zv_get hx hb hK hts hown hV_b 0 (by decide) q_fl_RX2_114 (v := .ref ((vad ad b) 1)) rfl dX2_countParallels_72 ?_
                refine z_iconst hx hb dX2_countParallels_75 ?_
                refine zv_aT hx hb hK hV_b (0) (by decide) (i := 0) rfl dX2_countParallels_76 ?_
                refine lv_iload hx hb dX2_countParallels_77 (lv_at hl 2 rfl) ?_
                refine zv_lT hx hb hK hV_b (0) (by decide) (i := j2) (by omega) dX2_countParallels_79 ?_
                refine lv_iload hx hb dX2_countParallels_80 (lv_at hl 0 rfl) ?_
                refine z_icmp_ne (a := (T b) 0 (j2)) (b := (T a) 0 (i)) (tgt := 89) hx hb dX2_countParallels_82 (by decide) (by omega) (by omega) (fun h_82 => ?_) (fun h_82 => ?_)
                · skip
                  refine z_iconst hx hb dX2_countParallels_89 ?_
                  refine lv_istore (lv' := [(8, .int (zI (0))), (7, .int (zI ((T a) 0 (i)))), (6, .int (zI (i))), (5, .int (zI (j2))), (4, .int (zI (eb))), (3, .int (zI (ea))), (2, .int (zI (f9))), (0, .ref (vad ad a 0)), (1, .ref (vad ad b 0))]) hx hb dX2_countParallels_90 hl (by decide) rfl (fun ls hl => ?_)
                  refine lv_iload hx hb dX2_countParallels_92 (lv_at hl 0 rfl) ?_
                  refine z_if_eq (a := 0) (tgt := 165) hx hb dX2_countParallels_94 (by decide) (by omega) (fun h_94 => ?_) (fun h_94 => ?_)
                  · skip
                    refine z_iinc (lv' := [(6, .int (zI (i + 1))), (8, .int (zI (0))), (7, .int (zI ((T a) 0 (i)))), (5, .int (zI (j2))), (4, .int (zI (eb))), (3, .int (zI (ea))), (2, .int (zI (f9))), (0, .ref (vad ad a 0)), (1, .ref (vad ad b 0))]) hx hb dX2_countParallels_165 hl (k := 2) rfl (by decide) rfl (fun ls hl => ?_)
                    refine lv_goto (tgt := 13) hx hb dX2_countParallels_168 (by decide) ?_
                    exact ih (i + 1) (j2) (f9) (ea) (eb) (by omega) (by omega) (by rw [hs, h3]; show (if (jxC T Fv a b i) < Fv b 0 ∧ T b 0 (jxC T Fv a b i) = T a 0 i ∧ ¬ T a 4 i = -1 ∧ ¬ T b 4 (jxC T Fv a b i) = -1 then (if ¬ ea = -1 ∧ parB ea eb (T a 4 i) (T b 4 (jxC T Fv a b i)) = 1 then f9 + 1 else f9, T a 4 i, T b 4 (jxC T Fv a b i)) else (f9, ea, eb)) = _; rw [hjx]; first | (exfalso; omega) | rw [if_neg (by omega)] | (rw [if_pos (by omega)]; first | rw [if_pos (by omega)] | rw [if_neg (by omega)])) (by omega) (by omega) (by omega) (by omega) (by omega) (hjn) (by omega) _ (lv_sub hl [0, 3, 4, 5, 6, 7, 8] rfl)
                  · skip
                    refine lv_aload_n hx hb dX2_countParallels_97 rfl (lv_at hl 7 rfl) ?_
                    refine lv_iload hx hb dX2_countParallels_98 (lv_at hl 2 rfl) ?_
                    refine k_R (c_VR (As := [.int (zI (i))]) (rest := []) ⟨hx, hb, hml, hown, hts⟩ hG hS hA (c_X1_isNote l G (vad ad a) (T a) (P a) (S a) (Av a) (Fv a) i (by omega) (by omega)) ⟨q_ml_RX2_131, q_im_X1_isNote, q_sel_X1_isNote, q_ini_RX1, q_code_X1_isNote⟩ hv_X1_isNote (VP.rec hK hV_a) hV_a ⟨by decide, by decide⟩ ⟨Nat.zero_le _, Nat.zero_le _⟩ rfl hl.1 rfl (Nat.le_of_ble_eq_true rfl) dX2_countParallels_100) ?_
                    refine z_bif_eq (q := ¬ (T a) 4 i = -1) (tgt := 165) hx hb dX2_countParallels_103 (by decide) (fun h_103 => ?_) (fun h_103 => ?_)
                    · skip
                      refine z_iinc (lv' := [(6, .int (zI (i + 1))), (8, .int (zI (0))), (7, .int (zI ((T a) 0 (i)))), (5, .int (zI (j2))), (4, .int (zI (eb))), (3, .int (zI (ea))), (2, .int (zI (f9))), (0, .ref (vad ad a 0)), (1, .ref (vad ad b 0))]) hx hb dX2_countParallels_165 hl (k := 2) rfl (by decide) rfl (fun ls hl => ?_)
                      refine lv_goto (tgt := 13) hx hb dX2_countParallels_168 (by decide) ?_
                      exact ih (i + 1) (j2) (f9) (ea) (eb) (by omega) (by omega) (by rw [hs, h3]; show (if (jxC T Fv a b i) < Fv b 0 ∧ T b 0 (jxC T Fv a b i) = T a 0 i ∧ ¬ T a 4 i = -1 ∧ ¬ T b 4 (jxC T Fv a b i) = -1 then (if ¬ ea = -1 ∧ parB ea eb (T a 4 i) (T b 4 (jxC T Fv a b i)) = 1 then f9 + 1 else f9, T a 4 i, T b 4 (jxC T Fv a b i)) else (f9, ea, eb)) = _; rw [hjx]; first | (exfalso; omega) | rw [if_neg (by omega)] | (rw [if_pos (by omega)]; first | rw [if_pos (by omega)] | rw [if_neg (by omega)])) (by omega) (by omega) (by omega) (by omega) (by omega) (hjn) (by omega) _ (lv_sub hl [0, 3, 4, 5, 6, 7, 8] rfl)
                    · skip
                      refine lv_aload_n hx hb dX2_countParallels_106 rfl (lv_at hl 8 rfl) ?_
                      refine lv_iload hx hb dX2_countParallels_107 (lv_at hl 3 rfl) ?_
                      refine k_R (c_VR (As := [.int (zI (j2))]) (rest := []) ⟨hx, hb, hml, hown, hts⟩ hG hS hA (c_X1_isNote l G (vad ad b) (T b) (P b) (S b) (Av b) (Fv b) j2 (by omega) (by omega)) ⟨q_ml_RX2_131, q_im_X1_isNote, q_sel_X1_isNote, q_ini_RX1, q_code_X1_isNote⟩ hv_X1_isNote (VP.rec hK hV_b) hV_b ⟨by decide, by decide⟩ ⟨Nat.zero_le _, Nat.zero_le _⟩ rfl hl.1 rfl (Nat.le_of_ble_eq_true rfl) dX2_countParallels_109) ?_
                      refine z_bif_eq (q := ¬ (T b) 4 j2 = -1) (tgt := 165) hx hb dX2_countParallels_112 (by decide) (fun h_112 => ?_) (fun h_112 => ?_)
                      · skip
                        refine z_iinc (lv' := [(6, .int (zI (i + 1))), (8, .int (zI (0))), (7, .int (zI ((T a) 0 (i)))), (5, .int (zI (j2))), (4, .int (zI (eb))), (3, .int (zI (ea))), (2, .int (zI (f9))), (0, .ref (vad ad a 0)), (1, .ref (vad ad b 0))]) hx hb dX2_countParallels_165 hl (k := 2) rfl (by decide) rfl (fun ls hl => ?_)
                        refine lv_goto (tgt := 13) hx hb dX2_countParallels_168 (by decide) ?_
                        exact ih (i + 1) (j2) (f9) (ea) (eb) (by omega) (by omega) (by rw [hs, h3]; show (if (jxC T Fv a b i) < Fv b 0 ∧ T b 0 (jxC T Fv a b i) = T a 0 i ∧ ¬ T a 4 i = -1 ∧ ¬ T b 4 (jxC T Fv a b i) = -1 then (if ¬ ea = -1 ∧ parB ea eb (T a 4 i) (T b 4 (jxC T Fv a b i)) = 1 then f9 + 1 else f9, T a 4 i, T b 4 (jxC T Fv a b i)) else (f9, ea, eb)) = _; rw [hjx]; first | (exfalso; omega) | rw [if_neg (by omega)] | (rw [if_pos (by omega)]; first | rw [if_pos (by omega)] | rw [if_neg (by omega)])) (by omega) (by omega) (by omega) (by omega) (by omega) (hjn) (by omega) _ (lv_sub hl [0, 3, 4, 5, 6, 7, 8] rfl)
                      · skip
                        refine lv_aload_n hx hb dX2_countParallels_115 rfl (lv_at hl 7 rfl) ?_
                        refine zv_get hx hb hK hts hown hV_a 0 (by decide) q_fl_RX2_114 (v := .ref ((vad ad a) 1)) rfl dX2_countParallels_116 ?_
                        refine z_iconst hx hb dX2_countParallels_119 ?_
                        refine zv_aT hx hb hK hV_a (4) (by decide) (i := 4) rfl dX2_countParallels_120 ?_
                        refine lv_iload hx hb dX2_countParallels_121 (lv_at hl 2 rfl) ?_
                        refine zv_lT hx hb hK hV_a (4) (by decide) (i := i) (by omega) dX2_countParallels_123 ?_
                        refine lv_istore (lv' := [(9, .int (zI ((T a) 4 (i)))), (8, .int (zI (0))), (7, .int (zI ((T a) 0 (i)))), (6, .int (zI (i))), (5, .int (zI (j2))), (4, .int (zI (eb))), (3, .int (zI (ea))), (2, .int (zI (f9))), (0, .ref (vad ad a 0)), (1, .ref (vad ad b 0))]) hx hb dX2_countParallels_124 hl (by decide) rfl (fun ls hl => ?_)
                        refine lv_aload_n hx hb dX2_countParallels_126 rfl (lv_at hl 9 rfl) ?_
                        refine zv_get hx hb hK hts hown hV_b 0 (by decide) q_fl_RX2_114 (v := .ref ((vad ad b) 1)) rfl dX2_countParallels_127 ?_
                        refine z_iconst hx hb dX2_countParallels_130 ?_
                        refine zv_aT hx hb hK hV_b (4) (by decide) (i := 4) rfl dX2_countParallels_131 ?_
                        refine lv_iload hx hb dX2_countParallels_132 (lv_at hl 4 rfl) ?_
                        refine zv_lT hx hb hK hV_b (4) (by decide) (i := j2) (by omega) dX2_countParallels_134 ?_
                        refine lv_istore (lv' := [(10, .int (zI ((T b) 4 (j2)))), (9, .int (zI ((T a) 4 (i)))), (8, .int (zI (0))), (7, .int (zI ((T a) 0 (i)))), (6, .int (zI (i))), (5, .int (zI (j2))), (4, .int (zI (eb))), (3, .int (zI (ea))), (2, .int (zI (f9))), (0, .ref (vad ad a 0)), (1, .ref (vad ad b 0))]) hx hb dX2_countParallels_135 hl (by decide) rfl (fun ls hl => ?_)
                        refine lv_iload_n hx hb dX2_countParallels_137 rfl (lv_at hl 7 rfl) ?_
                        refine z_iconst hx hb dX2_countParallels_138 ?_
                        refine z_icmp_eq (a := ea) (b := -1) (tgt := 158) hx hb dX2_countParallels_139 (by decide) (by omega) (by omega) (fun h_139 => ?_) (fun h_139 => ?_)
                        · skip
                          refine lv_iload hx hb dX2_countParallels_158 (lv_at hl 1 rfl) ?_
                          refine lv_istore_n (lv' := [(3, .int (zI ((T a) 4 (i)))), (10, .int (zI ((T b) 4 (j2)))), (9, .int (zI ((T a) 4 (i)))), (8, .int (zI (0))), (7, .int (zI ((T a) 0 (i)))), (6, .int (zI (i))), (5, .int (zI (j2))), (4, .int (zI (eb))), (2, .int (zI (f9))), (0, .ref (vad ad a 0)), (1, .ref (vad ad b 0))]) hx hb dX2_countParallels_160 rfl hl (by decide) rfl (fun ls hl => ?_)
                          refine lv_iload hx hb dX2_countParallels_161 (lv_at hl 1 rfl) ?_
                          refine lv_istore (lv' := [(4, .int (zI ((T b) 4 (j2)))), (3, .int (zI ((T a) 4 (i)))), (10, .int (zI ((T b) 4 (j2)))), (9, .int (zI ((T a) 4 (i)))), (8, .int (zI (0))), (7, .int (zI ((T a) 0 (i)))), (6, .int (zI (i))), (5, .int (zI (j2))), (2, .int (zI (f9))), (0, .ref (vad ad a 0)), (1, .ref (vad ad b 0))]) hx hb dX2_countParallels_163 hl (by decide) rfl (fun ls hl => ?_)
                          refine z_iinc (lv' := [(6, .int (zI (i + 1))), (4, .int (zI ((T b) 4 (j2)))), (3, .int (zI ((T a) 4 (i)))), (10, .int (zI ((T b) 4 (j2)))), (9, .int (zI ((T a) 4 (i)))), (8, .int (zI (0))), (7, .int (zI ((T a) 0 (i)))), (5, .int (zI (j2))), (2, .int (zI (f9))), (0, .ref (vad ad a 0)), (1, .ref (vad ad b 0))]) hx hb dX2_countParallels_165 hl (k := 6) rfl (by decide) rfl (fun ls hl => ?_)
                          refine lv_goto (tgt := 13) hx hb dX2_countParallels_168 (by decide) ?_
                          exact ih (i + 1) (j2) (f9) ((T a) 4 (i)) ((T b) 4 (j2)) (by omega) (by omega) (by rw [hs, h3]; show (if (jxC T Fv a b i) < Fv b 0 ∧ T b 0 (jxC T Fv a b i) = T a 0 i ∧ ¬ T a 4 i = -1 ∧ ¬ T b 4 (jxC T Fv a b i) = -1 then (if ¬ ea = -1 ∧ parB ea eb (T a 4 i) (T b 4 (jxC T Fv a b i)) = 1 then f9 + 1 else f9, T a 4 i, T b 4 (jxC T Fv a b i)) else (f9, ea, eb)) = _; rw [hjx]; first | (exfalso; omega) | rw [if_neg (by omega)] | (rw [if_pos (by omega)]; first | rw [if_pos (by omega)] | rw [if_neg (by omega)])) (by omega) (by omega) (by omega) (by omega) (by omega) (hjn) (by omega) _ (lv_sub hl [0, 7, 1, 2, 8, 9, 10] rfl)
                        · skip
                          refine lv_iload_n hx hb dX2_countParallels_142 rfl (lv_at hl 7 rfl) ?_
                          refine lv_iload hx hb dX2_countParallels_143 (lv_at hl 6 rfl) ?_
                          refine lv_iload hx hb dX2_countParallels_145 (lv_at hl 1 rfl) ?_
                          refine lv_iload hx hb dX2_countParallels_147 (lv_at hl 0 rfl) ?_
                          refine k_R (c_SR (As := [.int (zI (ea)), .int (zI (eb)), .int (zI ((T a) 4 (i))), .int (zI ((T b) 4 (j2)))]) (rest := []) ⟨hx, hb, hml, hown, hts⟩ hG hS hA (c_X2_isParallel l G ea eb ((T a) 4 (i)) ((T b) 4 (j2)) (by omega) (by omega) (by omega) (by omega)) ⟨q_ml_RX2_273, q_st_X2_isParallel, q_ini_RX2, q_code_X2_isParallel⟩ hs_X2_isParallel trivial ⟨by decide, by decide⟩ ⟨Nat.zero_le _, Nat.zero_le _⟩ rfl hl.1 rfl (Nat.le_of_ble_eq_true rfl) dX2_countParallels_149) ?_
                          refine z_bif_eq (q := ((((T b) 4 (j2)) - ((T a) 4 (i))) % 12 = 0 ∨ (((T b) 4 (j2)) - ((T a) 4 (i))) % 12 = 7) ∧ (((T b) 4 (j2)) - ((T a) 4 (i))) % 12 = (eb - ea) % 12 ∧ ((ea < ((T a) 4 (i)) ∧ eb < ((T b) 4 (j2))) ∨ (((T a) 4 (i)) < ea ∧ ((T b) 4 (j2)) < eb))) (tgt := 158) hx hb dX2_countParallels_152 (by decide) (fun h_152 => ?_) (fun h_152 => ?_)
                          · skip
                            have hpar : parB ea eb (T a 4 i) (T b 4 j2) = 0 := (bI_f h_152).symm
                            refine lv_iload hx hb dX2_countParallels_158 (lv_at hl 1 rfl) ?_
                            refine lv_istore_n (lv' := [(3, .int (zI ((T a) 4 (i)))), (10, .int (zI ((T b) 4 (j2)))), (9, .int (zI ((T a) 4 (i)))), (8, .int (zI (0))), (7, .int (zI ((T a) 0 (i)))), (6, .int (zI (i))), (5, .int (zI (j2))), (4, .int (zI (eb))), (2, .int (zI (f9))), (0, .ref (vad ad a 0)), (1, .ref (vad ad b 0))]) hx hb dX2_countParallels_160 rfl hl (by decide) rfl (fun ls hl => ?_)
                            refine lv_iload hx hb dX2_countParallels_161 (lv_at hl 1 rfl) ?_
                            refine lv_istore (lv' := [(4, .int (zI ((T b) 4 (j2)))), (3, .int (zI ((T a) 4 (i)))), (10, .int (zI ((T b) 4 (j2)))), (9, .int (zI ((T a) 4 (i)))), (8, .int (zI (0))), (7, .int (zI ((T a) 0 (i)))), (6, .int (zI (i))), (5, .int (zI (j2))), (2, .int (zI (f9))), (0, .ref (vad ad a 0)), (1, .ref (vad ad b 0))]) hx hb dX2_countParallels_163 hl (by decide) rfl (fun ls hl => ?_)
                            refine z_iinc (lv' := [(6, .int (zI (i + 1))), (4, .int (zI ((T b) 4 (j2)))), (3, .int (zI ((T a) 4 (i)))), (10, .int (zI ((T b) 4 (j2)))), (9, .int (zI ((T a) 4 (i)))), (8, .int (zI (0))), (7, .int (zI ((T a) 0 (i)))), (5, .int (zI (j2))), (2, .int (zI (f9))), (0, .ref (vad ad a 0)), (1, .ref (vad ad b 0))]) hx hb dX2_countParallels_165 hl (k := 6) rfl (by decide) rfl (fun ls hl => ?_)
                            refine lv_goto (tgt := 13) hx hb dX2_countParallels_168 (by decide) ?_
                            exact ih (i + 1) (j2) (f9) ((T a) 4 (i)) ((T b) 4 (j2)) (by omega) (by omega) (by rw [hs, h3]; show (if (jxC T Fv a b i) < Fv b 0 ∧ T b 0 (jxC T Fv a b i) = T a 0 i ∧ ¬ T a 4 i = -1 ∧ ¬ T b 4 (jxC T Fv a b i) = -1 then (if ¬ ea = -1 ∧ parB ea eb (T a 4 i) (T b 4 (jxC T Fv a b i)) = 1 then f9 + 1 else f9, T a 4 i, T b 4 (jxC T Fv a b i)) else (f9, ea, eb)) = _; rw [hjx]; first | (exfalso; omega) | rw [if_neg (by omega)] | (rw [if_pos (by omega)]; first | rw [if_pos (by omega)] | rw [if_neg (by omega)])) (by omega) (by omega) (by omega) (by omega) (by omega) (hjn) (by omega) _ (lv_sub hl [0, 7, 1, 2, 8, 9, 10] rfl)
                          · skip
                            have hpar : parB ea eb (T a 4 i) (T b 4 j2) = 1 := (bI_t h_152).symm
                            refine z_iinc (lv' := [(2, .int (zI (f9 + 1))), (10, .int (zI ((T b) 4 (j2)))), (9, .int (zI ((T a) 4 (i)))), (8, .int (zI (0))), (7, .int (zI ((T a) 0 (i)))), (6, .int (zI (i))), (5, .int (zI (j2))), (4, .int (zI (eb))), (3, .int (zI (ea))), (0, .ref (vad ad a 0)), (1, .ref (vad ad b 0))]) hx hb dX2_countParallels_155 hl (k := 8) rfl (by decide) rfl (fun ls hl => ?_)
                            refine lv_iload hx hb dX2_countParallels_158 (lv_at hl 2 rfl) ?_
                            refine lv_istore_n (lv' := [(3, .int (zI ((T a) 4 (i)))), (2, .int (zI (f9 + 1))), (10, .int (zI ((T b) 4 (j2)))), (9, .int (zI ((T a) 4 (i)))), (8, .int (zI (0))), (7, .int (zI ((T a) 0 (i)))), (6, .int (zI (i))), (5, .int (zI (j2))), (4, .int (zI (eb))), (0, .ref (vad ad a 0)), (1, .ref (vad ad b 0))]) hx hb dX2_countParallels_160 rfl hl (by decide) rfl (fun ls hl => ?_)
                            refine lv_iload hx hb dX2_countParallels_161 (lv_at hl 2 rfl) ?_
                            refine lv_istore (lv' := [(4, .int (zI ((T b) 4 (j2)))), (3, .int (zI ((T a) 4 (i)))), (2, .int (zI (f9 + 1))), (10, .int (zI ((T b) 4 (j2)))), (9, .int (zI ((T a) 4 (i)))), (8, .int (zI (0))), (7, .int (zI ((T a) 0 (i)))), (6, .int (zI (i))), (5, .int (zI (j2))), (0, .ref (vad ad a 0)), (1, .ref (vad ad b 0))]) hx hb dX2_countParallels_163 hl (by decide) rfl (fun ls hl => ?_)
                            refine z_iinc (lv' := [(6, .int (zI (i + 1))), (4, .int (zI ((T b) 4 (j2)))), (3, .int (zI ((T a) 4 (i)))), (2, .int (zI (f9 + 1))), (10, .int (zI ((T b) 4 (j2)))), (9, .int (zI ((T a) 4 (i)))), (8, .int (zI (0))), (7, .int (zI ((T a) 0 (i)))), (5, .int (zI (j2))), (0, .ref (vad ad a 0)), (1, .ref (vad ad b 0))]) hx hb dX2_countParallels_165 hl (k := 7) rfl (by decide) rfl (fun ls hl => ?_)
                            refine lv_goto (tgt := 13) hx hb dX2_countParallels_168 (by decide) ?_
                            exact ih (i + 1) (j2) (f9 + 1) ((T a) 4 (i)) ((T b) 4 (j2)) (by omega) (by omega) (by rw [hs, h3]; show (if (jxC T Fv a b i) < Fv b 0 ∧ T b 0 (jxC T Fv a b i) = T a 0 i ∧ ¬ T a 4 i = -1 ∧ ¬ T b 4 (jxC T Fv a b i) = -1 then (if ¬ ea = -1 ∧ parB ea eb (T a 4 i) (T b 4 (jxC T Fv a b i)) = 1 then f9 + 1 else f9, T a 4 i, T b 4 (jxC T Fv a b i)) else (f9, ea, eb)) = _; rw [hjx]; first | (exfalso; omega) | rw [if_neg (by omega)] | (rw [if_pos (by omega)]; first | rw [if_pos (by omega)] | rw [if_neg (by omega)])) (by omega) (by omega) (by omega) (by omega) (by omega) (hjn) (by omega) _ (lv_sub hl [0, 8, 1, 2, 3, 9, 10] rfl)
                · skip
                  refine z_iconst hx hb dX2_countParallels_85 ?_
                  refine lv_goto (tgt := 90) hx hb dX2_countParallels_86 (by decide) ?_
                  refine lv_istore (lv' := [(8, .int (zI (1))), (7, .int (zI ((T a) 0 (i)))), (6, .int (zI (i))), (5, .int (zI (j2))), (4, .int (zI (eb))), (3, .int (zI (ea))), (2, .int (zI (f9))), (0, .ref (vad ad a 0)), (1, .ref (vad ad b 0))]) hx hb dX2_countParallels_90 hl (by decide) rfl (fun ls hl => ?_)
                  refine lv_iload hx hb dX2_countParallels_92 (lv_at hl 0 rfl) ?_
                  refine z_if_eq (a := 1) (tgt := 165) hx hb dX2_countParallels_94 (by decide) (by omega) (fun h_94 => ?_) (fun h_94 => ?_)
                  · skip
                    refine z_iinc (lv' := [(6, .int (zI (i + 1))), (8, .int (zI (1))), (7, .int (zI ((T a) 0 (i)))), (5, .int (zI (j2))), (4, .int (zI (eb))), (3, .int (zI (ea))), (2, .int (zI (f9))), (0, .ref (vad ad a 0)), (1, .ref (vad ad b 0))]) hx hb dX2_countParallels_165 hl (k := 2) rfl (by decide) rfl (fun ls hl => ?_)
                    refine lv_goto (tgt := 13) hx hb dX2_countParallels_168 (by decide) ?_
                    exact ih (i + 1) (j2) (f9) (ea) (eb) (by omega) (by omega) (by rw [hs, h3]; show (if (jxC T Fv a b i) < Fv b 0 ∧ T b 0 (jxC T Fv a b i) = T a 0 i ∧ ¬ T a 4 i = -1 ∧ ¬ T b 4 (jxC T Fv a b i) = -1 then (if ¬ ea = -1 ∧ parB ea eb (T a 4 i) (T b 4 (jxC T Fv a b i)) = 1 then f9 + 1 else f9, T a 4 i, T b 4 (jxC T Fv a b i)) else (f9, ea, eb)) = _; rw [hjx]; first | (exfalso; omega) | rw [if_neg (by omega)] | (rw [if_pos (by omega)]; first | rw [if_pos (by omega)] | rw [if_neg (by omega)])) (by omega) (by omega) (by omega) (by omega) (by omega) (hjn) (by omega) _ (lv_sub hl [0, 3, 4, 5, 6, 7, 8] rfl)
                  · skip
                    refine lv_aload_n hx hb dX2_countParallels_97 rfl (lv_at hl 7 rfl) ?_
                    refine lv_iload hx hb dX2_countParallels_98 (lv_at hl 2 rfl) ?_
                    refine k_R (c_VR (As := [.int (zI (i))]) (rest := []) ⟨hx, hb, hml, hown, hts⟩ hG hS hA (c_X1_isNote l G (vad ad a) (T a) (P a) (S a) (Av a) (Fv a) i (by omega) (by omega)) ⟨q_ml_RX2_131, q_im_X1_isNote, q_sel_X1_isNote, q_ini_RX1, q_code_X1_isNote⟩ hv_X1_isNote (VP.rec hK hV_a) hV_a ⟨by decide, by decide⟩ ⟨Nat.zero_le _, Nat.zero_le _⟩ rfl hl.1 rfl (Nat.le_of_ble_eq_true rfl) dX2_countParallels_100) ?_
                    refine z_bif_eq (q := ¬ (T a) 4 i = -1) (tgt := 165) hx hb dX2_countParallels_103 (by decide) (fun h_103 => ?_) (fun h_103 => ?_)
                    · skip
                      refine z_iinc (lv' := [(6, .int (zI (i + 1))), (8, .int (zI (1))), (7, .int (zI ((T a) 0 (i)))), (5, .int (zI (j2))), (4, .int (zI (eb))), (3, .int (zI (ea))), (2, .int (zI (f9))), (0, .ref (vad ad a 0)), (1, .ref (vad ad b 0))]) hx hb dX2_countParallels_165 hl (k := 2) rfl (by decide) rfl (fun ls hl => ?_)
                      refine lv_goto (tgt := 13) hx hb dX2_countParallels_168 (by decide) ?_
                      exact ih (i + 1) (j2) (f9) (ea) (eb) (by omega) (by omega) (by rw [hs, h3]; show (if (jxC T Fv a b i) < Fv b 0 ∧ T b 0 (jxC T Fv a b i) = T a 0 i ∧ ¬ T a 4 i = -1 ∧ ¬ T b 4 (jxC T Fv a b i) = -1 then (if ¬ ea = -1 ∧ parB ea eb (T a 4 i) (T b 4 (jxC T Fv a b i)) = 1 then f9 + 1 else f9, T a 4 i, T b 4 (jxC T Fv a b i)) else (f9, ea, eb)) = _; rw [hjx]; first | (exfalso; omega) | rw [if_neg (by omega)] | (rw [if_pos (by omega)]; first | rw [if_pos (by omega)] | rw [if_neg (by omega)])) (by omega) (by omega) (by omega) (by omega) (by omega) (hjn) (by omega) _ (lv_sub hl [0, 3, 4, 5, 6, 7, 8] rfl)
                    · skip
                      refine lv_aload_n hx hb dX2_countParallels_106 rfl (lv_at hl 8 rfl) ?_
                      refine lv_iload hx hb dX2_countParallels_107 (lv_at hl 3 rfl) ?_
                      refine k_R (c_VR (As := [.int (zI (j2))]) (rest := []) ⟨hx, hb, hml, hown, hts⟩ hG hS hA (c_X1_isNote l G (vad ad b) (T b) (P b) (S b) (Av b) (Fv b) j2 (by omega) (by omega)) ⟨q_ml_RX2_131, q_im_X1_isNote, q_sel_X1_isNote, q_ini_RX1, q_code_X1_isNote⟩ hv_X1_isNote (VP.rec hK hV_b) hV_b ⟨by decide, by decide⟩ ⟨Nat.zero_le _, Nat.zero_le _⟩ rfl hl.1 rfl (Nat.le_of_ble_eq_true rfl) dX2_countParallels_109) ?_
                      refine z_bif_eq (q := ¬ (T b) 4 j2 = -1) (tgt := 165) hx hb dX2_countParallels_112 (by decide) (fun h_112 => ?_) (fun h_112 => ?_)
                      · skip
                        refine z_iinc (lv' := [(6, .int (zI (i + 1))), (8, .int (zI (1))), (7, .int (zI ((T a) 0 (i)))), (5, .int (zI (j2))), (4, .int (zI (eb))), (3, .int (zI (ea))), (2, .int (zI (f9))), (0, .ref (vad ad a 0)), (1, .ref (vad ad b 0))]) hx hb dX2_countParallels_165 hl (k := 2) rfl (by decide) rfl (fun ls hl => ?_)
                        refine lv_goto (tgt := 13) hx hb dX2_countParallels_168 (by decide) ?_
                        exact ih (i + 1) (j2) (f9) (ea) (eb) (by omega) (by omega) (by rw [hs, h3]; show (if (jxC T Fv a b i) < Fv b 0 ∧ T b 0 (jxC T Fv a b i) = T a 0 i ∧ ¬ T a 4 i = -1 ∧ ¬ T b 4 (jxC T Fv a b i) = -1 then (if ¬ ea = -1 ∧ parB ea eb (T a 4 i) (T b 4 (jxC T Fv a b i)) = 1 then f9 + 1 else f9, T a 4 i, T b 4 (jxC T Fv a b i)) else (f9, ea, eb)) = _; rw [hjx]; first | (exfalso; omega) | rw [if_neg (by omega)] | (rw [if_pos (by omega)]; first | rw [if_pos (by omega)] | rw [if_neg (by omega)])) (by omega) (by omega) (by omega) (by omega) (by omega) (hjn) (by omega) _ (lv_sub hl [0, 3, 4, 5, 6, 7, 8] rfl)
                      · skip
                        refine lv_aload_n hx hb dX2_countParallels_115 rfl (lv_at hl 7 rfl) ?_
                        refine zv_get hx hb hK hts hown hV_a 0 (by decide) q_fl_RX2_114 (v := .ref ((vad ad a) 1)) rfl dX2_countParallels_116 ?_
                        refine z_iconst hx hb dX2_countParallels_119 ?_
                        refine zv_aT hx hb hK hV_a (4) (by decide) (i := 4) rfl dX2_countParallels_120 ?_
                        refine lv_iload hx hb dX2_countParallels_121 (lv_at hl 2 rfl) ?_
                        refine zv_lT hx hb hK hV_a (4) (by decide) (i := i) (by omega) dX2_countParallels_123 ?_
                        refine lv_istore (lv' := [(9, .int (zI ((T a) 4 (i)))), (8, .int (zI (1))), (7, .int (zI ((T a) 0 (i)))), (6, .int (zI (i))), (5, .int (zI (j2))), (4, .int (zI (eb))), (3, .int (zI (ea))), (2, .int (zI (f9))), (0, .ref (vad ad a 0)), (1, .ref (vad ad b 0))]) hx hb dX2_countParallels_124 hl (by decide) rfl (fun ls hl => ?_)
                        refine lv_aload_n hx hb dX2_countParallels_126 rfl (lv_at hl 9 rfl) ?_
                        refine zv_get hx hb hK hts hown hV_b 0 (by decide) q_fl_RX2_114 (v := .ref ((vad ad b) 1)) rfl dX2_countParallels_127 ?_
                        refine z_iconst hx hb dX2_countParallels_130 ?_
                        refine zv_aT hx hb hK hV_b (4) (by decide) (i := 4) rfl dX2_countParallels_131 ?_
                        refine lv_iload hx hb dX2_countParallels_132 (lv_at hl 4 rfl) ?_
                        refine zv_lT hx hb hK hV_b (4) (by decide) (i := j2) (by omega) dX2_countParallels_134 ?_
                        refine lv_istore (lv' := [(10, .int (zI ((T b) 4 (j2)))), (9, .int (zI ((T a) 4 (i)))), (8, .int (zI (1))), (7, .int (zI ((T a) 0 (i)))), (6, .int (zI (i))), (5, .int (zI (j2))), (4, .int (zI (eb))), (3, .int (zI (ea))), (2, .int (zI (f9))), (0, .ref (vad ad a 0)), (1, .ref (vad ad b 0))]) hx hb dX2_countParallels_135 hl (by decide) rfl (fun ls hl => ?_)
                        refine lv_iload_n hx hb dX2_countParallels_137 rfl (lv_at hl 7 rfl) ?_
                        refine z_iconst hx hb dX2_countParallels_138 ?_
                        refine z_icmp_eq (a := ea) (b := -1) (tgt := 158) hx hb dX2_countParallels_139 (by decide) (by omega) (by omega) (fun h_139 => ?_) (fun h_139 => ?_)
                        · skip
                          refine lv_iload hx hb dX2_countParallels_158 (lv_at hl 1 rfl) ?_
                          refine lv_istore_n (lv' := [(3, .int (zI ((T a) 4 (i)))), (10, .int (zI ((T b) 4 (j2)))), (9, .int (zI ((T a) 4 (i)))), (8, .int (zI (1))), (7, .int (zI ((T a) 0 (i)))), (6, .int (zI (i))), (5, .int (zI (j2))), (4, .int (zI (eb))), (2, .int (zI (f9))), (0, .ref (vad ad a 0)), (1, .ref (vad ad b 0))]) hx hb dX2_countParallels_160 rfl hl (by decide) rfl (fun ls hl => ?_)
                          refine lv_iload hx hb dX2_countParallels_161 (lv_at hl 1 rfl) ?_
                          refine lv_istore (lv' := [(4, .int (zI ((T b) 4 (j2)))), (3, .int (zI ((T a) 4 (i)))), (10, .int (zI ((T b) 4 (j2)))), (9, .int (zI ((T a) 4 (i)))), (8, .int (zI (1))), (7, .int (zI ((T a) 0 (i)))), (6, .int (zI (i))), (5, .int (zI (j2))), (2, .int (zI (f9))), (0, .ref (vad ad a 0)), (1, .ref (vad ad b 0))]) hx hb dX2_countParallels_163 hl (by decide) rfl (fun ls hl => ?_)
                          refine z_iinc (lv' := [(6, .int (zI (i + 1))), (4, .int (zI ((T b) 4 (j2)))), (3, .int (zI ((T a) 4 (i)))), (10, .int (zI ((T b) 4 (j2)))), (9, .int (zI ((T a) 4 (i)))), (8, .int (zI (1))), (7, .int (zI ((T a) 0 (i)))), (5, .int (zI (j2))), (2, .int (zI (f9))), (0, .ref (vad ad a 0)), (1, .ref (vad ad b 0))]) hx hb dX2_countParallels_165 hl (k := 6) rfl (by decide) rfl (fun ls hl => ?_)
                          refine lv_goto (tgt := 13) hx hb dX2_countParallels_168 (by decide) ?_
                          exact ih (i + 1) (j2) (f9) ((T a) 4 (i)) ((T b) 4 (j2)) (by omega) (by omega) (by rw [hs, h3]; show (if (jxC T Fv a b i) < Fv b 0 ∧ T b 0 (jxC T Fv a b i) = T a 0 i ∧ ¬ T a 4 i = -1 ∧ ¬ T b 4 (jxC T Fv a b i) = -1 then (if ¬ ea = -1 ∧ parB ea eb (T a 4 i) (T b 4 (jxC T Fv a b i)) = 1 then f9 + 1 else f9, T a 4 i, T b 4 (jxC T Fv a b i)) else (f9, ea, eb)) = _; rw [hjx]; first | (exfalso; omega) | rw [if_neg (by omega)] | (rw [if_pos (by omega)]; first | rw [if_pos (by omega)] | rw [if_neg (by omega)])) (by omega) (by omega) (by omega) (by omega) (by omega) (hjn) (by omega) _ (lv_sub hl [0, 7, 1, 2, 8, 9, 10] rfl)
                        · skip
                          refine lv_iload_n hx hb dX2_countParallels_142 rfl (lv_at hl 7 rfl) ?_
                          refine lv_iload hx hb dX2_countParallels_143 (lv_at hl 6 rfl) ?_
                          refine lv_iload hx hb dX2_countParallels_145 (lv_at hl 1 rfl) ?_
                          refine lv_iload hx hb dX2_countParallels_147 (lv_at hl 0 rfl) ?_
                          refine k_R (c_SR (As := [.int (zI (ea)), .int (zI (eb)), .int (zI ((T a) 4 (i))), .int (zI ((T b) 4 (j2)))]) (rest := []) ⟨hx, hb, hml, hown, hts⟩ hG hS hA (c_X2_isParallel l G ea eb ((T a) 4 (i)) ((T b) 4 (j2)) (by omega) (by omega) (by omega) (by omega)) ⟨q_ml_RX2_273, q_st_X2_isParallel, q_ini_RX2, q_code_X2_isParallel⟩ hs_X2_isParallel trivial ⟨by decide, by decide⟩ ⟨Nat.zero_le _, Nat.zero_le _⟩ rfl hl.1 rfl (Nat.le_of_ble_eq_true rfl) dX2_countParallels_149) ?_
                          refine z_bif_eq (q := ((((T b) 4 (j2)) - ((T a) 4 (i))) % 12 = 0 ∨ (((T b) 4 (j2)) - ((T a) 4 (i))) % 12 = 7) ∧ (((T b) 4 (j2)) - ((T a) 4 (i))) % 12 = (eb - ea) % 12 ∧ ((ea < ((T a) 4 (i)) ∧ eb < ((T b) 4 (j2))) ∨ (((T a) 4 (i)) < ea ∧ ((T b) 4 (j2)) < eb))) (tgt := 158) hx hb dX2_countParallels_152 (by decide) (fun h_152 => ?_) (fun h_152 => ?_)
                          · skip
                            have hpar : parB ea eb (T a 4 i) (T b 4 j2) = 0 := (bI_f h_152).symm
                            refine lv_iload hx hb dX2_countParallels_158 (lv_at hl 1 rfl) ?_
                            refine lv_istore_n (lv' := [(3, .int (zI ((T a) 4 (i)))), (10, .int (zI ((T b) 4 (j2)))), (9, .int (zI ((T a) 4 (i)))), (8, .int (zI (1))), (7, .int (zI ((T a) 0 (i)))), (6, .int (zI (i))), (5, .int (zI (j2))), (4, .int (zI (eb))), (2, .int (zI (f9))), (0, .ref (vad ad a 0)), (1, .ref (vad ad b 0))]) hx hb dX2_countParallels_160 rfl hl (by decide) rfl (fun ls hl => ?_)
                            refine lv_iload hx hb dX2_countParallels_161 (lv_at hl 1 rfl) ?_
                            refine lv_istore (lv' := [(4, .int (zI ((T b) 4 (j2)))), (3, .int (zI ((T a) 4 (i)))), (10, .int (zI ((T b) 4 (j2)))), (9, .int (zI ((T a) 4 (i)))), (8, .int (zI (1))), (7, .int (zI ((T a) 0 (i)))), (6, .int (zI (i))), (5, .int (zI (j2))), (2, .int (zI (f9))), (0, .ref (vad ad a 0)), (1, .ref (vad ad b 0))]) hx hb dX2_countParallels_163 hl (by decide) rfl (fun ls hl => ?_)
                            refine z_iinc (lv' := [(6, .int (zI (i + 1))), (4, .int (zI ((T b) 4 (j2)))), (3, .int (zI ((T a) 4 (i)))), (10, .int (zI ((T b) 4 (j2)))), (9, .int (zI ((T a) 4 (i)))), (8, .int (zI (1))), (7, .int (zI ((T a) 0 (i)))), (5, .int (zI (j2))), (2, .int (zI (f9))), (0, .ref (vad ad a 0)), (1, .ref (vad ad b 0))]) hx hb dX2_countParallels_165 hl (k := 6) rfl (by decide) rfl (fun ls hl => ?_)
                            refine lv_goto (tgt := 13) hx hb dX2_countParallels_168 (by decide) ?_
                            exact ih (i + 1) (j2) (f9) ((T a) 4 (i)) ((T b) 4 (j2)) (by omega) (by omega) (by rw [hs, h3]; show (if (jxC T Fv a b i) < Fv b 0 ∧ T b 0 (jxC T Fv a b i) = T a 0 i ∧ ¬ T a 4 i = -1 ∧ ¬ T b 4 (jxC T Fv a b i) = -1 then (if ¬ ea = -1 ∧ parB ea eb (T a 4 i) (T b 4 (jxC T Fv a b i)) = 1 then f9 + 1 else f9, T a 4 i, T b 4 (jxC T Fv a b i)) else (f9, ea, eb)) = _; rw [hjx]; first | (exfalso; omega) | rw [if_neg (by omega)] | (rw [if_pos (by omega)]; first | rw [if_pos (by omega)] | rw [if_neg (by omega)])) (by omega) (by omega) (by omega) (by omega) (by omega) (hjn) (by omega) _ (lv_sub hl [0, 7, 1, 2, 8, 9, 10] rfl)
                          · skip
                            have hpar : parB ea eb (T a 4 i) (T b 4 j2) = 1 := (bI_t h_152).symm
                            refine z_iinc (lv' := [(2, .int (zI (f9 + 1))), (10, .int (zI ((T b) 4 (j2)))), (9, .int (zI ((T a) 4 (i)))), (8, .int (zI (1))), (7, .int (zI ((T a) 0 (i)))), (6, .int (zI (i))), (5, .int (zI (j2))), (4, .int (zI (eb))), (3, .int (zI (ea))), (0, .ref (vad ad a 0)), (1, .ref (vad ad b 0))]) hx hb dX2_countParallels_155 hl (k := 8) rfl (by decide) rfl (fun ls hl => ?_)
                            refine lv_iload hx hb dX2_countParallels_158 (lv_at hl 2 rfl) ?_
                            refine lv_istore_n (lv' := [(3, .int (zI ((T a) 4 (i)))), (2, .int (zI (f9 + 1))), (10, .int (zI ((T b) 4 (j2)))), (9, .int (zI ((T a) 4 (i)))), (8, .int (zI (1))), (7, .int (zI ((T a) 0 (i)))), (6, .int (zI (i))), (5, .int (zI (j2))), (4, .int (zI (eb))), (0, .ref (vad ad a 0)), (1, .ref (vad ad b 0))]) hx hb dX2_countParallels_160 rfl hl (by decide) rfl (fun ls hl => ?_)
                            refine lv_iload hx hb dX2_countParallels_161 (lv_at hl 2 rfl) ?_
                            refine lv_istore (lv' := [(4, .int (zI ((T b) 4 (j2)))), (3, .int (zI ((T a) 4 (i)))), (2, .int (zI (f9 + 1))), (10, .int (zI ((T b) 4 (j2)))), (9, .int (zI ((T a) 4 (i)))), (8, .int (zI (1))), (7, .int (zI ((T a) 0 (i)))), (6, .int (zI (i))), (5, .int (zI (j2))), (0, .ref (vad ad a 0)), (1, .ref (vad ad b 0))]) hx hb dX2_countParallels_163 hl (by decide) rfl (fun ls hl => ?_)
                            refine z_iinc (lv' := [(6, .int (zI (i + 1))), (4, .int (zI ((T b) 4 (j2)))), (3, .int (zI ((T a) 4 (i)))), (2, .int (zI (f9 + 1))), (10, .int (zI ((T b) 4 (j2)))), (9, .int (zI ((T a) 4 (i)))), (8, .int (zI (1))), (7, .int (zI ((T a) 0 (i)))), (5, .int (zI (j2))), (0, .ref (vad ad a 0)), (1, .ref (vad ad b 0))]) hx hb dX2_countParallels_165 hl (k := 7) rfl (by decide) rfl (fun ls hl => ?_)
                            refine lv_goto (tgt := 13) hx hb dX2_countParallels_168 (by decide) ?_
                            exact ih (i + 1) (j2) (f9 + 1) ((T a) 4 (i)) ((T b) 4 (j2)) (by omega) (by omega) (by rw [hs, h3]; show (if (jxC T Fv a b i) < Fv b 0 ∧ T b 0 (jxC T Fv a b i) = T a 0 i ∧ ¬ T a 4 i = -1 ∧ ¬ T b 4 (jxC T Fv a b i) = -1 then (if ¬ ea = -1 ∧ parB ea eb (T a 4 i) (T b 4 (jxC T Fv a b i)) = 1 then f9 + 1 else f9, T a 4 i, T b 4 (jxC T Fv a b i)) else (f9, ea, eb)) = _; rw [hjx]; first | (exfalso; omega) | rw [if_neg (by omega)] | (rw [if_pos (by omega)]; first | rw [if_pos (by omega)] | rw [if_neg (by omega)])) (by omega) (by omega) (by omega) (by omega) (by omega) (hjn) (by omega) _ (lv_sub hl [0, 8, 1, 2, 3, 9, 10] rfl)
            · skip
              have hvb := hVob.2.2.1 j2 g0 (by omega)
              refine lv_aload_n hx hb dX2_countParallels_42 rfl (lv_at hl 7 rfl) ?_
              refine zv_get hx hb hK hts hown hV_b 0 (by decide) q_fl_RX2_114 (v := .ref ((vad ad b) 1)) rfl dX2_countParallels_43 ?_
              refine z_iconst hx hb dX2_countParallels_46 ?_
              refine zv_aT hx hb hK hV_b (0) (by decide) (i := 0) rfl dX2_countParallels_47 ?_
              refine lv_iload hx hb dX2_countParallels_48 (lv_at hl 2 rfl) ?_
              refine zv_lT hx hb hK hV_b (0) (by decide) (i := j2) (by omega) dX2_countParallels_50 ?_
              refine lv_iload hx hb dX2_countParallels_51 (lv_at hl 0 rfl) ?_
              refine z_icmp_ge (a := (T b) 0 (j2)) (b := (T a) 0 (i)) (tgt := 62) hx hb dX2_countParallels_53 (by decide) (by omega) (by omega) (fun h_53 => ?_) (fun h_53 => ?_)
              · skip
                have hj2 : j2 = Fv b 0 ∨ (j2 < Fv b 0 ∧ T a 0 i ≤ T b 0 j2) := Or.inr ⟨by omega, by omega⟩
                have hjx : jxC T Fv a b i = j2 := jxC_of g0 g2 hj2
                have hjn : i + 1 < Fv a 0 → ∀ k, 0 ≤ k → k < j2 → T b 0 k < T a 0 (i + 1) := fun q k q1 q2 => by have := g2 k q1 q2; have := hVm i (i + 1) h0 (by omega) q; omega
                refine lv_iload hx hb dX2_countParallels_62 (lv_at hl 2 rfl) ?_
                refine lv_aload_n hx hb dX2_countParallels_64 rfl (lv_at hl 7 rfl) ?_
                refine zv_get hx hb hK hts hown hV_b 5 (by decide) q_fl_RX2_103 (v := .int (zI ((Fv b) 0))) rfl dX2_countParallels_65 ?_
                refine z_icmp_ge (a := j2) (b := (Fv b) 0) (tgt := 89) hx hb dX2_countParallels_68 (by decide) (by omega) (by omega) (fun h_68 => ?_) (fun h_68 => ?_)
                · skip
                  refine z_iconst hx hb dX2_countParallels_89 ?_
                  refine lv_istore (lv' := [(8, .int (zI (0))), (7, .int (zI ((T a) 0 (i)))), (6, .int (zI (i))), (5, .int (zI (j2))), (4, .int (zI (eb))), (3, .int (zI (ea))), (2, .int (zI (f9))), (0, .ref (vad ad a 0)), (1, .ref (vad ad b 0))]) hx hb dX2_countParallels_90 hl (by decide) rfl (fun ls hl => ?_)
                  refine lv_iload hx hb dX2_countParallels_92 (lv_at hl 0 rfl) ?_
                  refine z_if_eq (a := 0) (tgt := 165) hx hb dX2_countParallels_94 (by decide) (by omega) (fun h_94 => ?_) (fun h_94 => ?_)
                  · skip
                    refine z_iinc (lv' := [(6, .int (zI (i + 1))), (8, .int (zI (0))), (7, .int (zI ((T a) 0 (i)))), (5, .int (zI (j2))), (4, .int (zI (eb))), (3, .int (zI (ea))), (2, .int (zI (f9))), (0, .ref (vad ad a 0)), (1, .ref (vad ad b 0))]) hx hb dX2_countParallels_165 hl (k := 2) rfl (by decide) rfl (fun ls hl => ?_)
                    refine lv_goto (tgt := 13) hx hb dX2_countParallels_168 (by decide) ?_
                    exact ih (i + 1) (j2) (f9) (ea) (eb) (by omega) (by omega) (by rw [hs, h3]; show (if (jxC T Fv a b i) < Fv b 0 ∧ T b 0 (jxC T Fv a b i) = T a 0 i ∧ ¬ T a 4 i = -1 ∧ ¬ T b 4 (jxC T Fv a b i) = -1 then (if ¬ ea = -1 ∧ parB ea eb (T a 4 i) (T b 4 (jxC T Fv a b i)) = 1 then f9 + 1 else f9, T a 4 i, T b 4 (jxC T Fv a b i)) else (f9, ea, eb)) = _; rw [hjx]; first | (exfalso; omega) | rw [if_neg (by omega)] | (rw [if_pos (by omega)]; first | rw [if_pos (by omega)] | rw [if_neg (by omega)])) (by omega) (by omega) (by omega) (by omega) (by omega) (hjn) (by omega) _ (lv_sub hl [0, 3, 4, 5, 6, 7, 8] rfl)
                  · skip
                    refine lv_aload_n hx hb dX2_countParallels_97 rfl (lv_at hl 7 rfl) ?_
                    refine lv_iload hx hb dX2_countParallels_98 (lv_at hl 2 rfl) ?_
                    refine k_R (c_VR (As := [.int (zI (i))]) (rest := []) ⟨hx, hb, hml, hown, hts⟩ hG hS hA (c_X1_isNote l G (vad ad a) (T a) (P a) (S a) (Av a) (Fv a) i (by omega) (by omega)) ⟨q_ml_RX2_131, q_im_X1_isNote, q_sel_X1_isNote, q_ini_RX1, q_code_X1_isNote⟩ hv_X1_isNote (VP.rec hK hV_a) hV_a ⟨by decide, by decide⟩ ⟨Nat.zero_le _, Nat.zero_le _⟩ rfl hl.1 rfl (Nat.le_of_ble_eq_true rfl) dX2_countParallels_100) ?_
                    refine z_bif_eq (q := ¬ (T a) 4 i = -1) (tgt := 165) hx hb dX2_countParallels_103 (by decide) (fun h_103 => ?_) (fun h_103 => ?_)
                    · skip
                      refine z_iinc (lv' := [(6, .int (zI (i + 1))), (8, .int (zI (0))), (7, .int (zI ((T a) 0 (i)))), (5, .int (zI (j2))), (4, .int (zI (eb))), (3, .int (zI (ea))), (2, .int (zI (f9))), (0, .ref (vad ad a 0)), (1, .ref (vad ad b 0))]) hx hb dX2_countParallels_165 hl (k := 2) rfl (by decide) rfl (fun ls hl => ?_)
                      refine lv_goto (tgt := 13) hx hb dX2_countParallels_168 (by decide) ?_
                      exact ih (i + 1) (j2) (f9) (ea) (eb) (by omega) (by omega) (by rw [hs, h3]; show (if (jxC T Fv a b i) < Fv b 0 ∧ T b 0 (jxC T Fv a b i) = T a 0 i ∧ ¬ T a 4 i = -1 ∧ ¬ T b 4 (jxC T Fv a b i) = -1 then (if ¬ ea = -1 ∧ parB ea eb (T a 4 i) (T b 4 (jxC T Fv a b i)) = 1 then f9 + 1 else f9, T a 4 i, T b 4 (jxC T Fv a b i)) else (f9, ea, eb)) = _; rw [hjx]; first | (exfalso; omega) | rw [if_neg (by omega)] | (rw [if_pos (by omega)]; first | rw [if_pos (by omega)] | rw [if_neg (by omega)])) (by omega) (by omega) (by omega) (by omega) (by omega) (hjn) (by omega) _ (lv_sub hl [0, 3, 4, 5, 6, 7, 8] rfl)
                    · skip
                      refine lv_aload_n hx hb dX2_countParallels_106 rfl (lv_at hl 8 rfl) ?_
                      refine lv_iload hx hb dX2_countParallels_107 (lv_at hl 3 rfl) ?_
                      refine k_R (c_VR (As := [.int (zI (j2))]) (rest := []) ⟨hx, hb, hml, hown, hts⟩ hG hS hA (c_X1_isNote l G (vad ad b) (T b) (P b) (S b) (Av b) (Fv b) j2 (by omega) (by omega)) ⟨q_ml_RX2_131, q_im_X1_isNote, q_sel_X1_isNote, q_ini_RX1, q_code_X1_isNote⟩ hv_X1_isNote (VP.rec hK hV_b) hV_b ⟨by decide, by decide⟩ ⟨Nat.zero_le _, Nat.zero_le _⟩ rfl hl.1 rfl (Nat.le_of_ble_eq_true rfl) dX2_countParallels_109) ?_
                      refine z_bif_eq (q := ¬ (T b) 4 j2 = -1) (tgt := 165) hx hb dX2_countParallels_112 (by decide) (fun h_112 => ?_) (fun h_112 => ?_)
                      · skip
                        refine z_iinc (lv' := [(6, .int (zI (i + 1))), (8, .int (zI (0))), (7, .int (zI ((T a) 0 (i)))), (5, .int (zI (j2))), (4, .int (zI (eb))), (3, .int (zI (ea))), (2, .int (zI (f9))), (0, .ref (vad ad a 0)), (1, .ref (vad ad b 0))]) hx hb dX2_countParallels_165 hl (k := 2) rfl (by decide) rfl (fun ls hl => ?_)
                        refine lv_goto (tgt := 13) hx hb dX2_countParallels_168 (by decide) ?_
                        exact ih (i + 1) (j2) (f9) (ea) (eb) (by omega) (by omega) (by rw [hs, h3]; show (if (jxC T Fv a b i) < Fv b 0 ∧ T b 0 (jxC T Fv a b i) = T a 0 i ∧ ¬ T a 4 i = -1 ∧ ¬ T b 4 (jxC T Fv a b i) = -1 then (if ¬ ea = -1 ∧ parB ea eb (T a 4 i) (T b 4 (jxC T Fv a b i)) = 1 then f9 + 1 else f9, T a 4 i, T b 4 (jxC T Fv a b i)) else (f9, ea, eb)) = _; rw [hjx]; first | (exfalso; omega) | rw [if_neg (by omega)] | (rw [if_pos (by omega)]; first | rw [if_pos (by omega)] | rw [if_neg (by omega)])) (by omega) (by omega) (by omega) (by omega) (by omega) (hjn) (by omega) _ (lv_sub hl [0, 3, 4, 5, 6, 7, 8] rfl)
                      · skip
                        refine lv_aload_n hx hb dX2_countParallels_115 rfl (lv_at hl 7 rfl) ?_
                        refine zv_get hx hb hK hts hown hV_a 0 (by decide) q_fl_RX2_114 (v := .ref ((vad ad a) 1)) rfl dX2_countParallels_116 ?_
                        refine z_iconst hx hb dX2_countParallels_119 ?_
                        refine zv_aT hx hb hK hV_a (4) (by decide) (i := 4) rfl dX2_countParallels_120 ?_
                        refine lv_iload hx hb dX2_countParallels_121 (lv_at hl 2 rfl) ?_
                        refine zv_lT hx hb hK hV_a (4) (by decide) (i := i) (by omega) dX2_countParallels_123 ?_
                        refine lv_istore (lv' := [(9, .int (zI ((T a) 4 (i)))), (8, .int (zI (0))), (7, .int (zI ((T a) 0 (i)))), (6, .int (zI (i))), (5, .int (zI (j2))), (4, .int (zI (eb))), (3, .int (zI (ea))), (2, .int (zI (f9))), (0, .ref (vad ad a 0)), (1, .ref (vad ad b 0))]) hx hb dX2_countParallels_124 hl (by decide) rfl (fun ls hl => ?_)
                        refine lv_aload_n hx hb dX2_countParallels_126 rfl (lv_at hl 9 rfl) ?_
                        refine zv_get hx hb hK hts hown hV_b 0 (by decide) q_fl_RX2_114 (v := .ref ((vad ad b) 1)) rfl dX2_countParallels_127 ?_
                        refine z_iconst hx hb dX2_countParallels_130 ?_
                        refine zv_aT hx hb hK hV_b (4) (by decide) (i := 4) rfl dX2_countParallels_131 ?_
                        refine lv_iload hx hb dX2_countParallels_132 (lv_at hl 4 rfl) ?_
                        refine zv_lT hx hb hK hV_b (4) (by decide) (i := j2) (by omega) dX2_countParallels_134 ?_
                        refine lv_istore (lv' := [(10, .int (zI ((T b) 4 (j2)))), (9, .int (zI ((T a) 4 (i)))), (8, .int (zI (0))), (7, .int (zI ((T a) 0 (i)))), (6, .int (zI (i))), (5, .int (zI (j2))), (4, .int (zI (eb))), (3, .int (zI (ea))), (2, .int (zI (f9))), (0, .ref (vad ad a 0)), (1, .ref (vad ad b 0))]) hx hb dX2_countParallels_135 hl (by decide) rfl (fun ls hl => ?_)
                        refine lv_iload_n hx hb dX2_countParallels_137 rfl (lv_at hl 7 rfl) ?_
                        refine z_iconst hx hb dX2_countParallels_138 ?_
                        refine z_icmp_eq (a := ea) (b := -1) (tgt := 158) hx hb dX2_countParallels_139 (by decide) (by omega) (by omega) (fun h_139 => ?_) (fun h_139 => ?_)
                        · skip
                          refine lv_iload hx hb dX2_countParallels_158 (lv_at hl 1 rfl) ?_
                          refine lv_istore_n (lv' := [(3, .int (zI ((T a) 4 (i)))), (10, .int (zI ((T b) 4 (j2)))), (9, .int (zI ((T a) 4 (i)))), (8, .int (zI (0))), (7, .int (zI ((T a) 0 (i)))), (6, .int (zI (i))), (5, .int (zI (j2))), (4, .int (zI (eb))), (2, .int (zI (f9))), (0, .ref (vad ad a 0)), (1, .ref (vad ad b 0))]) hx hb dX2_countParallels_160 rfl hl (by decide) rfl (fun ls hl => ?_)
                          refine lv_iload hx hb dX2_countParallels_161 (lv_at hl 1 rfl) ?_
                          refine lv_istore (lv' := [(4, .int (zI ((T b) 4 (j2)))), (3, .int (zI ((T a) 4 (i)))), (10, .int (zI ((T b) 4 (j2)))), (9, .int (zI ((T a) 4 (i)))), (8, .int (zI (0))), (7, .int (zI ((T a) 0 (i)))), (6, .int (zI (i))), (5, .int (zI (j2))), (2, .int (zI (f9))), (0, .ref (vad ad a 0)), (1, .ref (vad ad b 0))]) hx hb dX2_countParallels_163 hl (by decide) rfl (fun ls hl => ?_)
                          refine z_iinc (lv' := [(6, .int (zI (i + 1))), (4, .int (zI ((T b) 4 (j2)))), (3, .int (zI ((T a) 4 (i)))), (10, .int (zI ((T b) 4 (j2)))), (9, .int (zI ((T a) 4 (i)))), (8, .int (zI (0))), (7, .int (zI ((T a) 0 (i)))), (5, .int (zI (j2))), (2, .int (zI (f9))), (0, .ref (vad ad a 0)), (1, .ref (vad ad b 0))]) hx hb dX2_countParallels_165 hl (k := 6) rfl (by decide) rfl (fun ls hl => ?_)
                          refine lv_goto (tgt := 13) hx hb dX2_countParallels_168 (by decide) ?_
                          exact ih (i + 1) (j2) (f9) ((T a) 4 (i)) ((T b) 4 (j2)) (by omega) (by omega) (by rw [hs, h3]; show (if (jxC T Fv a b i) < Fv b 0 ∧ T b 0 (jxC T Fv a b i) = T a 0 i ∧ ¬ T a 4 i = -1 ∧ ¬ T b 4 (jxC T Fv a b i) = -1 then (if ¬ ea = -1 ∧ parB ea eb (T a 4 i) (T b 4 (jxC T Fv a b i)) = 1 then f9 + 1 else f9, T a 4 i, T b 4 (jxC T Fv a b i)) else (f9, ea, eb)) = _; rw [hjx]; first | (exfalso; omega) | rw [if_neg (by omega)] | (rw [if_pos (by omega)]; first | rw [if_pos (by omega)] | rw [if_neg (by omega)])) (by omega) (by omega) (by omega) (by omega) (by omega) (hjn) (by omega) _ (lv_sub hl [0, 7, 1, 2, 8, 9, 10] rfl)
                        · skip
                          refine lv_iload_n hx hb dX2_countParallels_142 rfl (lv_at hl 7 rfl) ?_
                          refine lv_iload hx hb dX2_countParallels_143 (lv_at hl 6 rfl) ?_
                          refine lv_iload hx hb dX2_countParallels_145 (lv_at hl 1 rfl) ?_
                          refine lv_iload hx hb dX2_countParallels_147 (lv_at hl 0 rfl) ?_
                          refine k_R (c_SR (As := [.int (zI (ea)), .int (zI (eb)), .int (zI ((T a) 4 (i))), .int (zI ((T b) 4 (j2)))]) (rest := []) ⟨hx, hb, hml, hown, hts⟩ hG hS hA (c_X2_isParallel l G ea eb ((T a) 4 (i)) ((T b) 4 (j2)) (by omega) (by omega) (by omega) (by omega)) ⟨q_ml_RX2_273, q_st_X2_isParallel, q_ini_RX2, q_code_X2_isParallel⟩ hs_X2_isParallel trivial ⟨by decide, by decide⟩ ⟨Nat.zero_le _, Nat.zero_le _⟩ rfl hl.1 rfl (Nat.le_of_ble_eq_true rfl) dX2_countParallels_149) ?_
                          refine z_bif_eq (q := ((((T b) 4 (j2)) - ((T a) 4 (i))) % 12 = 0 ∨ (((T b) 4 (j2)) - ((T a) 4 (i))) % 12 = 7) ∧ (((T b) 4 (j2)) - ((T a) 4 (i))) % 12 = (eb - ea) % 12 ∧ ((ea < ((T a) 4 (i)) ∧ eb < ((T b) 4 (j2))) ∨ (((T a) 4 (i)) < ea ∧ ((T b) 4 (j2)) < eb))) (tgt := 158) hx hb dX2_countParallels_152 (by decide) (fun h_152 => ?_) (fun h_152 => ?_)
                          · skip
                            have hpar : parB ea eb (T a 4 i) (T b 4 j2) = 0 := (bI_f h_152).symm
                            refine lv_iload hx hb dX2_countParallels_158 (lv_at hl 1 rfl) ?_
                            refine lv_istore_n (lv' := [(3, .int (zI ((T a) 4 (i)))), (10, .int (zI ((T b) 4 (j2)))), (9, .int (zI ((T a) 4 (i)))), (8, .int (zI (0))), (7, .int (zI ((T a) 0 (i)))), (6, .int (zI (i))), (5, .int (zI (j2))), (4, .int (zI (eb))), (2, .int (zI (f9))), (0, .ref (vad ad a 0)), (1, .ref (vad ad b 0))]) hx hb dX2_countParallels_160 rfl hl (by decide) rfl (fun ls hl => ?_)
                            refine lv_iload hx hb dX2_countParallels_161 (lv_at hl 1 rfl) ?_
                            refine lv_istore (lv' := [(4, .int (zI ((T b) 4 (j2)))), (3, .int (zI ((T a) 4 (i)))), (10, .int (zI ((T b) 4 (j2)))), (9, .int (zI ((T a) 4 (i)))), (8, .int (zI (0))), (7, .int (zI ((T a) 0 (i)))), (6, .int (zI (i))), (5, .int (zI (j2))), (2, .int (zI (f9))), (0, .ref (vad ad a 0)), (1, .ref (vad ad b 0))]) hx hb dX2_countParallels_163 hl (by decide) rfl (fun ls hl => ?_)
                            refine z_iinc (lv' := [(6, .int (zI (i + 1))), (4, .int (zI ((T b) 4 (j2)))), (3, .int (zI ((T a) 4 (i)))), (10, .int (zI ((T b) 4 (j2)))), (9, .int (zI ((T a) 4 (i)))), (8, .int (zI (0))), (7, .int (zI ((T a) 0 (i)))), (5, .int (zI (j2))), (2, .int (zI (f9))), (0, .ref (vad ad a 0)), (1, .ref (vad ad b 0))]) hx hb dX2_countParallels_165 hl (k := 6) rfl (by decide) rfl (fun ls hl => ?_)
                            refine lv_goto (tgt := 13) hx hb dX2_countParallels_168 (by decide) ?_
                            exact ih (i + 1) (j2) (f9) ((T a) 4 (i)) ((T b) 4 (j2)) (by omega) (by omega) (by rw [hs, h3]; show (if (jxC T Fv a b i) < Fv b 0 ∧ T b 0 (jxC T Fv a b i) = T a 0 i ∧ ¬ T a 4 i = -1 ∧ ¬ T b 4 (jxC T Fv a b i) = -1 then (if ¬ ea = -1 ∧ parB ea eb (T a 4 i) (T b 4 (jxC T Fv a b i)) = 1 then f9 + 1 else f9, T a 4 i, T b 4 (jxC T Fv a b i)) else (f9, ea, eb)) = _; rw [hjx]; first | (exfalso; omega) | rw [if_neg (by omega)] | (rw [if_pos (by omega)]; first | rw [if_pos (by omega)] | rw [if_neg (by omega)])) (by omega) (by omega) (by omega) (by omega) (by omega) (hjn) (by omega) _ (lv_sub hl [0, 7, 1, 2, 8, 9, 10] rfl)
                          · skip
                            have hpar : parB ea eb (T a 4 i) (T b 4 j2) = 1 := (bI_t h_152).symm
                            refine z_iinc (lv' := [(2, .int (zI (f9 + 1))), (10, .int (zI ((T b) 4 (j2)))), (9, .int (zI ((T a) 4 (i)))), (8, .int (zI (0))), (7, .int (zI ((T a) 0 (i)))), (6, .int (zI (i))), (5, .int (zI (j2))), (4, .int (zI (eb))), (3, .int (zI (ea))), (0, .ref (vad ad a 0)), (1, .ref (vad ad b 0))]) hx hb dX2_countParallels_155 hl (k := 8) rfl (by decide) rfl (fun ls hl => ?_)
                            refine lv_iload hx hb dX2_countParallels_158 (lv_at hl 2 rfl) ?_
                            refine lv_istore_n (lv' := [(3, .int (zI ((T a) 4 (i)))), (2, .int (zI (f9 + 1))), (10, .int (zI ((T b) 4 (j2)))), (9, .int (zI ((T a) 4 (i)))), (8, .int (zI (0))), (7, .int (zI ((T a) 0 (i)))), (6, .int (zI (i))), (5, .int (zI (j2))), (4, .int (zI (eb))), (0, .ref (vad ad a 0)), (1, .ref (vad ad b 0))]) hx hb dX2_countParallels_160 rfl hl (by decide) rfl (fun ls hl => ?_)
                            refine lv_iload hx hb dX2_countParallels_161 (lv_at hl 2 rfl) ?_
                            refine lv_istore (lv' := [(4, .int (zI ((T b) 4 (j2)))), (3, .int (zI ((T a) 4 (i)))), (2, .int (zI (f9 + 1))), (10, .int (zI ((T b) 4 (j2)))), (9, .int (zI ((T a) 4 (i)))), (8, .int (zI (0))), (7, .int (zI ((T a) 0 (i)))), (6, .int (zI (i))), (5, .int (zI (j2))), (0, .ref (vad ad a 0)), (1, .ref (vad ad b 0))]) hx hb dX2_countParallels_163 hl (by decide) rfl (fun ls hl => ?_)
                            refine z_iinc (lv' := [(6, .int (zI (i + 1))), (4, .int (zI ((T b) 4 (j2)))), (3, .int (zI ((T a) 4 (i)))), (2, .int (zI (f9 + 1))), (10, .int (zI ((T b) 4 (j2)))), (9, .int (zI ((T a) 4 (i)))), (8, .int (zI (0))), (7, .int (zI ((T a) 0 (i)))), (5, .int (zI (j2))), (0, .ref (vad ad a 0)), (1, .ref (vad ad b 0))]) hx hb dX2_countParallels_165 hl (k := 7) rfl (by decide) rfl (fun ls hl => ?_)
                            refine lv_goto (tgt := 13) hx hb dX2_countParallels_168 (by decide) ?_
                            exact ih (i + 1) (j2) (f9 + 1) ((T a) 4 (i)) ((T b) 4 (j2)) (by omega) (by omega) (by rw [hs, h3]; show (if (jxC T Fv a b i) < Fv b 0 ∧ T b 0 (jxC T Fv a b i) = T a 0 i ∧ ¬ T a 4 i = -1 ∧ ¬ T b 4 (jxC T Fv a b i) = -1 then (if ¬ ea = -1 ∧ parB ea eb (T a 4 i) (T b 4 (jxC T Fv a b i)) = 1 then f9 + 1 else f9, T a 4 i, T b 4 (jxC T Fv a b i)) else (f9, ea, eb)) = _; rw [hjx]; first | (exfalso; omega) | rw [if_neg (by omega)] | (rw [if_pos (by omega)]; first | rw [if_pos (by omega)] | rw [if_neg (by omega)])) (by omega) (by omega) (by omega) (by omega) (by omega) (hjn) (by omega) _ (lv_sub hl [0, 8, 1, 2, 3, 9, 10] rfl)
                · skip
                  refine lv_aload_n hx hb dX2_countParallels_71 rfl (lv_at hl 7 rfl) ?_
                  refine zv_get hx hb hK hts hown hV_b 0 (by decide) q_fl_RX2_114 (v := .ref ((vad ad b) 1)) rfl dX2_countParallels_72 ?_
                  refine z_iconst hx hb dX2_countParallels_75 ?_
                  refine zv_aT hx hb hK hV_b (0) (by decide) (i := 0) rfl dX2_countParallels_76 ?_
                  refine lv_iload hx hb dX2_countParallels_77 (lv_at hl 2 rfl) ?_
                  refine zv_lT hx hb hK hV_b (0) (by decide) (i := j2) (by omega) dX2_countParallels_79 ?_
                  refine lv_iload hx hb dX2_countParallels_80 (lv_at hl 0 rfl) ?_
                  refine z_icmp_ne (a := (T b) 0 (j2)) (b := (T a) 0 (i)) (tgt := 89) hx hb dX2_countParallels_82 (by decide) (by omega) (by omega) (fun h_82 => ?_) (fun h_82 => ?_)
                  · skip
                    refine z_iconst hx hb dX2_countParallels_89 ?_
                    refine lv_istore (lv' := [(8, .int (zI (0))), (7, .int (zI ((T a) 0 (i)))), (6, .int (zI (i))), (5, .int (zI (j2))), (4, .int (zI (eb))), (3, .int (zI (ea))), (2, .int (zI (f9))), (0, .ref (vad ad a 0)), (1, .ref (vad ad b 0))]) hx hb dX2_countParallels_90 hl (by decide) rfl (fun ls hl => ?_)
                    refine lv_iload hx hb dX2_countParallels_92 (lv_at hl 0 rfl) ?_
                    refine z_if_eq (a := 0) (tgt := 165) hx hb dX2_countParallels_94 (by decide) (by omega) (fun h_94 => ?_) (fun h_94 => ?_)
                    · skip
                      refine z_iinc (lv' := [(6, .int (zI (i + 1))), (8, .int (zI (0))), (7, .int (zI ((T a) 0 (i)))), (5, .int (zI (j2))), (4, .int (zI (eb))), (3, .int (zI (ea))), (2, .int (zI (f9))), (0, .ref (vad ad a 0)), (1, .ref (vad ad b 0))]) hx hb dX2_countParallels_165 hl (k := 2) rfl (by decide) rfl (fun ls hl => ?_)
                      refine lv_goto (tgt := 13) hx hb dX2_countParallels_168 (by decide) ?_
                      exact ih (i + 1) (j2) (f9) (ea) (eb) (by omega) (by omega) (by rw [hs, h3]; show (if (jxC T Fv a b i) < Fv b 0 ∧ T b 0 (jxC T Fv a b i) = T a 0 i ∧ ¬ T a 4 i = -1 ∧ ¬ T b 4 (jxC T Fv a b i) = -1 then (if ¬ ea = -1 ∧ parB ea eb (T a 4 i) (T b 4 (jxC T Fv a b i)) = 1 then f9 + 1 else f9, T a 4 i, T b 4 (jxC T Fv a b i)) else (f9, ea, eb)) = _; rw [hjx]; first | (exfalso; omega) | rw [if_neg (by omega)] | (rw [if_pos (by omega)]; first | rw [if_pos (by omega)] | rw [if_neg (by omega)])) (by omega) (by omega) (by omega) (by omega) (by omega) (hjn) (by omega) _ (lv_sub hl [0, 3, 4, 5, 6, 7, 8] rfl)
                    · skip
                      refine lv_aload_n hx hb dX2_countParallels_97 rfl (lv_at hl 7 rfl) ?_
                      refine lv_iload hx hb dX2_countParallels_98 (lv_at hl 2 rfl) ?_
                      refine k_R (c_VR (As := [.int (zI (i))]) (rest := []) ⟨hx, hb, hml, hown, hts⟩ hG hS hA (c_X1_isNote l G (vad ad a) (T a) (P a) (S a) (Av a) (Fv a) i (by omega) (by omega)) ⟨q_ml_RX2_131, q_im_X1_isNote, q_sel_X1_isNote, q_ini_RX1, q_code_X1_isNote⟩ hv_X1_isNote (VP.rec hK hV_a) hV_a ⟨by decide, by decide⟩ ⟨Nat.zero_le _, Nat.zero_le _⟩ rfl hl.1 rfl (Nat.le_of_ble_eq_true rfl) dX2_countParallels_100) ?_
                      refine z_bif_eq (q := ¬ (T a) 4 i = -1) (tgt := 165) hx hb dX2_countParallels_103 (by decide) (fun h_103 => ?_) (fun h_103 => ?_)
                      · skip
                        refine z_iinc (lv' := [(6, .int (zI (i + 1))), (8, .int (zI (0))), (7, .int (zI ((T a) 0 (i)))), (5, .int (zI (j2))), (4, .int (zI (eb))), (3, .int (zI (ea))), (2, .int (zI (f9))), (0, .ref (vad ad a 0)), (1, .ref (vad ad b 0))]) hx hb dX2_countParallels_165 hl (k := 2) rfl (by decide) rfl (fun ls hl => ?_)
                        refine lv_goto (tgt := 13) hx hb dX2_countParallels_168 (by decide) ?_
                        exact ih (i + 1) (j2) (f9) (ea) (eb) (by omega) (by omega) (by rw [hs, h3]; show (if (jxC T Fv a b i) < Fv b 0 ∧ T b 0 (jxC T Fv a b i) = T a 0 i ∧ ¬ T a 4 i = -1 ∧ ¬ T b 4 (jxC T Fv a b i) = -1 then (if ¬ ea = -1 ∧ parB ea eb (T a 4 i) (T b 4 (jxC T Fv a b i)) = 1 then f9 + 1 else f9, T a 4 i, T b 4 (jxC T Fv a b i)) else (f9, ea, eb)) = _; rw [hjx]; first | (exfalso; omega) | rw [if_neg (by omega)] | (rw [if_pos (by omega)]; first | rw [if_pos (by omega)] | rw [if_neg (by omega)])) (by omega) (by omega) (by omega) (by omega) (by omega) (hjn) (by omega) _ (lv_sub hl [0, 3, 4, 5, 6, 7, 8] rfl)
                      · skip
                        refine lv_aload_n hx hb dX2_countParallels_106 rfl (lv_at hl 8 rfl) ?_
                        refine lv_iload hx hb dX2_countParallels_107 (lv_at hl 3 rfl) ?_
                        refine k_R (c_VR (As := [.int (zI (j2))]) (rest := []) ⟨hx, hb, hml, hown, hts⟩ hG hS hA (c_X1_isNote l G (vad ad b) (T b) (P b) (S b) (Av b) (Fv b) j2 (by omega) (by omega)) ⟨q_ml_RX2_131, q_im_X1_isNote, q_sel_X1_isNote, q_ini_RX1, q_code_X1_isNote⟩ hv_X1_isNote (VP.rec hK hV_b) hV_b ⟨by decide, by decide⟩ ⟨Nat.zero_le _, Nat.zero_le _⟩ rfl hl.1 rfl (Nat.le_of_ble_eq_true rfl) dX2_countParallels_109) ?_
                        refine z_bif_eq (q := ¬ (T b) 4 j2 = -1) (tgt := 165) hx hb dX2_countParallels_112 (by decide) (fun h_112 => ?_) (fun h_112 => ?_)
                        · skip
                          refine z_iinc (lv' := [(6, .int (zI (i + 1))), (8, .int (zI (0))), (7, .int (zI ((T a) 0 (i)))), (5, .int (zI (j2))), (4, .int (zI (eb))), (3, .int (zI (ea))), (2, .int (zI (f9))), (0, .ref (vad ad a 0)), (1, .ref (vad ad b 0))]) hx hb dX2_countParallels_165 hl (k := 2) rfl (by decide) rfl (fun ls hl => ?_)
                          refine lv_goto (tgt := 13) hx hb dX2_countParallels_168 (by decide) ?_
                          exact ih (i + 1) (j2) (f9) (ea) (eb) (by omega) (by omega) (by rw [hs, h3]; show (if (jxC T Fv a b i) < Fv b 0 ∧ T b 0 (jxC T Fv a b i) = T a 0 i ∧ ¬ T a 4 i = -1 ∧ ¬ T b 4 (jxC T Fv a b i) = -1 then (if ¬ ea = -1 ∧ parB ea eb (T a 4 i) (T b 4 (jxC T Fv a b i)) = 1 then f9 + 1 else f9, T a 4 i, T b 4 (jxC T Fv a b i)) else (f9, ea, eb)) = _; rw [hjx]; first | (exfalso; omega) | rw [if_neg (by omega)] | (rw [if_pos (by omega)]; first | rw [if_pos (by omega)] | rw [if_neg (by omega)])) (by omega) (by omega) (by omega) (by omega) (by omega) (hjn) (by omega) _ (lv_sub hl [0, 3, 4, 5, 6, 7, 8] rfl)
                        · skip
                          refine lv_aload_n hx hb dX2_countParallels_115 rfl (lv_at hl 7 rfl) ?_
                          refine zv_get hx hb hK hts hown hV_a 0 (by decide) q_fl_RX2_114 (v := .ref ((vad ad a) 1)) rfl dX2_countParallels_116 ?_
                          refine z_iconst hx hb dX2_countParallels_119 ?_
                          refine zv_aT hx hb hK hV_a (4) (by decide) (i := 4) rfl dX2_countParallels_120 ?_
                          refine lv_iload hx hb dX2_countParallels_121 (lv_at hl 2 rfl) ?_
                          refine zv_lT hx hb hK hV_a (4) (by decide) (i := i) (by omega) dX2_countParallels_123 ?_
                          refine lv_istore (lv' := [(9, .int (zI ((T a) 4 (i)))), (8, .int (zI (0))), (7, .int (zI ((T a) 0 (i)))), (6, .int (zI (i))), (5, .int (zI (j2))), (4, .int (zI (eb))), (3, .int (zI (ea))), (2, .int (zI (f9))), (0, .ref (vad ad a 0)), (1, .ref (vad ad b 0))]) hx hb dX2_countParallels_124 hl (by decide) rfl (fun ls hl => ?_)
                          refine lv_aload_n hx hb dX2_countParallels_126 rfl (lv_at hl 9 rfl) ?_
                          refine zv_get hx hb hK hts hown hV_b 0 (by decide) q_fl_RX2_114 (v := .ref ((vad ad b) 1)) rfl dX2_countParallels_127 ?_
                          refine z_iconst hx hb dX2_countParallels_130 ?_
                          refine zv_aT hx hb hK hV_b (4) (by decide) (i := 4) rfl dX2_countParallels_131 ?_
                          refine lv_iload hx hb dX2_countParallels_132 (lv_at hl 4 rfl) ?_
                          refine zv_lT hx hb hK hV_b (4) (by decide) (i := j2) (by omega) dX2_countParallels_134 ?_
                          refine lv_istore (lv' := [(10, .int (zI ((T b) 4 (j2)))), (9, .int (zI ((T a) 4 (i)))), (8, .int (zI (0))), (7, .int (zI ((T a) 0 (i)))), (6, .int (zI (i))), (5, .int (zI (j2))), (4, .int (zI (eb))), (3, .int (zI (ea))), (2, .int (zI (f9))), (0, .ref (vad ad a 0)), (1, .ref (vad ad b 0))]) hx hb dX2_countParallels_135 hl (by decide) rfl (fun ls hl => ?_)
                          refine lv_iload_n hx hb dX2_countParallels_137 rfl (lv_at hl 7 rfl) ?_
                          refine z_iconst hx hb dX2_countParallels_138 ?_
                          refine z_icmp_eq (a := ea) (b := -1) (tgt := 158) hx hb dX2_countParallels_139 (by decide) (by omega) (by omega) (fun h_139 => ?_) (fun h_139 => ?_)
                          · skip
                            refine lv_iload hx hb dX2_countParallels_158 (lv_at hl 1 rfl) ?_
                            refine lv_istore_n (lv' := [(3, .int (zI ((T a) 4 (i)))), (10, .int (zI ((T b) 4 (j2)))), (9, .int (zI ((T a) 4 (i)))), (8, .int (zI (0))), (7, .int (zI ((T a) 0 (i)))), (6, .int (zI (i))), (5, .int (zI (j2))), (4, .int (zI (eb))), (2, .int (zI (f9))), (0, .ref (vad ad a 0)), (1, .ref (vad ad b 0))]) hx hb dX2_countParallels_160 rfl hl (by decide) rfl (fun ls hl => ?_)
                            refine lv_iload hx hb dX2_countParallels_161 (lv_at hl 1 rfl) ?_
                            refine lv_istore (lv' := [(4, .int (zI ((T b) 4 (j2)))), (3, .int (zI ((T a) 4 (i)))), (10, .int (zI ((T b) 4 (j2)))), (9, .int (zI ((T a) 4 (i)))), (8, .int (zI (0))), (7, .int (zI ((T a) 0 (i)))), (6, .int (zI (i))), (5, .int (zI (j2))), (2, .int (zI (f9))), (0, .ref (vad ad a 0)), (1, .ref (vad ad b 0))]) hx hb dX2_countParallels_163 hl (by decide) rfl (fun ls hl => ?_)
                            refine z_iinc (lv' := [(6, .int (zI (i + 1))), (4, .int (zI ((T b) 4 (j2)))), (3, .int (zI ((T a) 4 (i)))), (10, .int (zI ((T b) 4 (j2)))), (9, .int (zI ((T a) 4 (i)))), (8, .int (zI (0))), (7, .int (zI ((T a) 0 (i)))), (5, .int (zI (j2))), (2, .int (zI (f9))), (0, .ref (vad ad a 0)), (1, .ref (vad ad b 0))]) hx hb dX2_countParallels_165 hl (k := 6) rfl (by decide) rfl (fun ls hl => ?_)
                            refine lv_goto (tgt := 13) hx hb dX2_countParallels_168 (by decide) ?_
                            exact ih (i + 1) (j2) (f9) ((T a) 4 (i)) ((T b) 4 (j2)) (by omega) (by omega) (by rw [hs, h3]; show (if (jxC T Fv a b i) < Fv b 0 ∧ T b 0 (jxC T Fv a b i) = T a 0 i ∧ ¬ T a 4 i = -1 ∧ ¬ T b 4 (jxC T Fv a b i) = -1 then (if ¬ ea = -1 ∧ parB ea eb (T a 4 i) (T b 4 (jxC T Fv a b i)) = 1 then f9 + 1 else f9, T a 4 i, T b 4 (jxC T Fv a b i)) else (f9, ea, eb)) = _; rw [hjx]; first | (exfalso; omega) | rw [if_neg (by omega)] | (rw [if_pos (by omega)]; first | rw [if_pos (by omega)] | rw [if_neg (by omega)])) (by omega) (by omega) (by omega) (by omega) (by omega) (hjn) (by omega) _ (lv_sub hl [0, 7, 1, 2, 8, 9, 10] rfl)
                          · skip
                            refine lv_iload_n hx hb dX2_countParallels_142 rfl (lv_at hl 7 rfl) ?_
                            refine lv_iload hx hb dX2_countParallels_143 (lv_at hl 6 rfl) ?_
                            refine lv_iload hx hb dX2_countParallels_145 (lv_at hl 1 rfl) ?_
                            refine lv_iload hx hb dX2_countParallels_147 (lv_at hl 0 rfl) ?_
                            refine k_R (c_SR (As := [.int (zI (ea)), .int (zI (eb)), .int (zI ((T a) 4 (i))), .int (zI ((T b) 4 (j2)))]) (rest := []) ⟨hx, hb, hml, hown, hts⟩ hG hS hA (c_X2_isParallel l G ea eb ((T a) 4 (i)) ((T b) 4 (j2)) (by omega) (by omega) (by omega) (by omega)) ⟨q_ml_RX2_273, q_st_X2_isParallel, q_ini_RX2, q_code_X2_isParallel⟩ hs_X2_isParallel trivial ⟨by decide, by decide⟩ ⟨Nat.zero_le _, Nat.zero_le _⟩ rfl hl.1 rfl (Nat.le_of_ble_eq_true rfl) dX2_countParallels_149) ?_
                            refine z_bif_eq (q := ((((T b) 4 (j2)) - ((T a) 4 (i))) % 12 = 0 ∨ (((T b) 4 (j2)) - ((T a) 4 (i))) % 12 = 7) ∧ (((T b) 4 (j2)) - ((T a) 4 (i))) % 12 = (eb - ea) % 12 ∧ ((ea < ((T a) 4 (i)) ∧ eb < ((T b) 4 (j2))) ∨ (((T a) 4 (i)) < ea ∧ ((T b) 4 (j2)) < eb))) (tgt := 158) hx hb dX2_countParallels_152 (by decide) (fun h_152 => ?_) (fun h_152 => ?_)
                            · skip
                              have hpar : parB ea eb (T a 4 i) (T b 4 j2) = 0 := (bI_f h_152).symm
                              refine lv_iload hx hb dX2_countParallels_158 (lv_at hl 1 rfl) ?_
                              refine lv_istore_n (lv' := [(3, .int (zI ((T a) 4 (i)))), (10, .int (zI ((T b) 4 (j2)))), (9, .int (zI ((T a) 4 (i)))), (8, .int (zI (0))), (7, .int (zI ((T a) 0 (i)))), (6, .int (zI (i))), (5, .int (zI (j2))), (4, .int (zI (eb))), (2, .int (zI (f9))), (0, .ref (vad ad a 0)), (1, .ref (vad ad b 0))]) hx hb dX2_countParallels_160 rfl hl (by decide) rfl (fun ls hl => ?_)
                              refine lv_iload hx hb dX2_countParallels_161 (lv_at hl 1 rfl) ?_
                              refine lv_istore (lv' := [(4, .int (zI ((T b) 4 (j2)))), (3, .int (zI ((T a) 4 (i)))), (10, .int (zI ((T b) 4 (j2)))), (9, .int (zI ((T a) 4 (i)))), (8, .int (zI (0))), (7, .int (zI ((T a) 0 (i)))), (6, .int (zI (i))), (5, .int (zI (j2))), (2, .int (zI (f9))), (0, .ref (vad ad a 0)), (1, .ref (vad ad b 0))]) hx hb dX2_countParallels_163 hl (by decide) rfl (fun ls hl => ?_)
                              refine z_iinc (lv' := [(6, .int (zI (i + 1))), (4, .int (zI ((T b) 4 (j2)))), (3, .int (zI ((T a) 4 (i)))), (10, .int (zI ((T b) 4 (j2)))), (9, .int (zI ((T a) 4 (i)))), (8, .int (zI (0))), (7, .int (zI ((T a) 0 (i)))), (5, .int (zI (j2))), (2, .int (zI (f9))), (0, .ref (vad ad a 0)), (1, .ref (vad ad b 0))]) hx hb dX2_countParallels_165 hl (k := 6) rfl (by decide) rfl (fun ls hl => ?_)
                              refine lv_goto (tgt := 13) hx hb dX2_countParallels_168 (by decide) ?_
                              exact ih (i + 1) (j2) (f9) ((T a) 4 (i)) ((T b) 4 (j2)) (by omega) (by omega) (by rw [hs, h3]; show (if (jxC T Fv a b i) < Fv b 0 ∧ T b 0 (jxC T Fv a b i) = T a 0 i ∧ ¬ T a 4 i = -1 ∧ ¬ T b 4 (jxC T Fv a b i) = -1 then (if ¬ ea = -1 ∧ parB ea eb (T a 4 i) (T b 4 (jxC T Fv a b i)) = 1 then f9 + 1 else f9, T a 4 i, T b 4 (jxC T Fv a b i)) else (f9, ea, eb)) = _; rw [hjx]; first | (exfalso; omega) | rw [if_neg (by omega)] | (rw [if_pos (by omega)]; first | rw [if_pos (by omega)] | rw [if_neg (by omega)])) (by omega) (by omega) (by omega) (by omega) (by omega) (hjn) (by omega) _ (lv_sub hl [0, 7, 1, 2, 8, 9, 10] rfl)
                            · skip
                              have hpar : parB ea eb (T a 4 i) (T b 4 j2) = 1 := (bI_t h_152).symm
                              refine z_iinc (lv' := [(2, .int (zI (f9 + 1))), (10, .int (zI ((T b) 4 (j2)))), (9, .int (zI ((T a) 4 (i)))), (8, .int (zI (0))), (7, .int (zI ((T a) 0 (i)))), (6, .int (zI (i))), (5, .int (zI (j2))), (4, .int (zI (eb))), (3, .int (zI (ea))), (0, .ref (vad ad a 0)), (1, .ref (vad ad b 0))]) hx hb dX2_countParallels_155 hl (k := 8) rfl (by decide) rfl (fun ls hl => ?_)
                              refine lv_iload hx hb dX2_countParallels_158 (lv_at hl 2 rfl) ?_
                              refine lv_istore_n (lv' := [(3, .int (zI ((T a) 4 (i)))), (2, .int (zI (f9 + 1))), (10, .int (zI ((T b) 4 (j2)))), (9, .int (zI ((T a) 4 (i)))), (8, .int (zI (0))), (7, .int (zI ((T a) 0 (i)))), (6, .int (zI (i))), (5, .int (zI (j2))), (4, .int (zI (eb))), (0, .ref (vad ad a 0)), (1, .ref (vad ad b 0))]) hx hb dX2_countParallels_160 rfl hl (by decide) rfl (fun ls hl => ?_)
                              refine lv_iload hx hb dX2_countParallels_161 (lv_at hl 2 rfl) ?_
                              refine lv_istore (lv' := [(4, .int (zI ((T b) 4 (j2)))), (3, .int (zI ((T a) 4 (i)))), (2, .int (zI (f9 + 1))), (10, .int (zI ((T b) 4 (j2)))), (9, .int (zI ((T a) 4 (i)))), (8, .int (zI (0))), (7, .int (zI ((T a) 0 (i)))), (6, .int (zI (i))), (5, .int (zI (j2))), (0, .ref (vad ad a 0)), (1, .ref (vad ad b 0))]) hx hb dX2_countParallels_163 hl (by decide) rfl (fun ls hl => ?_)
                              refine z_iinc (lv' := [(6, .int (zI (i + 1))), (4, .int (zI ((T b) 4 (j2)))), (3, .int (zI ((T a) 4 (i)))), (2, .int (zI (f9 + 1))), (10, .int (zI ((T b) 4 (j2)))), (9, .int (zI ((T a) 4 (i)))), (8, .int (zI (0))), (7, .int (zI ((T a) 0 (i)))), (5, .int (zI (j2))), (0, .ref (vad ad a 0)), (1, .ref (vad ad b 0))]) hx hb dX2_countParallels_165 hl (k := 7) rfl (by decide) rfl (fun ls hl => ?_)
                              refine lv_goto (tgt := 13) hx hb dX2_countParallels_168 (by decide) ?_
                              exact ih (i + 1) (j2) (f9 + 1) ((T a) 4 (i)) ((T b) 4 (j2)) (by omega) (by omega) (by rw [hs, h3]; show (if (jxC T Fv a b i) < Fv b 0 ∧ T b 0 (jxC T Fv a b i) = T a 0 i ∧ ¬ T a 4 i = -1 ∧ ¬ T b 4 (jxC T Fv a b i) = -1 then (if ¬ ea = -1 ∧ parB ea eb (T a 4 i) (T b 4 (jxC T Fv a b i)) = 1 then f9 + 1 else f9, T a 4 i, T b 4 (jxC T Fv a b i)) else (f9, ea, eb)) = _; rw [hjx]; first | (exfalso; omega) | rw [if_neg (by omega)] | (rw [if_pos (by omega)]; first | rw [if_pos (by omega)] | rw [if_neg (by omega)])) (by omega) (by omega) (by omega) (by omega) (by omega) (hjn) (by omega) _ (lv_sub hl [0, 8, 1, 2, 3, 9, 10] rfl)
                  · skip
                    refine z_iconst hx hb dX2_countParallels_85 ?_
                    refine lv_goto (tgt := 90) hx hb dX2_countParallels_86 (by decide) ?_
                    refine lv_istore (lv' := [(8, .int (zI (1))), (7, .int (zI ((T a) 0 (i)))), (6, .int (zI (i))), (5, .int (zI (j2))), (4, .int (zI (eb))), (3, .int (zI (ea))), (2, .int (zI (f9))), (0, .ref (vad ad a 0)), (1, .ref (vad ad b 0))]) hx hb dX2_countParallels_90 hl (by decide) rfl (fun ls hl => ?_)
                    refine lv_iload hx hb dX2_countParallels_92 (lv_at hl 0 rfl) ?_
                    refine z_if_eq (a := 1) (tgt := 165) hx hb dX2_countParallels_94 (by decide) (by omega) (fun h_94 => ?_) (fun h_94 => ?_)
                    · skip
                      refine z_iinc (lv' := [(6, .int (zI (i + 1))), (8, .int (zI (1))), (7, .int (zI ((T a) 0 (i)))), (5, .int (zI (j2))), (4, .int (zI (eb))), (3, .int (zI (ea))), (2, .int (zI (f9))), (0, .ref (vad ad a 0)), (1, .ref (vad ad b 0))]) hx hb dX2_countParallels_165 hl (k := 2) rfl (by decide) rfl (fun ls hl => ?_)
                      refine lv_goto (tgt := 13) hx hb dX2_countParallels_168 (by decide) ?_
                      exact ih (i + 1) (j2) (f9) (ea) (eb) (by omega) (by omega) (by rw [hs, h3]; show (if (jxC T Fv a b i) < Fv b 0 ∧ T b 0 (jxC T Fv a b i) = T a 0 i ∧ ¬ T a 4 i = -1 ∧ ¬ T b 4 (jxC T Fv a b i) = -1 then (if ¬ ea = -1 ∧ parB ea eb (T a 4 i) (T b 4 (jxC T Fv a b i)) = 1 then f9 + 1 else f9, T a 4 i, T b 4 (jxC T Fv a b i)) else (f9, ea, eb)) = _; rw [hjx]; first | (exfalso; omega) | rw [if_neg (by omega)] | (rw [if_pos (by omega)]; first | rw [if_pos (by omega)] | rw [if_neg (by omega)])) (by omega) (by omega) (by omega) (by omega) (by omega) (hjn) (by omega) _ (lv_sub hl [0, 3, 4, 5, 6, 7, 8] rfl)
                    · skip
                      refine lv_aload_n hx hb dX2_countParallels_97 rfl (lv_at hl 7 rfl) ?_
                      refine lv_iload hx hb dX2_countParallels_98 (lv_at hl 2 rfl) ?_
                      refine k_R (c_VR (As := [.int (zI (i))]) (rest := []) ⟨hx, hb, hml, hown, hts⟩ hG hS hA (c_X1_isNote l G (vad ad a) (T a) (P a) (S a) (Av a) (Fv a) i (by omega) (by omega)) ⟨q_ml_RX2_131, q_im_X1_isNote, q_sel_X1_isNote, q_ini_RX1, q_code_X1_isNote⟩ hv_X1_isNote (VP.rec hK hV_a) hV_a ⟨by decide, by decide⟩ ⟨Nat.zero_le _, Nat.zero_le _⟩ rfl hl.1 rfl (Nat.le_of_ble_eq_true rfl) dX2_countParallels_100) ?_
                      refine z_bif_eq (q := ¬ (T a) 4 i = -1) (tgt := 165) hx hb dX2_countParallels_103 (by decide) (fun h_103 => ?_) (fun h_103 => ?_)
                      · skip
                        refine z_iinc (lv' := [(6, .int (zI (i + 1))), (8, .int (zI (1))), (7, .int (zI ((T a) 0 (i)))), (5, .int (zI (j2))), (4, .int (zI (eb))), (3, .int (zI (ea))), (2, .int (zI (f9))), (0, .ref (vad ad a 0)), (1, .ref (vad ad b 0))]) hx hb dX2_countParallels_165 hl (k := 2) rfl (by decide) rfl (fun ls hl => ?_)
                        refine lv_goto (tgt := 13) hx hb dX2_countParallels_168 (by decide) ?_
                        exact ih (i + 1) (j2) (f9) (ea) (eb) (by omega) (by omega) (by rw [hs, h3]; show (if (jxC T Fv a b i) < Fv b 0 ∧ T b 0 (jxC T Fv a b i) = T a 0 i ∧ ¬ T a 4 i = -1 ∧ ¬ T b 4 (jxC T Fv a b i) = -1 then (if ¬ ea = -1 ∧ parB ea eb (T a 4 i) (T b 4 (jxC T Fv a b i)) = 1 then f9 + 1 else f9, T a 4 i, T b 4 (jxC T Fv a b i)) else (f9, ea, eb)) = _; rw [hjx]; first | (exfalso; omega) | rw [if_neg (by omega)] | (rw [if_pos (by omega)]; first | rw [if_pos (by omega)] | rw [if_neg (by omega)])) (by omega) (by omega) (by omega) (by omega) (by omega) (hjn) (by omega) _ (lv_sub hl [0, 3, 4, 5, 6, 7, 8] rfl)
                      · skip
                        refine lv_aload_n hx hb dX2_countParallels_106 rfl (lv_at hl 8 rfl) ?_
                        refine lv_iload hx hb dX2_countParallels_107 (lv_at hl 3 rfl) ?_
                        refine k_R (c_VR (As := [.int (zI (j2))]) (rest := []) ⟨hx, hb, hml, hown, hts⟩ hG hS hA (c_X1_isNote l G (vad ad b) (T b) (P b) (S b) (Av b) (Fv b) j2 (by omega) (by omega)) ⟨q_ml_RX2_131, q_im_X1_isNote, q_sel_X1_isNote, q_ini_RX1, q_code_X1_isNote⟩ hv_X1_isNote (VP.rec hK hV_b) hV_b ⟨by decide, by decide⟩ ⟨Nat.zero_le _, Nat.zero_le _⟩ rfl hl.1 rfl (Nat.le_of_ble_eq_true rfl) dX2_countParallels_109) ?_
                        refine z_bif_eq (q := ¬ (T b) 4 j2 = -1) (tgt := 165) hx hb dX2_countParallels_112 (by decide) (fun h_112 => ?_) (fun h_112 => ?_)
                        · skip
                          refine z_iinc (lv' := [(6, .int (zI (i + 1))), (8, .int (zI (1))), (7, .int (zI ((T a) 0 (i)))), (5, .int (zI (j2))), (4, .int (zI (eb))), (3, .int (zI (ea))), (2, .int (zI (f9))), (0, .ref (vad ad a 0)), (1, .ref (vad ad b 0))]) hx hb dX2_countParallels_165 hl (k := 2) rfl (by decide) rfl (fun ls hl => ?_)
                          refine lv_goto (tgt := 13) hx hb dX2_countParallels_168 (by decide) ?_
                          exact ih (i + 1) (j2) (f9) (ea) (eb) (by omega) (by omega) (by rw [hs, h3]; show (if (jxC T Fv a b i) < Fv b 0 ∧ T b 0 (jxC T Fv a b i) = T a 0 i ∧ ¬ T a 4 i = -1 ∧ ¬ T b 4 (jxC T Fv a b i) = -1 then (if ¬ ea = -1 ∧ parB ea eb (T a 4 i) (T b 4 (jxC T Fv a b i)) = 1 then f9 + 1 else f9, T a 4 i, T b 4 (jxC T Fv a b i)) else (f9, ea, eb)) = _; rw [hjx]; first | (exfalso; omega) | rw [if_neg (by omega)] | (rw [if_pos (by omega)]; first | rw [if_pos (by omega)] | rw [if_neg (by omega)])) (by omega) (by omega) (by omega) (by omega) (by omega) (hjn) (by omega) _ (lv_sub hl [0, 3, 4, 5, 6, 7, 8] rfl)
                        · skip
                          refine lv_aload_n hx hb dX2_countParallels_115 rfl (lv_at hl 7 rfl) ?_
                          refine zv_get hx hb hK hts hown hV_a 0 (by decide) q_fl_RX2_114 (v := .ref ((vad ad a) 1)) rfl dX2_countParallels_116 ?_
                          refine z_iconst hx hb dX2_countParallels_119 ?_
                          refine zv_aT hx hb hK hV_a (4) (by decide) (i := 4) rfl dX2_countParallels_120 ?_
                          refine lv_iload hx hb dX2_countParallels_121 (lv_at hl 2 rfl) ?_
                          refine zv_lT hx hb hK hV_a (4) (by decide) (i := i) (by omega) dX2_countParallels_123 ?_
                          refine lv_istore (lv' := [(9, .int (zI ((T a) 4 (i)))), (8, .int (zI (1))), (7, .int (zI ((T a) 0 (i)))), (6, .int (zI (i))), (5, .int (zI (j2))), (4, .int (zI (eb))), (3, .int (zI (ea))), (2, .int (zI (f9))), (0, .ref (vad ad a 0)), (1, .ref (vad ad b 0))]) hx hb dX2_countParallels_124 hl (by decide) rfl (fun ls hl => ?_)
                          refine lv_aload_n hx hb dX2_countParallels_126 rfl (lv_at hl 9 rfl) ?_
                          refine zv_get hx hb hK hts hown hV_b 0 (by decide) q_fl_RX2_114 (v := .ref ((vad ad b) 1)) rfl dX2_countParallels_127 ?_
                          refine z_iconst hx hb dX2_countParallels_130 ?_
                          refine zv_aT hx hb hK hV_b (4) (by decide) (i := 4) rfl dX2_countParallels_131 ?_
                          refine lv_iload hx hb dX2_countParallels_132 (lv_at hl 4 rfl) ?_
                          refine zv_lT hx hb hK hV_b (4) (by decide) (i := j2) (by omega) dX2_countParallels_134 ?_
                          refine lv_istore (lv' := [(10, .int (zI ((T b) 4 (j2)))), (9, .int (zI ((T a) 4 (i)))), (8, .int (zI (1))), (7, .int (zI ((T a) 0 (i)))), (6, .int (zI (i))), (5, .int (zI (j2))), (4, .int (zI (eb))), (3, .int (zI (ea))), (2, .int (zI (f9))), (0, .ref (vad ad a 0)), (1, .ref (vad ad b 0))]) hx hb dX2_countParallels_135 hl (by decide) rfl (fun ls hl => ?_)
                          refine lv_iload_n hx hb dX2_countParallels_137 rfl (lv_at hl 7 rfl) ?_
                          refine z_iconst hx hb dX2_countParallels_138 ?_
                          refine z_icmp_eq (a := ea) (b := -1) (tgt := 158) hx hb dX2_countParallels_139 (by decide) (by omega) (by omega) (fun h_139 => ?_) (fun h_139 => ?_)
                          · skip
                            refine lv_iload hx hb dX2_countParallels_158 (lv_at hl 1 rfl) ?_
                            refine lv_istore_n (lv' := [(3, .int (zI ((T a) 4 (i)))), (10, .int (zI ((T b) 4 (j2)))), (9, .int (zI ((T a) 4 (i)))), (8, .int (zI (1))), (7, .int (zI ((T a) 0 (i)))), (6, .int (zI (i))), (5, .int (zI (j2))), (4, .int (zI (eb))), (2, .int (zI (f9))), (0, .ref (vad ad a 0)), (1, .ref (vad ad b 0))]) hx hb dX2_countParallels_160 rfl hl (by decide) rfl (fun ls hl => ?_)
                            refine lv_iload hx hb dX2_countParallels_161 (lv_at hl 1 rfl) ?_
                            refine lv_istore (lv' := [(4, .int (zI ((T b) 4 (j2)))), (3, .int (zI ((T a) 4 (i)))), (10, .int (zI ((T b) 4 (j2)))), (9, .int (zI ((T a) 4 (i)))), (8, .int (zI (1))), (7, .int (zI ((T a) 0 (i)))), (6, .int (zI (i))), (5, .int (zI (j2))), (2, .int (zI (f9))), (0, .ref (vad ad a 0)), (1, .ref (vad ad b 0))]) hx hb dX2_countParallels_163 hl (by decide) rfl (fun ls hl => ?_)
                            refine z_iinc (lv' := [(6, .int (zI (i + 1))), (4, .int (zI ((T b) 4 (j2)))), (3, .int (zI ((T a) 4 (i)))), (10, .int (zI ((T b) 4 (j2)))), (9, .int (zI ((T a) 4 (i)))), (8, .int (zI (1))), (7, .int (zI ((T a) 0 (i)))), (5, .int (zI (j2))), (2, .int (zI (f9))), (0, .ref (vad ad a 0)), (1, .ref (vad ad b 0))]) hx hb dX2_countParallels_165 hl (k := 6) rfl (by decide) rfl (fun ls hl => ?_)
                            refine lv_goto (tgt := 13) hx hb dX2_countParallels_168 (by decide) ?_
                            exact ih (i + 1) (j2) (f9) ((T a) 4 (i)) ((T b) 4 (j2)) (by omega) (by omega) (by rw [hs, h3]; show (if (jxC T Fv a b i) < Fv b 0 ∧ T b 0 (jxC T Fv a b i) = T a 0 i ∧ ¬ T a 4 i = -1 ∧ ¬ T b 4 (jxC T Fv a b i) = -1 then (if ¬ ea = -1 ∧ parB ea eb (T a 4 i) (T b 4 (jxC T Fv a b i)) = 1 then f9 + 1 else f9, T a 4 i, T b 4 (jxC T Fv a b i)) else (f9, ea, eb)) = _; rw [hjx]; first | (exfalso; omega) | rw [if_neg (by omega)] | (rw [if_pos (by omega)]; first | rw [if_pos (by omega)] | rw [if_neg (by omega)])) (by omega) (by omega) (by omega) (by omega) (by omega) (hjn) (by omega) _ (lv_sub hl [0, 7, 1, 2, 8, 9, 10] rfl)
                          · skip
                            refine lv_iload_n hx hb dX2_countParallels_142 rfl (lv_at hl 7 rfl) ?_
                            refine lv_iload hx hb dX2_countParallels_143 (lv_at hl 6 rfl) ?_
                            refine lv_iload hx hb dX2_countParallels_145 (lv_at hl 1 rfl) ?_
                            refine lv_iload hx hb dX2_countParallels_147 (lv_at hl 0 rfl) ?_
                            refine k_R (c_SR (As := [.int (zI (ea)), .int (zI (eb)), .int (zI ((T a) 4 (i))), .int (zI ((T b) 4 (j2)))]) (rest := []) ⟨hx, hb, hml, hown, hts⟩ hG hS hA (c_X2_isParallel l G ea eb ((T a) 4 (i)) ((T b) 4 (j2)) (by omega) (by omega) (by omega) (by omega)) ⟨q_ml_RX2_273, q_st_X2_isParallel, q_ini_RX2, q_code_X2_isParallel⟩ hs_X2_isParallel trivial ⟨by decide, by decide⟩ ⟨Nat.zero_le _, Nat.zero_le _⟩ rfl hl.1 rfl (Nat.le_of_ble_eq_true rfl) dX2_countParallels_149) ?_
                            refine z_bif_eq (q := ((((T b) 4 (j2)) - ((T a) 4 (i))) % 12 = 0 ∨ (((T b) 4 (j2)) - ((T a) 4 (i))) % 12 = 7) ∧ (((T b) 4 (j2)) - ((T a) 4 (i))) % 12 = (eb - ea) % 12 ∧ ((ea < ((T a) 4 (i)) ∧ eb < ((T b) 4 (j2))) ∨ (((T a) 4 (i)) < ea ∧ ((T b) 4 (j2)) < eb))) (tgt := 158) hx hb dX2_countParallels_152 (by decide) (fun h_152 => ?_) (fun h_152 => ?_)
                            · skip
                              have hpar : parB ea eb (T a 4 i) (T b 4 j2) = 0 := (bI_f h_152).symm
                              refine lv_iload hx hb dX2_countParallels_158 (lv_at hl 1 rfl) ?_
                              refine lv_istore_n (lv' := [(3, .int (zI ((T a) 4 (i)))), (10, .int (zI ((T b) 4 (j2)))), (9, .int (zI ((T a) 4 (i)))), (8, .int (zI (1))), (7, .int (zI ((T a) 0 (i)))), (6, .int (zI (i))), (5, .int (zI (j2))), (4, .int (zI (eb))), (2, .int (zI (f9))), (0, .ref (vad ad a 0)), (1, .ref (vad ad b 0))]) hx hb dX2_countParallels_160 rfl hl (by decide) rfl (fun ls hl => ?_)
                              refine lv_iload hx hb dX2_countParallels_161 (lv_at hl 1 rfl) ?_
                              refine lv_istore (lv' := [(4, .int (zI ((T b) 4 (j2)))), (3, .int (zI ((T a) 4 (i)))), (10, .int (zI ((T b) 4 (j2)))), (9, .int (zI ((T a) 4 (i)))), (8, .int (zI (1))), (7, .int (zI ((T a) 0 (i)))), (6, .int (zI (i))), (5, .int (zI (j2))), (2, .int (zI (f9))), (0, .ref (vad ad a 0)), (1, .ref (vad ad b 0))]) hx hb dX2_countParallels_163 hl (by decide) rfl (fun ls hl => ?_)
                              refine z_iinc (lv' := [(6, .int (zI (i + 1))), (4, .int (zI ((T b) 4 (j2)))), (3, .int (zI ((T a) 4 (i)))), (10, .int (zI ((T b) 4 (j2)))), (9, .int (zI ((T a) 4 (i)))), (8, .int (zI (1))), (7, .int (zI ((T a) 0 (i)))), (5, .int (zI (j2))), (2, .int (zI (f9))), (0, .ref (vad ad a 0)), (1, .ref (vad ad b 0))]) hx hb dX2_countParallels_165 hl (k := 6) rfl (by decide) rfl (fun ls hl => ?_)
                              refine lv_goto (tgt := 13) hx hb dX2_countParallels_168 (by decide) ?_
                              exact ih (i + 1) (j2) (f9) ((T a) 4 (i)) ((T b) 4 (j2)) (by omega) (by omega) (by rw [hs, h3]; show (if (jxC T Fv a b i) < Fv b 0 ∧ T b 0 (jxC T Fv a b i) = T a 0 i ∧ ¬ T a 4 i = -1 ∧ ¬ T b 4 (jxC T Fv a b i) = -1 then (if ¬ ea = -1 ∧ parB ea eb (T a 4 i) (T b 4 (jxC T Fv a b i)) = 1 then f9 + 1 else f9, T a 4 i, T b 4 (jxC T Fv a b i)) else (f9, ea, eb)) = _; rw [hjx]; first | (exfalso; omega) | rw [if_neg (by omega)] | (rw [if_pos (by omega)]; first | rw [if_pos (by omega)] | rw [if_neg (by omega)])) (by omega) (by omega) (by omega) (by omega) (by omega) (hjn) (by omega) _ (lv_sub hl [0, 7, 1, 2, 8, 9, 10] rfl)
                            · skip
                              have hpar : parB ea eb (T a 4 i) (T b 4 j2) = 1 := (bI_t h_152).symm
                              refine z_iinc (lv' := [(2, .int (zI (f9 + 1))), (10, .int (zI ((T b) 4 (j2)))), (9, .int (zI ((T a) 4 (i)))), (8, .int (zI (1))), (7, .int (zI ((T a) 0 (i)))), (6, .int (zI (i))), (5, .int (zI (j2))), (4, .int (zI (eb))), (3, .int (zI (ea))), (0, .ref (vad ad a 0)), (1, .ref (vad ad b 0))]) hx hb dX2_countParallels_155 hl (k := 8) rfl (by decide) rfl (fun ls hl => ?_)
                              refine lv_iload hx hb dX2_countParallels_158 (lv_at hl 2 rfl) ?_
                              refine lv_istore_n (lv' := [(3, .int (zI ((T a) 4 (i)))), (2, .int (zI (f9 + 1))), (10, .int (zI ((T b) 4 (j2)))), (9, .int (zI ((T a) 4 (i)))), (8, .int (zI (1))), (7, .int (zI ((T a) 0 (i)))), (6, .int (zI (i))), (5, .int (zI (j2))), (4, .int (zI (eb))), (0, .ref (vad ad a 0)), (1, .ref (vad ad b 0))]) hx hb dX2_countParallels_160 rfl hl (by decide) rfl (fun ls hl => ?_)
                              refine lv_iload hx hb dX2_countParallels_161 (lv_at hl 2 rfl) ?_
                              refine lv_istore (lv' := [(4, .int (zI ((T b) 4 (j2)))), (3, .int (zI ((T a) 4 (i)))), (2, .int (zI (f9 + 1))), (10, .int (zI ((T b) 4 (j2)))), (9, .int (zI ((T a) 4 (i)))), (8, .int (zI (1))), (7, .int (zI ((T a) 0 (i)))), (6, .int (zI (i))), (5, .int (zI (j2))), (0, .ref (vad ad a 0)), (1, .ref (vad ad b 0))]) hx hb dX2_countParallels_163 hl (by decide) rfl (fun ls hl => ?_)
                              refine z_iinc (lv' := [(6, .int (zI (i + 1))), (4, .int (zI ((T b) 4 (j2)))), (3, .int (zI ((T a) 4 (i)))), (2, .int (zI (f9 + 1))), (10, .int (zI ((T b) 4 (j2)))), (9, .int (zI ((T a) 4 (i)))), (8, .int (zI (1))), (7, .int (zI ((T a) 0 (i)))), (5, .int (zI (j2))), (0, .ref (vad ad a 0)), (1, .ref (vad ad b 0))]) hx hb dX2_countParallels_165 hl (k := 7) rfl (by decide) rfl (fun ls hl => ?_)
                              refine lv_goto (tgt := 13) hx hb dX2_countParallels_168 (by decide) ?_
                              exact ih (i + 1) (j2) (f9 + 1) ((T a) 4 (i)) ((T b) 4 (j2)) (by omega) (by omega) (by rw [hs, h3]; show (if (jxC T Fv a b i) < Fv b 0 ∧ T b 0 (jxC T Fv a b i) = T a 0 i ∧ ¬ T a 4 i = -1 ∧ ¬ T b 4 (jxC T Fv a b i) = -1 then (if ¬ ea = -1 ∧ parB ea eb (T a 4 i) (T b 4 (jxC T Fv a b i)) = 1 then f9 + 1 else f9, T a 4 i, T b 4 (jxC T Fv a b i)) else (f9, ea, eb)) = _; rw [hjx]; first | (exfalso; omega) | rw [if_neg (by omega)] | (rw [if_pos (by omega)]; first | rw [if_pos (by omega)] | rw [if_neg (by omega)])) (by omega) (by omega) (by omega) (by omega) (by omega) (hjn) (by omega) _ (lv_sub hl [0, 8, 1, 2, 3, 9, 10] rfl)
              · skip
                refine z_iinc (lv' := [(5, .int (zI (j2 + 1))), (7, .int (zI ((T a) 0 (i)))), (6, .int (zI (i))), (4, .int (zI (eb))), (3, .int (zI (ea))), (2, .int (zI (f9))), (0, .ref (vad ad a 0)), (1, .ref (vad ad b 0))]) hx hb dX2_countParallels_56 hl (k := 2) rfl (by decide) rfl (fun ls hl => ?_)
                refine lv_goto (tgt := 33) hx hb dX2_countParallels_59 (by decide) ?_
                exact ih2 (j2 + 1) (by omega) (by omega) (fun k q1 q2 => (if hk : k < j2 then g2 k q1 hk else (by rw [show k = j2 by omega]; omega))) (by omega) _ (lv_sub hl [1, 2, 0, 3, 4, 5, 6, 7] rfl)
        exact lp_33 201 j (by omega) (by omega) (fun k g1 g2 => hj9 k g1 g2 (by omega)) (by omega) _ (lv_sub hl [0, 1, 2, 3, 4, 5, 6, 7] rfl)
  exact lp_13 201 0 0 0 (-1) (-1) (by omega) (by omega) rfl (by omega) (by omega) (by omega) (by omega) (by omega) (fun _ k g1 g2 => absurd g2 (by omega)) (by omega) _ (lv_sub hl [0, 1, 2, 3, 4, 5, 6] rfl)
