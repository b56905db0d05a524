/-! the law's loop -/
theorem REL_0 : REL gs0 f0 (fun _ => f0) (fun _ => f0) (fun _ => f0) (fun _ => f0) (fun _ => fv1) gm0 f0 gb0 := by
  have h0 : ∀ (k : Nat) (i : Int), f0 k i = 0 := fun _ _ => rfl
  refine ⟨⟨by decide, by decide, by decide, by decide, fun v v0 v1 => ⟨by rw [h0]; decide, fun e e0 e1 => ?_⟩⟩, ⟨rfl, by decide, by decide, rfl, Or.inl rfl⟩, fun v v0 v1 => ⟨⟨rfl, rfl, by show (0 : Int) ≤ 100 * 384; decide, fun e e0 e1 => ?_⟩, ⟨⟨f0, rfl, rfl⟩, ⟨f0 7, fun _ _ => -1, fun _ _ _ => rfl, rfl, rfl⟩, ⟨f0 8, rfl, rfl⟩, rfl, rfl⟩, fun i _ _ => by show (0 : Int) ≤ 0 ∧ (0 : Int) < 7 ∧ (-2 : Int) ≤ 0 ∧ (0 : Int) ≤ 2 ∧ (0 : Int) ≤ 0 ∧ (0 : Int) < 9; decide, fun q _ _ => by show (-2 : Int) ≤ 0 ∧ (0 : Int) ≤ 2; decide⟩, fun v _ _ => rfl, Or.inl rfl⟩
  · rw [h0] at e1; omega
  · rw [h0] at e1; omega
section LP9
variable {p : Program} {l : Launch} {e : Env} {s : State} {m : MethodId} {args : Array Value} {below : List Frame} {meth : Method} {c : Code} {Q : State → Prop} {G : zG} {b L : Nat} {xs : Nat → Int32} {ad am : Nat → Nat} {oa : Nat}
set_option maxHeartbeats 4000000 in
theorem law_loop (X : LX p l s m args c G b L xs) (D : AD ad am oa s.heap.size) (hL : L ≤ 4096)
    (ke : ∀ (H1 : Heap) (locs1 : List Loc) (ls1 : Array Slot) (cells1 slots1 : Nat), cells1 ≤ 601024 → slots1 ≤ 7293034 → va_S (AL s) s.heap H1 locs1 → W p l e room_1 s m args below meth c H1 locs1 cells1 slots1 Q (F0 m 1473 ls1 [])) :
    ∀ (n t : Nat) (H : Heap) (locs : List Loc) (ls : Array Slot), (4104 : Int) - 8 * t < n → t ≤ 512 → JI G ad am oa (2 * (t : Int)) H → va_S (AL s) s.heap H locs → lv_has ls 9 [(4, .int (zI (8 * (t : Int)))), (3, .ref oa), (2, .ref (am 0)), (1, .ref (ad 0)), (0, .ref b)] → W p l e room_1 s m args below meth c H locs (110 + 1028 * t) (33600 + 4121 * t) Q (F0 m 23 ls []) := by
  intro n
  induction n with
  | zero => intro t H locs ls h1 h2; omega
  | succ n ih =>
    intro t H locs ls hn ht9 hJ hS hl
    have hx := X.1.1
    have hb := X.1.2.1
    refine lv_iload hx hb dL_law_23 (lv_at hl 0 rfl) ?_
    refine lv_aload_n hx hb dL_law_25 rfl (lv_at hl 4 rfl) ?_
    refine va_slen hx hb X.2.2.2.1 X.2.2.2.2.1 (fun h => absurd X.2.2.2.2.1 (Nat.not_lt.mpr h)) hS dL_law_26 ?_
    rw [show Int32.ofNat L = zI (L : Int) from rfl]
    refine z_bipush hx hb dL_law_27 (by decide) ?_
    refine z_isub (x := (L : Int)) (y := 8) hx hb dL_law_29 ?_
    refine z_icmp_gt (a := 8 * (t : Int)) (b := (L : Int) - 8) (tgt := 1473) hx hb dL_law_30 (by decide) (by omega) (by omega) (fun h9 => ?_) (fun h9 => ?_)
    · exact ke H locs ls _ _ (by omega) (by omega) hS
    · have kk : ∀ (H1 : Heap) (locs1 : List Loc) (ls1 : Array Slot), JI G ad am oa (2 * (t : Int) + 2) H1 → va_S (AL s) s.heap H1 locs1 → lv_has ls1 9 [(4, .int (zI (8 * (t : Int)))), (3, .ref oa), (2, .ref (am 0)), (1, .ref (ad 0)), (0, .ref b)] → W p l e room_1 s m args below meth c H1 locs1 (110 + 1028 * t + 1028) (33600 + 4121 * t + 4121) Q (F0 m 1467 ls1 []) := by
        intro H1 locs1 ls1 hJ hS hl
        refine z_iinc (lv' := [(4, .int (zI (8 * (t : Int) + 8))), (3, .ref oa), (2, .ref (am 0)), (1, .ref (ad 0)), (0, .ref b)]) hx hb dL_law_1467 hl (k := 0) rfl (by decide) rfl (fun ls hl => ?_)
        refine lv_goto (tgt := 23) hx hb dL_law_1470 (by decide) ?_
        rw [show 110 + 1028 * t + 1028 = 110 + 1028 * (t + 1) by omega, show 33600 + 4121 * t + 4121 = 33600 + 4121 * (t + 1) by omega]
        refine ih (t + 1) H1 locs1 ls (by omega) (by omega) ?_ hS ?_
        · rw [show 2 * ((t + 1 : Nat) : Int) = 2 * (t : Int) + 2 by omega]; exact hJ
        · rw [show 8 * ((t + 1 : Nat) : Int) = 8 * (t : Int) + 8 by omega]; exact hl
      obtain ⟨F, AC, E, T, P, S, Av, Fv, O, FM, A0, B, hC, hO, hM0, h0, hc0⟩ := hJ
      obtain ⟨g9, hg9, hM⟩ := hM0.nrm
      have kp : KP A0 B (zW A0 4 g9) B := (KP.rfl' A0 B).W (by decide) g9
      have h := h0.kp kp
      have ht : ecT (zW A0 4 g9) B (FM 4) ≤ 2 * (t : Int) := by rw [KPeT kp]; exact hc0
      have hA4 : rngI (zW A0 4 g9 4) := by rw [zW_s]; exact hg9
      clear hM0 h0 hc0 kp hg9
      generalize zW A0 4 g9 = A at hM h ht hA4
      refine lv_aload_n hx hb dL_law_33 rfl (lv_at hl 4 rfl) ?_
      refine lv_iload hx hb dL_law_34 (lv_at hl 0 rfl) ?_
      refine z_sld X hS (j := 8 * (t : Int)) (by omega) hL dL_law_36 ?_
      refine z_bipush hx hb dL_law_37 (by decide) ?_
      refine lv_iand hx hb dL_law_39 ?_
      generalize zI (sx xs (8 * (t : Int))) &&& zI 31 = v
      by_cases hv : v.toInt < 0 ∨ 20 < v.toInt
      · refine lv_tableOut (tgt := 1467) hx hb dL_law_40 hv (by decide) ?_
        exact W.widen (by omega) (by omega) (kk H locs _ ⟨_, _, _, _, _, _, _, _, _, _, _, _, hC, hO, hM, h, by omega⟩ hS hl)
      · have hi : 0 ≤ 8 * (t : Int) ∧ 8 * (t : Int) + 7 < L := by omega
        have hcs : 110 + 1028 * t + 1028 ≤ 601024 := by omega
        have hss : 33600 + 4121 * t + 4121 ≤ 7293034 := by omega
        have htb : 2 * (t : Int) ≤ 1024 := by omega
        have hw : v.toInt = 0 ∨ v.toInt = 1 ∨ v.toInt = 2 ∨ v.toInt = 3 ∨ v.toInt = 4 ∨ v.toInt = 5 ∨ v.toInt = 6 ∨ v.toInt = 7 ∨ v.toInt = 8 ∨ v.toInt = 9 ∨ v.toInt = 10 ∨ v.toInt = 11 ∨ v.toInt = 12 ∨ v.toInt = 13 ∨ v.toInt = 14 ∨ v.toInt = 15 ∨ v.toInt = 16 ∨ v.toInt = 17 ∨ v.toInt = 18 ∨ v.toInt = 19 ∨ v.toInt = 20 := by omega
        rcases hw with hw | hw | hw | hw | hw | hw | hw | hw | hw | hw | hw | hw | hw | hw | hw | hw | hw | hw | hw | hw | hw
        · refine lv_tableIn (off := 100) (tgt := 140) hx hb dL_law_40 (by omega) (by omega) (by rw [hw]; rfl) (by decide) ?_
          exact w_setBars X D hi hL h ht htb hC hO hM hA4 hS hl hcs hss kk
        · refine lv_tableIn (off := 168) (tgt := 208) hx hb dL_law_40 (by omega) (by omega) (by rw [hw]; rfl) (by decide) ?_
          exact w_setKey X D hi hL h ht htb hC hO hM hA4 hS hl hcs hss kk
        · refine lv_tableIn (off := 224) (tgt := 264) hx hb dL_law_40 (by omega) (by omega) (by rw [hw]; rfl) (by decide) ?_
          exact w_addVoice X D hi hL h ht htb hC hO hM hA4 hS hl hcs hss kk
        · refine lv_tableIn (off := 268) (tgt := 308) hx hb dL_law_40 (by omega) (by omega) (by rw [hw]; rfl) (by decide) ?_
          exact w_score X D hi hL h ht htb hC hO hM hA4 hS hl hcs hss kk
        · refine lv_tableIn (off := 324) (tgt := 364) hx hb dL_law_40 (by omega) (by omega) (by rw [hw]; rfl) (by decide) ?_
          exact w_sign X D hi hL h ht htb hC hO hM hA4 hS hl hcs hss kk
        · refine lv_tableIn (off := 380) (tgt := 420) hx hb dL_law_40 (by omega) (by omega) (by rw [hw]; rfl) (by decide) ?_
          exact w_ticks X D hi hL h ht htb hC hO hM hA4 hS hl hcs hss kk
        · refine lv_tableIn (off := 448) (tgt := 488) hx hb dL_law_40 (by omega) (by omega) (by rw [hw]; rfl) (by decide) ?_
          exact w_addNote X D hi hL h ht htb hC hO hM hA4 hS hl hcs hss kk
        · refine lv_tableIn (off := 596) (tgt := 636) hx hb dL_law_40 (by omega) (by omega) (by rw [hw]; rfl) (by decide) ?_
          exact w_addRest X D hi hL h ht htb hC hO hM hA4 hS hl hcs hss kk
        · refine lv_tableIn (off := 676) (tgt := 716) hx hb dL_law_40 (by omega) (by omega) (by rw [hw]; rfl) (by decide) ?_
          exact w_removeLast X D hi hL h ht htb hC hO hM hA4 hS hl hcs hss kk
        · refine lv_tableIn (off := 732) (tgt := 772) hx hb dL_law_40 (by omega) (by omega) (by rw [hw]; rfl) (by decide) ?_
          exact w_tie X D hi hL h ht htb hC hO hM hA4 hS hl hcs hss kk
        · refine lv_tableIn (off := 835) (tgt := 875) hx hb dL_law_40 (by omega) (by omega) (by rw [hw]; rfl) (by decide) ?_
          exact w_element X D hi hL h ht htb hC hO hM hA4 hS hl hcs hss kk
        · refine lv_tableIn (off := 915) (tgt := 955) hx hb dL_law_40 (by omega) (by omega) (by rw [hw]; rfl) (by decide) ?_
          exact w_pitch X D hi hL h ht htb hC hO hM hA4 hS hl hcs hss kk
        · refine lv_tableIn (off := 995) (tgt := 1035) hx hb dL_law_40 (by omega) (by omega) (by rw [hw]; rfl) (by decide) ?_
          exact w_voice X D hi hL h ht htb hC hO hM hA4 hS hl hcs hss kk
        · refine lv_tableIn (off := 1063) (tgt := 1103) hx hb dL_law_40 (by omega) (by omega) (by rw [hw]; rfl) (by decide) ?_
          exact w_transpose X D hi hL h ht htb hC hO hM hA4 hS hl hcs hss kk
        · refine lv_tableIn (off := 1131) (tgt := 1171) hx hb dL_law_40 (by omega) (by omega) (by rw [hw]; rfl) (by decide) ?_
          exact w_faults X D hi hL h ht htb hC hO hM hA4 hS hl hcs hss kk
        · refine lv_tableIn (off := 1144) (tgt := 1184) hx hb dL_law_40 (by omega) (by omega) (by rw [hw]; rfl) (by decide) ?_
          exact w_interval X D hi hL h ht htb hC hO hM hA4 hS hl hcs hss kk
        · refine lv_tableIn (off := 1224) (tgt := 1264) hx hb dL_law_40 (by omega) (by omega) (by rw [hw]; rfl) (by decide) ?_
          exact w_event X D hi hL h ht htb hC hO hM hA4 hS hl hcs hss kk
        · refine lv_tableIn (off := 1292) (tgt := 1332) hx hb dL_law_40 (by omega) (by omega) (by rw [hw]; rfl) (by decide) ?_
          exact w_events X D hi hL h ht htb hC hO hM hA4 hS hl hcs hss kk
        · refine lv_tableIn (off := 1305) (tgt := 1345) hx hb dL_law_40 (by omega) (by omega) (by rw [hw]; rfl) (by decide) ?_
          exact w_time X D hi hL h ht htb hC hO hM hA4 hS hl hcs hss kk
        · refine lv_tableIn (off := 1372) (tgt := 1412) hx hb dL_law_40 (by omega) (by omega) (by rw [hw]; rfl) (by decide) ?_
          exact w_meanTone X D hi hL h ht htb hC hO hM hA4 hS hl hcs hss kk
        · refine lv_tableIn (off := 1413) (tgt := 1453) hx hb dL_law_40 (by omega) (by omega) (by rw [hw]; rfl) (by decide) ?_
          exact w_digest X D hi hL h ht htb hC hO hM hA4 hS hl hcs hss kk
end LP9
