/-! the class beside a table that stands in no heap: what each call answers and leaves, by the table -/
def fmB (bt pt ky nv : Int) : Nat → Int := fun k => if k = 1 then bt else if k = 2 then pt else if k = 3 then ky else if k = 4 then nv else 0
def ghA (n : Int → Int) : Nat → Int → Int := fun _ => n
def GI (G : zG) (ad : Nat → Nat) (bt pt ky nv : Int) (n : Int → Int) (B : Int → Int → Int) (H : Heap) : Prop := ∃ (F : Nat → Int) (AC E : Nat → Int → Int) (T P S Av : Int → Nat → Int → Int) (Fv : Int → Nat → Int), CP G ad F AC E T P S Av Fv H ∧ REL F E T P S Av Fv (fmB bt pt ky nv) (ghA n) B
theorem GI.kept {G : zG} {ad : Nat → Nat} {bt pt ky nv : Int} {n : Int → Int} {B : Int → Int → Int} {H H1 : Heap} (h : GI G ad bt pt ky nv n B H) (ho : ∀ k, k < 94 → H1[ad k]? = H[ad k]?) : GI G ad bt pt ky nv n B H1 := by
  obtain ⟨F, AC, E, T, P, S, Av, Fv, hC, hR⟩ := h
  exact ⟨F, AC, E, T, P, S, Av, Fv, PP.kept hC ho, hR⟩
theorem GI.lt {G : zG} {ad : Nat → Nat} {bt pt ky nv : Int} {n : Int → Int} {B : Int → Int → Int} {H : Heap} (h : GI G ad bt pt ky nv n B H) {k : Nat} (hk : k < 94) : ad k < H.size := by
  obtain ⟨F, AC, E, T, P, S, Av, Fv, hC, hR⟩ := h
  exact PP.lt hC hk
theorem GI.rec {G : zG} {s : State} {ad : Nat → Nat} {bt pt ky nv : Int} {n : Int → Int} {B : Int → Int → Int} {H : Heap} (hK : va_K G.1 vwCl (zT G) s) (h : GI G ad bt pt ky nv n B H) : ∃ cell : Cell, H[ad 0]? = some cell ∧ cell.vm.isStatics = false ∧ s.vm.findClass RX2 = some cell.cls := by
  obtain ⟨F, AC, E, T, P, S, Av, Fv, hC, hR⟩ := h
  exact CP.rec hK hC
/-- what is known of the table -/
def GP (bt pt ky nv : Int) (n : Int → Int) (B : Int → Int → Int) : Prop := MOK (fmB bt pt ky nv) (ghA n) B ∧ (∀ v, 0 ≤ v → v < 4 → bgM B v (n v) ≤ 100 * (bt * 384 / pt) ∧ ∀ e, 0 ≤ e → e < n v → (¬ B v (10 * e + 2) = 0 → 0 ≤ mTn B v e) ∧ (B v (10 * e + 2) = 0 → B v (10 * e + 6) = 0) ∧ bgM B v e / (bt * 384 / pt) = (bgM B v (e + 1) - 1) / (bt * 384 / pt)) ∧ ∀ v, nv ≤ v → v < 4 → n v = 0
theorem GI.pure {G : zG} {ad : Nat → Nat} {bt pt ky nv : Int} {n : Int → Int} {B : Int → Int → Int} {H : Heap} (h : GI G ad bt pt ky nv n B H) : GP bt pt ky nv n B := by
  obtain ⟨F, AC, E, T, P, S, Av, Fv, hC, hR⟩ := h
  have hF2 : F 2 = bt * 384 / pt := hR.2.1.2.2.1
  have hF0 : F 0 = nv := hR.2.1.1
  refine ⟨hR.1, fun v v0 v1 => ?_, fun v v0 v1 => hR.2.2.2.1 v (by omega) v1⟩
  have b := hR.BRs v v0 v1
  rw [hF2] at b
  exact ⟨b.2.2.1, fun e e0 e1 => ⟨fun q => ((b.2.2.2 e e0 e1).2.1 q).2, (b.2.2.2 e e0 e1).2.2.1, (b.2.2.2 e e0 e1).2.2.2⟩⟩
theorem GP.nums {bt pt ky nv : Int} {n : Int → Int} {B : Int → Int → Int} (h : GP bt pt ky nv n B) : (1 ≤ bt ∧ bt ≤ 12) ∧ (pt = 2 ∨ pt = 4 ∨ pt = 8) ∧ (-7 ≤ ky ∧ ky ≤ 7) ∧ (0 ≤ nv ∧ nv ≤ 4) := ⟨h.1.1, h.1.2.1, h.1.2.2.1, h.1.2.2.2.1⟩
theorem GP.bar {bt pt ky nv : Int} {n : Int → Int} {B : Int → Int → Int} (h : GP bt pt ky nv n B) : 48 ≤ bt * 384 / pt ∧ bt * 384 / pt ≤ 2304 ∧ bt * 384 / pt % 12 = 0 := by
  obtain ⟨a, b, -⟩ := h.nums
  rcases b with e | e | e <;> rw [e] <;> omega
theorem GP.many {bt pt ky nv : Int} {n : Int → Int} {B : Int → Int → Int} (h : GP bt pt ky nv n B) {v : Int} (hv : 0 ≤ v ∧ v < 4) : 0 ≤ n v ∧ n v ≤ 200 := h.1.many hv
theorem GP.bg {bt pt ky nv : Int} {n : Int → Int} {B : Int → Int → Int} (h : GP bt pt ky nv n B) {v e : Int} (hv : 0 ≤ v ∧ v < 4) (he : 0 ≤ e ∧ e ≤ n v) : 0 ≤ bgM B v e ∧ bgM B v e ≤ 134400 ∧ bgM B v e % 12 = 0 := by
  have a := bgM_rng h.1 hv (e := e) he
  have b := bgM_12 h.1 hv (e := e) he
  have m := h.many hv
  omega
theorem fm_bars (bt pt ky nv b q : Int) : zN (zN (fmB bt pt ky nv) 1 b) 2 q = fmB b q ky nv := by
  funext k
  unfold zN fmB
  by_cases h1 : k = 1
  · subst h1; rfl
  · by_cases h2 : k = 2
    · subst h2; rfl
    · rw [if_neg h2, if_neg h1, if_neg h1, if_neg h2, if_neg h1, if_neg h2]
theorem fm_key (bt pt ky nv k9 : Int) : zN (fmB bt pt ky nv) 3 k9 = fmB bt pt k9 nv := by
  funext k
  unfold zN fmB
  by_cases h1 : k = 3
  · subst h1; rfl
  · rw [if_neg h1, if_neg h1, if_neg h1]
theorem fm_many (bt pt ky nv k9 : Int) : zN (fmB bt pt ky nv) 4 k9 = fmB bt pt ky k9 := by
  funext k
  unfold zN fmB
  by_cases h1 : k = 4
  · subst h1; rfl
  · rw [if_neg h1, if_neg h1, if_neg h1]
theorem REL_00 (B : Int → Int → Int) : REL gs0 f0 (fun _ => f0) (fun _ => f0) (fun _ => f0) (fun _ => f0) (fun _ => fv1) (fmB 4 4 0 0) (ghA (fun _ => 0)) B := by
  have h0 : ∀ (k : Nat) (i : Int), ghA (fun _ => 0) k i = 0 := fun _ _ => rfl
  refine ⟨⟨by decide, by decide, by decide, by decide, fun v v0 v1 => ⟨by rw [h0]; decide, fun e e0 e1 => ?_⟩⟩, ⟨rfl, by decide, by decide, rfl, Or.inl rfl⟩, fun v v0 v1 => ⟨⟨rfl, rfl, by show (0 : Int) ≤ 100 * 384; decide, fun e e0 e1 => ?_⟩, ⟨⟨f0, rfl, rfl⟩, ⟨f0 7, fun _ _ => -1, fun _ _ _ => rfl, rfl, rfl⟩, ⟨f0 8, rfl, rfl⟩, rfl, rfl⟩, fun i _ _ => by show (0 : Int) ≤ 0 ∧ (0 : Int) < 7 ∧ (-2 : Int) ≤ 0 ∧ (0 : Int) ≤ 2 ∧ (0 : Int) ≤ 0 ∧ (0 : Int) < 9; decide, fun q _ _ => by show (-2 : Int) ≤ 0 ∧ (0 : Int) ≤ 2; decide⟩, fun v _ _ => rfl, Or.inl rfl⟩
  · rw [h0] at e1; omega
  · rw [h0] at e1; omega
theorem QW_imp {A : Nat → Prop} {P1 P2 : Int → Heap → Prop} (h : ∀ r H, P1 r H → P2 r H) : ∀ a s o t, QW A P1 a s o t → QW A P2 a s o t := fun _ _ _ _ ⟨r, q1, q2, q3⟩ => ⟨r, q1, h _ _ q2, q3⟩
theorem QL_imp {A : Nat → Prop} {P1 P2 : Int64 → Heap → Prop} (h : ∀ r H, P1 r H → P2 r H) : ∀ a s o t, QL A P1 a s o t → QL A P2 a s o t := fun _ _ _ _ ⟨r, q1, q2, q3⟩ => ⟨r, q1, h _ _ q2, q3⟩
section GO9
variable {l : Launch} {y : MethodName} {cc : ByteArray} {n9 f lo mc ms : Nat} {ret : Option FieldType} {G : zG} {av : List Value} {A9 : Nat → Prop} {sz : Nat} {PicG : Heap → Prop} {Qg : Array Value → State → Outcome → State → Prop}
theorem g_ofX (h : ∀ H : Heap, PicG H → ∃ (Pic : Heap → Prop) (Qc : Array Value → State → Outcome → State → Prop) (PX : String → Heap → Prop), Pic H ∧ MX l y cc n9 ret f lo mc ms G av A9 sz Pic Qc PX ∧ (∀ a s o t, Qc a s o t → Qg a s o t) ∧ (∀ E H1, PX E H1 → False)) : MW l y cc n9 ret f lo mc ms G av A9 sz PicG Qg := by
  intro p e ha hc hk s m args below hf happ hP hK
  obtain ⟨e1, hG, hsz, hpic⟩ := hP
  obtain ⟨Pic, Qc, PX, h1, h2, h3, h4⟩ := h _ hpic
  obtain ⟨k, o, q1, q2, q3, q4⟩ := h2 p e ha hc hk s m args below hf happ ⟨e1, hG, hsz, h1⟩ hK
  refine ⟨k, o, q1, q2, q3, ?_⟩
  rcases q4 with ⟨q4, q5⟩ | ⟨q, ho, E, ce, L, hx, -⟩
  · exact ⟨h3 _ _ _ _ q4, q5⟩
  · exact (h4 _ _ hx.1).elim
theorem g_ofW (h : ∀ H : Heap, PicG H → ∃ (Pic : Heap → Prop) (Qc : Array Value → State → Outcome → State → Prop), Pic H ∧ MW l y cc n9 ret f lo mc ms G av A9 sz Pic Qc ∧ (∀ a s o t, Qc a s o t → Qg a s o t)) : MW l y cc n9 ret f lo mc ms G av A9 sz PicG Qg := by
  intro p e ha hc hk s m args below hf happ hP hK
  obtain ⟨e1, hG, hsz, hpic⟩ := hP
  obtain ⟨Pic, Qc, h1, h2, h3⟩ := h _ hpic
  obtain ⟨k, o, q1, q2, q3, q4, q5⟩ := h2 p e ha hc hk s m args below hf happ ⟨e1, hG, hsz, h1⟩ hK
  exact ⟨k, o, q1, q2, q3, h3 _ _ _ _ q4, q5⟩
theorem g_ofR {v : Int} (h : ∀ H : Heap, PicG H → ∃ (Pic : Heap → Prop), Pic H ∧ MR l y cc n9 ret f lo G av Pic (.int (zI v))) : MW l y cc n9 ret f lo 0 0 G av A9 sz PicG (QW A9 (fun r H => r = v ∧ PicG H)) := by
  intro p e ha hc hk s m args below hf happ hP hK
  obtain ⟨e1, hG, hsz, hpic⟩ := hP
  obtain ⟨Pic, h1, h2⟩ := h _ hpic
  obtain ⟨k, o, q1, q2, q3, q4, L, q5, q6⟩ := h2 p e ha hc hk s m args below hf happ ⟨e1, hG, h1⟩ hK
  exact ⟨k, o, q1, q2, q3, ⟨v, q4.1, ⟨rfl, by rw [q4.2]; exact hpic⟩, va_S.F (va_S.rf (A := A9)) q4.2⟩, L, q5, fun q hq => (q6 q hq).elim⟩
end GO9
theorem fv_val {x : Int} (h : 0 ≤ x ∧ x < 15) : findV (valP x) (valD x) = x := by
  obtain ⟨k, rfl⟩ : ∃ k : Nat, x = (k : Int) := ⟨x.toNat, by omega⟩
  have q : ∀ k : Nat, k < 15 → findV (valP (k : Int)) (valD (k : Int)) = (k : Int) := by decide +kernel
  exact q k (by omega)
section GC9
variable {l : Launch} {G : zG} {ad : Nat → Nat} {bt pt ky nv : Int} {n : Int → Int} {B : Int → Int → Int} {sz : Nat}
theorem g_setBars (hst : l.stackTraces = false) {b q : Int} (hb : 1 ≤ b ∧ b ≤ 12) (hq : q = 2 ∨ q = 4 ∨ q = 8) (hnv : nv = 0) : MW l yX2_setBars cX2_setBars 3 (some .int) 6 90 1 6 G [.ref (ad 0), .int (zI b), .int (zI q)] (fA 94 ad sz) sz (GI G ad bt pt ky nv n B) (QW (fA 94 ad sz) (fun r H => r = b * 384 / q ∧ GI G ad b q ky nv n B H)) := by
  refine g_ofX (fun H hGI => ?_)
  obtain ⟨F, AC, E, T, P, S, Av, Fv, hC, hR⟩ := hGI
  have hF0 : F 0 = nv := hR.2.1.1
  refine ⟨_, _, _, hC, c_X2_setBars l G ad F AC E T P S Av Fv b q sz hst (by omega) (by omega) hR.cok, QW_imp (fun r H1 hq9 => ?_), fun E9 H1 hx => ?_⟩
  · obtain ⟨q1, q2, q3, q4⟩ := hq9
    refine ⟨?_, _, _, _, _, _, _, _, _, q4, ?_⟩
    · rw [q1]; rcases hq with e | e | e <;> rw [e] <;> omega
    · rw [← fm_bars bt pt ky nv b q]
      exact hR.setBars hb hq (fun v v0 v1 => absurd v1 (by omega))
  · rcases hx.1 with ⟨-, c⟩ | ⟨-, -, c⟩
    · exact c ⟨hb.1, hb.2, hq⟩
    · rw [hF0, hnv] at c
      exact absurd c (by show ¬ (0 : Int) < 0; decide)
theorem g_setKey (hst : l.stackTraces = false) {k : Int} (hk : -7 ≤ k ∧ k ≤ 7) : MW l yX2_setKey cX2_setKey 3 (some .int) 6 130 1 6 G [.ref (ad 0), .int (zI k)] (fA 94 ad sz) sz (GI G ad bt pt ky nv n B) (QW (fA 94 ad sz) (fun r H => r = ky ∧ GI G ad bt pt k nv n B H)) := by
  refine g_ofX (fun H hGI => ?_)
  obtain ⟨F, AC, E, T, P, S, Av, Fv, hC, hR⟩ := hGI
  have nm := hR.2.1.nums hR.1
  refine ⟨_, _, _, hC, c_X2_setKey l G ad F AC E T P S Av Fv k sz hst (by omega) (by omega) hR.vok hR.hva hR.cok, QW_imp (fun r H1 hq9 => ?_), fun E9 H1 hx => hx.1.2 hk⟩
  obtain ⟨q1, q2, q3⟩ := hq9
  refine ⟨q1.trans hR.2.1.2.2.2.1, _, _, _, _, _, _, _, _, q3, ?_⟩
  rw [← fm_key bt pt ky nv k]
  exact hR.setKey hk
theorem g_addVoice (hst : l.stackTraces = false) (h4 : nv < 4) : MW l yX2_addVoice cX2_addVoice 1 (some .int) 6 90 1 6 G [.ref (ad 0)] (fA 94 ad sz) sz (GI G ad bt pt ky nv n B) (QW (fA 94 ad sz) (fun r H => r = nv ∧ GI G ad bt pt ky (nv + 1) n B H)) := by
  refine g_ofX (fun H hGI => ?_)
  obtain ⟨F, AC, E, T, P, S, Av, Fv, hC, hR⟩ := hGI
  have hF0 : F 0 = nv := hR.2.1.1
  refine ⟨_, _, _, hC, c_X2_addVoice l G ad F AC E T P S Av Fv sz hst hR.cok, QW_imp (fun r H1 hq9 => ?_), fun E9 H1 hx => hx.1.2 (by omega)⟩
  obtain ⟨q1, q2, q3⟩ := hq9
  refine ⟨q1.trans hF0, _, _, _, _, _, _, _, _, q3, ?_⟩
  rw [← fm_many bt pt ky nv (nv + 1)]
  exact hR.addVoice q2
theorem g_score (hst : l.stackTraces = false) {w : Int} (hw : 0 ≤ w ∧ w < 5) : MW l yX2_score cX2_score 2 (some .int) 6 90 1 6 G [.ref (ad 0), .int (zI w)] (fA 94 ad sz) sz (GI G ad bt pt ky nv n B) (QW (fA 94 ad sz) (fun r H => r = scM (fmB bt pt ky nv) (ghA n) B w ∧ GI G ad bt pt ky nv n B H)) := by
  refine g_ofX (fun H hGI => ?_)
  obtain ⟨F, AC, E, T, P, S, Av, Fv, hC, hR⟩ := hGI
  refine ⟨_, _, _, hC, c_X2_score l G ad F AC E T P S Av Fv w sz hst (by omega) hR.hvt hR.cok, QW_imp (fun r H1 hq9 => ?_), fun E9 H1 hx => hx.1.2 hw⟩
  obtain ⟨q1, q2, q3⟩ := hq9
  exact ⟨q1.trans (hR.score w hw), _, _, _, _, _, _, _, _, q3, hR⟩
theorem g_voice (hst : l.stackTraces = false) {v w : Int} (hv : 0 ≤ v ∧ v < nv) (hw : 0 ≤ w ∧ w < 7) : MW l yX2_voice cX2_voice 3 (some .int) 7 111 2 12 G [.ref (ad 0), .int (zI v), .int (zI w)] (fA 94 ad sz) sz (GI G ad bt pt ky nv n B) (QW (fA 94 ad sz) (fun r H => r = vpM (fmB bt pt ky nv) (ghA n) B h00 v w ∧ GI G ad bt pt ky nv n B H)) := by
  refine g_ofX (fun H hGI => ?_)
  obtain ⟨F, AC, E, T, P, S, Av, Fv, hC, hR⟩ := hGI
  have hF0 : F 0 = nv := hR.2.1.1
  have h4 := (hR.2.1.nums hR.1).1
  refine ⟨_, _, _, hC, c_X2_voice l G ad F AC E T P S Av Fv v w sz hst (by omega) (by omega) hR.cok, QW_imp (fun r H1 hq9 => ?_), fun E9 H1 hx => hx.1.2 (by omega)⟩
  obtain ⟨q1, q2, q3⟩ := hq9
  exact ⟨q1.trans (hR.voice hv.1 (by omega) h00 hw), _, _, _, _, _, _, _, _, q3, hR⟩
theorem g_element (hst : l.stackTraces = false) {v i w : Int} (hv : 0 ≤ v ∧ v < nv) (hi : 0 ≤ i ∧ i < n v) (hw : 0 ≤ w ∧ w < 9) (hi2 : i ≤ 1000) : MW l yX2_element cX2_element 4 (some .int) 8 133 3 18 G [.ref (ad 0), .int (zI v), .int (zI i), .int (zI w)] (fA 94 ad sz) sz (GI G ad bt pt ky nv n B) (QW (fA 94 ad sz) (fun r H => r = elP (fmB bt pt ky nv) (ghA n) B h00 v i w ∧ GI G ad bt pt ky nv n B H)) := by
  refine g_ofX (fun H hGI => ?_)
  obtain ⟨F, AC, E, T, P, S, Av, Fv, hC, hR⟩ := hGI
  have hF0 : F 0 = nv := hR.2.1.1
  have h4 := (hR.2.1.nums hR.1).1
  have hb : Fv v 0 = n v := (hR.BRs v hv.1 (by omega)).1
  refine ⟨_, _, _, hC, c_X2_element l G ad F AC E T P S Av Fv v i w sz hst (by omega) (by omega) (by omega) hR.cok, QW_imp (fun r H1 hq9 => ?_), fun E9 H1 hx => hx.1.2 (by omega)⟩
  obtain ⟨q1, q2, q3⟩ := hq9
  exact ⟨q1.trans (hR.element hv.1 (by omega) h00 hi hw), _, _, _, _, _, _, _, _, q3, hR⟩
theorem g_pitch (hst : l.stackTraces = false) {v i w : Int} (hv : 0 ≤ v ∧ v < nv) (hi : 0 ≤ i ∧ i < n v) (hw : 0 ≤ w ∧ w < 3) (hi2 : i ≤ 1000) (hnt : ¬ B v (10 * i + 2) = 0) : MW l yX2_pitch cX2_pitch 4 (some .int) 8 133 3 18 G [.ref (ad 0), .int (zI v), .int (zI i), .int (zI w)] (fA 94 ad sz) sz (GI G ad bt pt ky nv n B) (QW (fA 94 ad sz) (fun r H => r = B v (10 * i + (3 + w)) ∧ GI G ad bt pt ky nv n B H)) := by
  refine g_ofX (fun H hGI => ?_)
  obtain ⟨F, AC, E, T, P, S, Av, Fv, hC, hR⟩ := hGI
  have hF0 : F 0 = nv := hR.2.1.1
  have h4 := (hR.2.1.nums hR.1).1
  have hb : Fv v 0 = n v := (hR.BRs v hv.1 (by omega)).1
  refine ⟨_, _, _, hC, c_X2_pitch l G ad F AC E T P S Av Fv v i w sz hst (by omega) (by omega) (by omega) hR.vok hR.cok, QW_imp (fun r H1 hq9 => ?_), fun E9 H1 hx => ?_⟩
  · obtain ⟨q1, q2, q3, q4⟩ := hq9
    exact ⟨q1.trans (hR.pitch hv.1 (by omega) hi hw hnt), _, _, _, _, _, _, _, _, q4, hR⟩
  · rcases hx.1 with ⟨-, c⟩ | ⟨-, -, c⟩
    · omega
    · exact hnt ((hR.note hv.1 (by omega) (e := i) hi).mp c)
theorem g_ticks (hst : l.stackTraces = false) {x : Int} (hx : 0 ≤ x ∧ x < 15) : MW l yX2_ticks cX2_ticks 4 (some .int) 6 90 1 6 G [.ref (ad 0), .int (zI (valP x)), .int (zI (valD x))] (fA 94 ad sz) sz (GI G ad bt pt ky nv n B) (QW (fA 94 ad sz) (fun r H => r = valT x ∧ GI G ad bt pt ky nv n B H)) := by
  refine g_ofX (fun H hGI => ?_)
  obtain ⟨F, AC, E, T, P, S, Av, Fv, hC, hR⟩ := hGI
  have r1 := valP_rng hx
  have r2 := valD_rng hx
  refine ⟨_, _, _, hC, c_X2_ticks l G ad F AC E T P S Av Fv (valP x) (valD x) sz hst (by omega) (by omega), QW_imp (fun r H1 hq9 => ?_), fun E9 H1 hx9 => by have := hx9.1.2; rw [fv_val hx] at this; omega⟩
  obtain ⟨q1, q2, q3⟩ := hq9
  rw [fv_val hx] at q1
  exact ⟨q1, _, _, _, _, _, _, _, _, q3, hR⟩
theorem g_addRest (hst : l.stackTraces = false) {v x N fr : Int} {B' : Int → Int → Int} {sd : Int → Int} (hv : 0 ≤ v ∧ v < nv) (hx : 0 ≤ x ∧ x < 15) (hfr : fr = bgM B v (n v)) (hN : N = cutN (bt * 384 / pt) (fr + valT x) fr) (hful : n v + N ≤ 200 ∧ fr + valT x ≤ 100 * (bt * 384 / pt)) (s0 : sd 0 = valP x) (s1 : sd 1 = valD x) (s2 : sd 2 = 0) (s3 : sd 3 = 0) (s4 : sd 4 = 0) (s5 : sd 5 = 0) (s6 : sd 6 = 0)
    (hB : ∀ u e w, 0 ≤ w → w < 7 → B' u (10 * e + w) = if u = v ∧ n v ≤ e ∧ e < n v + N ∧ w < 7 then elC (bt * 384 / pt) (fr + valT x) fr sd (e - n v) w else B u (10 * e + w)) :
    MW l yX2_addRest cX2_addRest 6 (some .int) 7 130 2 12 G [.ref (ad 0), .int (zI v), .int (zI (valP x)), .int (zI (valD x))] (fA 94 ad sz) sz (GI G ad bt pt ky nv n B) (QW (fA 94 ad sz) (fun r H => r = N ∧ GI G ad bt pt ky nv (zU n v (n v + N)) B' H)) := by
  refine g_ofX (fun H hGI => ?_)
  obtain ⟨F, AC, E, T, P, S, Av, Fv, hC, hR⟩ := hGI
  have hF0 : F 0 = nv := hR.2.1.1
  have hF2 : F 2 = bt * 384 / pt := hR.2.1.2.2.1
  have nm := hR.2.1.nums hR.1
  have r1 := valP_rng hx
  have r2 := valD_rng hx
  have br := hR.BRs v hv.1 (by omega)
  have hb : Fv v 0 = n v := br.1
  have he : Fv v 1 = bgM B v (n v) := br.2.1
  subst hfr
  rw [← hF2] at hN hB hful
  have c := (add_core hR AC (v := v) ⟨hv.1, by omega⟩ hx hN).1
  refine ⟨_, _, _, hC, c_X2_addRest l G ad F AC E T P S Av Fv v (valP x) (valD x) sz hst (by omega) (by omega) (by omega) (by omega) (by omega) hR.vok hR.hva nm.2.2.1 hR.hen hR.cok, QW_imp (fun r H1 hq9 => ?_), fun E9 H1 hx9 => ?_⟩
  · rw [fv_val hx] at hq9
    obtain ⟨q1, q2, q3, q4, q5⟩ := hq9
    exact ⟨q1.trans c, _, _, _, _, _, _, _, _, q5, hR.addRest (A' := ghA (zU n v (n v + N))) (B' := B') AC ⟨hv.1, by omega⟩ hx hN hful s0 s1 s2 s3 s4 s5 s6 (fun u => rfl) hB⟩
  · rw [fv_val hx, c, hb, he] at hx9
    rcases hx9.1 with ⟨-, z⟩ | ⟨-, -, z⟩ | ⟨-, -, -, z⟩ <;> omega
theorem g_addNote (hst : l.stackTraces = false) {v x N fr st sg oc t : Int} {B' : Int → Int → Int} {sd : Int → Int} (hv : 0 ≤ v ∧ v < nv) (hx : 0 ≤ x ∧ x < 15) (hfr : fr = bgM B v (n v)) (hN : N = cutN (bt * 384 / pt) (fr + valT x) fr) (hful : n v + N ≤ 200 ∧ fr + valT x ≤ 100 * (bt * 384 / pt)) (hok : 0 ≤ st ∧ st < 7 ∧ 0 ≤ oc ∧ oc < 9 ∧ -2 ≤ sg ∧ sg ≤ 2 ∧ 0 ≤ toneF st sg oc) (ht : t = 0 ∨ t = 1) (s0 : sd 0 = valP x) (s1 : sd 1 = valD x) (s2 : sd 2 = 1) (s3 : sd 3 = st) (s4 : sd 4 = sg) (s5 : sd 5 = oc) (s6 : sd 6 = t)
    (hB : ∀ u e w, 0 ≤ w → w < 7 → B' u (10 * e + w) = if u = v ∧ n v ≤ e ∧ e < n v + N ∧ w < 7 then elC (bt * 384 / pt) (fr + valT x) fr sd (e - n v) w else B u (10 * e + w)) :
    MW l yX2_addNote cX2_addNote 14 (some .int) 7 130 3 18 G [.ref (ad 0), .int (zI v), .int (zI (valP x)), .int (zI (valD x)), .int (zI st), .int (zI sg), .int (zI oc), .int (zI t)] (fA 94 ad sz) sz (GI G ad bt pt ky nv n B) (QW (fA 94 ad sz) (fun r H => r = N ∧ GI G ad bt pt ky nv (zU n v (n v + N)) B' H)) := by
  refine g_ofX (fun H hGI => ?_)
  obtain ⟨F, AC, E, T, P, S, Av, Fv, hC, hR⟩ := hGI
  have hF0 : F 0 = nv := hR.2.1.1
  have hF2 : F 2 = bt * 384 / pt := hR.2.1.2.2.1
  have nm := hR.2.1.nums hR.1
  have r1 := valP_rng hx
  have r2 := valD_rng hx
  have br := hR.BRs v hv.1 (by omega)
  have hb : Fv v 0 = n v := br.1
  have he : Fv v 1 = bgM B v (n v) := br.2.1
  subst hfr
  rw [← hF2] at hN hB hful
  have c := (add_core hR AC (v := v) ⟨hv.1, by omega⟩ hx hN).1
  refine ⟨_, _, _, hC, c_X2_addNote l G ad F AC E T P S Av Fv v (valP x) (valD x) st sg oc t sz hst (by omega) (by omega) (by omega) (by omega) (by omega) (by omega) (by omega) ht (by omega) (by omega) hR.vok hR.hva nm.2.2.1 hR.hen hR.cok, QW_imp (fun r H1 hq9 => ?_), fun E9 H1 hx9 => ?_⟩
  · rw [fv_val hx, c] at hq9
    obtain ⟨q1, q2, q3, q4, q5⟩ := hq9
    exact ⟨q1, _, _, _, _, _, _, _, _, q5, hR.addNote (A' := ghA (zU n v (n v + N))) (B' := B') AC ⟨hv.1, by omega⟩ hx hN hful hok ht s0 s1 s2 s3 s4 s5 s6 (fun u => rfl) hB⟩
  · rw [fv_val hx, c, hb, he] at hx9
    rcases hx9.1 with ⟨-, z⟩ | ⟨-, -, z⟩ | ⟨-, -, -, z⟩
    · omega
    · exact z ⟨hx.1, hok⟩
    · omega
theorem g_digest : MW l yX2_digest cX2_digest 4 (some .long) 7 133 0 0 G [.ref (ad 0)] (fA 94 ad sz) sz (GI G ad bt pt ky nv n B) (QL (fA 94 ad sz) (fun r H => r = dgM (fmB bt pt ky nv) (ghA n) B h00 ∧ GI G ad bt pt ky nv n B H)) := by
  refine g_ofW (fun H hGI => ?_)
  obtain ⟨F, AC, E, T, P, S, Av, Fv, hC, hR⟩ := hGI
  have nm := hR.2.1.nums hR.1
  refine ⟨_, _, hC, c_X2_digest l G ad F AC E T P S Av Fv sz (by omega) hR.2.1.2.2.2.2 hR.vok hR.hvm hR.hvt hR.hvs hR.cok, QL_imp (fun r H1 hq9 => ?_)⟩
  obtain ⟨F2, A2, E2, q1, q2, q3⟩ := hq9
  exact ⟨q2.trans (hR.digest q1 h00), _, _, _, _, _, _, _, _, q3, (hR.rf q1).1⟩
theorem g_events : MW l yX2_events cX2_events 1 (some .int) 1 22 0 0 G [.ref (ad 0)] (fA 94 ad sz) sz (GI G ad bt pt ky nv n B) (QW (fA 94 ad sz) (fun r H => r = ecT (ghA n) B nv ∧ GI G ad bt pt ky nv n B H)) := by
  refine g_ofR (fun H hGI => ?_)
  obtain ⟨F, AC, E, T, P, S, Av, Fv, hC, hR⟩ := hGI
  have e : 2 * nSou Fv (F 0) = ecT (ghA n) B nv := hR.count
  refine ⟨_, hC, ?_⟩
  rw [← e]
  exact c_X2_events l G ad F AC E T P S Av Fv hR.cok
theorem g_event (hst : l.stackTraces = false) {i w : Int} (hi : 0 ≤ i ∧ i < ecT (ghA n) B nv) (hi2 : i ≤ 100000) (hw : 0 ≤ w ∧ w < 4) : MW l yX2_event cX2_event 3 (some .int) 6 133 1 6 G [.ref (ad 0), .int (zI i), .int (zI w)] (fA 94 ad sz) sz (GI G ad bt pt ky nv n B) (QW (fA 94 ad sz) (fun r H => r = evO (ghA n) B h00 nv (4 * i + w) ∧ GI G ad bt pt ky nv n B H)) := by
  refine g_ofX (fun H hGI => ?_)
  obtain ⟨F, AC, E, T, P, S, Av, Fv, hC, hR⟩ := hGI
  have e : 2 * nSou Fv (F 0) = ecT (ghA n) B nv := hR.count
  refine ⟨_, _, _, hC, c_X2_event l G ad F AC E T P S Av Fv i w sz hst (by omega) (by omega) hR.2.1.2.2.2.2 hR.hvs hR.cok, QW_imp (fun r H1 hq9 => ?_), fun E9 H1 hx => hx.1.2 (by omega)⟩
  obtain ⟨q0, F2, A2, E2, q1, q2, q3⟩ := hq9
  have a := (hR.rf q1).2 h00 i q0.1 q0.2.1 w.toNat (by omega)
  rw [Int.toNat_of_nonneg hw.1] at a
  exact ⟨q2.trans a, _, _, _, _, _, _, _, _, q3, (hR.rf q1).1⟩
end GC9
