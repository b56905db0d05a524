/-! prefixes: what a loop has made of the first n -/
def pfN {α : Type} (z : α) (f : Int → α → α) : Nat → α
  | 0 => z
  | k + 1 => f (k : Int) (pfN z f k)
def pf {α : Type} (z : α) (f : Int → α → α) (n : Int) : α := pfN z f n.toNat
theorem pf_0 {α : Type} (z : α) (f : Int → α → α) : pf z f 0 = z := rfl
theorem pf_s {α : Type} (z : α) (f : Int → α → α) {n : Int} (h : 0 ≤ n) : pf z f (n + 1) = f n (pf z f n) := by
  unfold pf
  rw [show (n + 1).toNat = n.toNat + 1 by omega]
  show f (n.toNat : Int) _ = _
  rw [Int.toNat_of_nonneg h]
theorem pf_congr {α : Type} {z : α} {f g : Int → α → α} {n : Int} (h : ∀ i a, 0 ≤ i → i < n → f i a = g i a) : pf z f n = pf z g n := by
  unfold pf
  have key : ∀ k : Nat, (k : Int) ≤ n → pfN z f k = pfN z g k := by
    intro k
    induction k with
    | zero => intro _; rfl
    | succ k ih =>
      intro hk
      show f (k : Int) (pfN z f k) = g (k : Int) (pfN z g k)
      rw [ih (by omega), h _ _ (by omega) (by omega)]
  rcases (by omega : 0 ≤ n ∨ n < 0) with q | q
  · exact key _ (by omega)
  · rw [show n.toNat = 0 by omega]; rfl
theorem pf_ind {α : Type} {z : α} {f : Int → α → α} (I : Int → α → Prop) (h0 : I 0 z) (hs : ∀ i a, 0 ≤ i → I i a → I (i + 1) (f i a)) {n : Int} (h : 0 ≤ n) : I n (pf z f n) := by
  obtain ⟨k, rfl⟩ : ∃ k : Nat, n = k := ⟨n.toNat, by omega⟩
  clear h
  induction k with
  | zero => exact h0
  | succ k ih =>
    rw [show ((k + 1 : Nat) : Int) = (k : Int) + 1 by omega, pf_s _ _ (by omega)]
    exact hs _ _ (by omega) ih
/-- the first i < n with q i, else n -/
def fp (q : Int → Prop) [DecidablePred q] (n : Int) : Int := pf 0 (fun i a => if a < i then a else if q i then i else i + 1) n
theorem fp_0 (q : Int → Prop) [DecidablePred q] : fp q 0 = 0 := rfl
theorem fp_s {q : Int → Prop} [DecidablePred q] {n : Int} (h : 0 ≤ n) : fp q (n + 1) = if fp q n < n then fp q n else if q n then n else n + 1 := pf_s _ _ h
theorem fp_no {q : Int → Prop} [DecidablePred q] {n : Int} (h : 0 ≤ n) (h1 : fp q n = n) (h2 : ¬ q n) : fp q (n + 1) = n + 1 := by
  rw [fp_s h, h1, if_neg (by omega), if_neg h2]
theorem fp_yes {q : Int → Prop} [DecidablePred q] {i n : Int} (h : 0 ≤ i) (h1 : fp q i = i) (h2 : q i) (h3 : i < n) : fp q n = i := by
  obtain ⟨k, rfl⟩ : ∃ k : Nat, n = i + 1 + k := ⟨(n - i - 1).toNat, by omega⟩
  clear h3
  induction k with
  | zero => rw [show i + 1 + ((0 : Nat) : Int) = i + 1 by omega, fp_s h, h1, if_neg (by omega), if_pos h2]
  | succ k ih => rw [show i + 1 + ((k + 1 : Nat) : Int) = (i + 1 + k) + 1 by omega, fp_s (by omega), ih, if_pos (by omega)]
theorem fp_le {q : Int → Prop} [DecidablePred q] {n : Int} (h : 0 ≤ n) : 0 ≤ fp q n ∧ fp q n ≤ n := by
  refine pf_ind (fun n a => 0 ≤ a ∧ a ≤ n) ⟨by omega, by omega⟩ ?_ h
  intro i a hi ⟨h1, h2⟩
  split
  · omega
  · split <;> omega
theorem fp_spec {q : Int → Prop} [DecidablePred q] {n : Int} (h : 0 ≤ n) : (fp q n < n → q (fp q n)) ∧ ∀ j, 0 ≤ j → j < fp q n → ¬ q j := by
  refine pf_ind (fun n a => (a < n → q a) ∧ (∀ j, 0 ≤ j → j < a → ¬ q j) ∧ a ≤ n) ⟨by omega, fun j h1 h2 => absurd h2 (by omega), by omega⟩ ?_ h |> fun z => ⟨z.1, z.2.1⟩
  intro i a hi ⟨h1, h2, h3⟩
  by_cases c1 : a < i
  · rw [if_pos c1]
    exact ⟨fun _ => h1 c1, h2, by omega⟩
  · have ha : a = i := by omega
    subst ha
    rw [if_neg c1]
    by_cases c2 : q a
    · rw [if_pos c2]
      exact ⟨fun _ => c2, h2, by omega⟩
    · rw [if_neg c2]
      refine ⟨by omega, fun j g1 g2 => ?_, by omega⟩
      rcases (by omega : j < a ∨ j = a) with q1 | q1
      · exact h2 j g1 q1
      · subst q1; exact c2
theorem fp_congr {q r : Int → Prop} [DecidablePred q] [DecidablePred r] {n : Int} (h : ∀ i, 0 ≤ i → i < n → (q i ↔ r i)) : fp q n = fp r n := pf_congr fun i a h0 h1 => by
  have := h i h0 h1
  by_cases c : q i
  · rw [if_pos c, if_pos (this.mp c)]
  · rw [if_neg c, if_neg (fun z => c (this.mpr z))]
/-! division that cuts, and the sign of an exclusive or -/
theorem zI_tdiv {a b : Int} (ha : -2147483648 ≤ a ∧ a ≤ 2147483647) (hb : 0 < b ∧ b ≤ 2147483647) : zI a / zI b = zI (a.tdiv b) :=
  (Int32.ofInt_tdiv (show (-2147483648 : Int) ≤ a from ha.1) (show a ≤ (2147483647 : Int) from ha.2) (show (-2147483648 : Int) ≤ b by omega) (show b ≤ (2147483647 : Int) from hb.2)).symm
theorem tdiv_neg {a b : Int} (h : a < 0) : a.tdiv b = -((-a) / b) := by
  have h1 : (-a).tdiv b = (-a) / b := Int.tdiv_eq_ediv_of_nonneg (by omega)
  rw [← h1, Int.neg_tdiv, Int.neg_neg]
theorem zI_xor {a b : Int} (ha : -2147483648 ≤ a ∧ a ≤ 2147483647) (hb : 0 < b ∧ b ≤ 2147483647) : (0 : Int32) ≤ zI a ^^^ zI b ↔ 0 ≤ a := by
  have h1 : (zI a).toBitVec.msb = decide (a < 0) := by
    rw [BitVec.msb_eq_toInt]
    show decide ((zI a).toInt < 0) = _
    rw [zI_toInt ha]
  have h2 : (zI b).toBitVec.msb = false := by
    rw [BitVec.msb_eq_toInt]
    show decide ((zI b).toInt < 0) = _
    rw [zI_toInt ⟨by omega, hb.2⟩]
    exact decide_eq_false (by omega)
  have h3 : (zI a ^^^ zI b).toBitVec.msb = decide (a < 0) := by
    rw [Int32.toBitVec_xor, BitVec.msb_xor, h1, h2, Bool.xor_false]
  rw [Int32.le_iff_toInt_le]
  have h4 : decide ((zI a ^^^ zI b).toInt < 0) = decide (a < 0) := by
    rw [← h3, BitVec.msb_eq_toInt]
    rfl
  have h5 : ((zI a ^^^ zI b).toInt < 0) ↔ a < 0 := decide_eq_decide.mp h4
  show (0 : Int) ≤ _ ↔ _
  omega
section ZX
variable {p : Program} {l : Launch} {e : Env} {R : Room} {s : State} {m : MethodId} {args : Array Value} {below : List Frame} {meth : Method} {c : Code} {H : Heap} {locs : List Loc} {cells slots : Nat} {Q : State → Prop}
variable {cc : ByteArray} {pc : Nat} {ls : Array Slot} {rest : List Value}
theorem z_idivt (hexec : p.tables.exec = Jvm.exec) (hb : c.code = cc) {x y : Int} (hdg : decode cc pc = .ok (.idiv, 1)) (hx : -2147483648 ≤ x ∧ x ≤ 2147483647) (hy : 0 < y ∧ y ≤ 2147483647) (k : W p l e R s m args below meth c H locs cells slots Q (F0 m (pc + 1) ls (.int (zI (x.tdiv y)) :: rest))) : W p l e R s m args below meth c H locs cells slots Q (F0 m pc ls (.int (zI y) :: .int (zI x) :: rest)) := lv_idiv hexec hb hdg (zI_ne0 hy) (by rw [zI_tdiv hx hy]; exact k)
theorem z_iremt (hexec : p.tables.exec = Jvm.exec) (hb : c.code = cc) {x y : Int} (hdg : decode cc pc = .ok (.irem, 1)) (hx : -2147483648 ≤ x ∧ x ≤ 2147483647) (hy : 0 < y ∧ y ≤ 2147483647) (k : W p l e R s m args below meth c H locs cells slots Q (F0 m (pc + 1) ls (.int (zI (x - x.tdiv y * y)) :: rest))) : W p l e R s m args below meth c H locs cells slots Q (F0 m pc ls (.int (zI y) :: .int (zI x) :: rest)) := lv_irem hexec hb hdg (zI_ne0 hy) (by rw [zI_tdiv hx hy, zI_mul, zI_sub]; exact k)
theorem z_xorge (hexec : p.tables.exec = Jvm.exec) (hb : c.code = cc) {x y off : Int} {tgt : Nat} (h1 : decode cc pc = .ok (.ixor, 1)) (hdg : decode cc (pc + 1) = .ok (.ifCond .ge off, 3)) (ht : ((pc + 1 : Nat) : Int) + off = (tgt : Int)) (hx : -2147483648 ≤ x ∧ x ≤ 2147483647) (hy : 0 < y ∧ y ≤ 2147483647) (kt : 0 ≤ x → W p l e R s m args below meth c H locs cells slots Q (F0 m tgt ls rest)) (kf : ¬ 0 ≤ x → W p l e R s m args below meth c H locs cells slots Q (F0 m (pc + 1 + 3) ls rest)) : W p l e R s m args below meth c H locs cells slots Q (F0 m pc ls (.int (zI y) :: .int (zI x) :: rest)) :=
  lv_ixor hexec hb h1 (lv_if_ge hexec hb hdg ht (fun h => kt ((zI_xor hx hy).mp h)) (fun h => kf (fun z => h ((zI_xor hx hy).mpr z))))
end ZX
set_option maxHeartbeats 4000000 in
theorem c_J9_floorMod_7cf53 (l : Launch) (G : zG) (x y : Int) (hx9 : -2147483648 ≤ x ∧ x ≤ 2147483647) (hy9 : y = 7 ∨ y = 12) : MR l yJ9_floorMod_7cf53 cJ9_floorMod_7cf53 3 (some .int) 0 0 G [.int (zI x), .int (zI y)] (fun _ => True) (.int (zI (x % y))) := by
  have hy0 : 0 < y ∧ y ≤ 2147483647 := by omega
  have hp : 0 ≤ x → x.tdiv y = x / y := fun h => Int.tdiv_eq_ediv_of_nonneg h
  have hn : x < 0 → x.tdiv y = -((-x) / y) := fun h => tdiv_neg h
  refine mr_ofF hf_J9_floorMod_7cf53 (Nat.le_of_ble_eq_true rfl) ?_
  intro p env s m below meth c ls hB hP hl
  obtain ⟨hx, hb, hml, hr, hlk, hown, hts, hG⟩ := hB
  have hl : lv_has ls 3 [(0, .int (zI x)), (1, .int (zI y))] := hl
  refine lv_iload_n hx hb dJ9_floorMod_7cf53_0 rfl (lv_at hl 0 rfl) ?_
  refine lv_iload_n hx hb dJ9_floorMod_7cf53_1 rfl (lv_at hl 1 rfl) ?_
  refine z_iremt hx hb dJ9_floorMod_7cf53_2 hx9 hy0 ?_
  refine lv_istore_n (lv' := [(2, .int (zI (x - x.tdiv y * y))), (0, .int (zI x)), (1, .int (zI y))]) hx hb dJ9_floorMod_7cf53_3 rfl hl (by decide) rfl (fun ls hl => ?_)
  refine lv_iload_n hx hb dJ9_floorMod_7cf53_4 rfl (lv_at hl 1 rfl) ?_
  refine lv_iload_n hx hb dJ9_floorMod_7cf53_5 rfl (lv_at hl 2 rfl) ?_
  refine z_xorge (tgt := 18) hx hb dJ9_floorMod_7cf53_6 dJ9_floorMod_7cf53_7 (by decide) hx9 hy0 (fun h_7 => ?_) (fun h_7 => ?_)
  · refine lv_iload_n hx hb dJ9_floorMod_7cf53_18 rfl (lv_at hl 0 rfl) ?_
    exact e_R (r' := x - x.tdiv y * y) hx hb hr hlk (n_i _) (by rw [hp h_7]; rcases hy9 with rfl | rfl <;> omega) dJ9_floorMod_7cf53_19
  · refine lv_iload_n hx hb dJ9_floorMod_7cf53_10 rfl (lv_at hl 0 rfl) ?_
    have hq := hn (by omega)
    refine z_if_eq (a := x - x.tdiv y * y) (tgt := 18) hx hb dJ9_floorMod_7cf53_11 (by decide) (by rcases hy9 with rfl | rfl <;> omega) (fun h_11 => ?_) (fun h_11 => ?_)
    · refine lv_iload_n hx hb dJ9_floorMod_7cf53_18 rfl (lv_at hl 0 rfl) ?_
      exact e_R (r' := x - x.tdiv y * y) hx hb hr hlk (n_i _) (by rcases hy9 with rfl | rfl <;> omega) dJ9_floorMod_7cf53_19
    · refine lv_iload_n hx hb dJ9_floorMod_7cf53_14 rfl (lv_at hl 0 rfl) ?_
      refine lv_iload_n hx hb dJ9_floorMod_7cf53_15 rfl (lv_at hl 2 rfl) ?_
      refine z_iadd hx hb dJ9_floorMod_7cf53_16 ?_
      exact e_R (r' := x - x.tdiv y * y + y) hx hb hr hlk (n_i _) (by rcases hy9 with rfl | rfl <;> omega) dJ9_floorMod_7cf53_17
/-! the tables as functions -/
def stepT (k : Int) : Int := ([0, 2, 4, 5, 7, 9, 11] : List Int).getD k.toNat 0
def sharpP (k : Int) : Int := ([1, 3, 5, 0, 2, 4, 6] : List Int).getD k.toNat 0
def valP (k : Int) : Int := ([1, 1, 1, 2, 2, 2, 4, 4, 4, 8, 8, 8, 16, 16, 32] : List Int).getD k.toNat 0
def valD (k : Int) : Int := ([2, 1, 0, 2, 1, 0, 2, 1, 0, 2, 1, 0, 1, 0, 0] : List Int).getD k.toNat 0
def valT (k : Int) : Int := ([672, 576, 384, 336, 288, 192, 168, 144, 96, 84, 72, 48, 36, 24, 12] : List Int).getD k.toNat 0
theorem co7 {q : Int → Prop} (h : q 0 ∧ q 1 ∧ q 2 ∧ q 3 ∧ q 4 ∧ q 5 ∧ q 6) {k : Int} (h0 : 0 ≤ k ∧ k < 7) : q k := by
  rcases (by omega : k = 0 ∨ k = 1 ∨ k = 2 ∨ k = 3 ∨ k = 4 ∨ k = 5 ∨ k = 6) with rfl | rfl | rfl | rfl | rfl | rfl | rfl
  · exact h.1
  · exact h.2.1
  · exact h.2.2.1
  · exact h.2.2.2.1
  · exact h.2.2.2.2.1
  · exact h.2.2.2.2.2.1
  · exact h.2.2.2.2.2.2
theorem co15 {q : Int → Prop} (h : q 0 ∧ q 1 ∧ q 2 ∧ q 3 ∧ q 4 ∧ q 5 ∧ q 6 ∧ q 7 ∧ q 8 ∧ q 9 ∧ q 10 ∧ q 11 ∧ q 12 ∧ q 13 ∧ q 14) {k : Int} (h0 : 0 ≤ k ∧ k < 15) : q k := by
  obtain ⟨q0, q1, q2, q3, q4, q5, q6, q7, q8, q9, q10, q11, q12, q13, q14⟩ := h
  rcases (by omega : k = 0 ∨ k = 1 ∨ k = 2 ∨ k = 3 ∨ k = 4 ∨ k = 5 ∨ k = 6 ∨ k = 7 ∨ k = 8 ∨ k = 9 ∨ k = 10 ∨ k = 11 ∨ k = 12 ∨ k = 13 ∨ k = 14) with rfl | rfl | rfl | rfl | rfl | rfl | rfl | rfl | rfl | rfl | rfl | rfl | rfl | rfl | rfl <;> assumption
theorem stepT_rng {k : Int} (h : 0 ≤ k ∧ k < 7) : 0 ≤ stepT k ∧ stepT k ≤ 11 := co7 (q := fun k => 0 ≤ stepT k ∧ stepT k ≤ 11) (by decide) h
theorem sharpP_rng {k : Int} (h : 0 ≤ k ∧ k < 7) : 0 ≤ sharpP k ∧ sharpP k ≤ 6 := co7 (q := fun k => 0 ≤ sharpP k ∧ sharpP k ≤ 6) (by decide) h
theorem valP_rng {k : Int} (h : 0 ≤ k ∧ k < 15) : 1 ≤ valP k ∧ valP k ≤ 32 := co15 (q := fun k => 1 ≤ valP k ∧ valP k ≤ 32) (by decide) h
theorem valD_rng {k : Int} (h : 0 ≤ k ∧ k < 15) : 0 ≤ valD k ∧ valD k ≤ 2 := co15 (q := fun k => 0 ≤ valD k ∧ valD k ≤ 2) (by decide) h
theorem valT_rng {k : Int} (h : 0 ≤ k ∧ k < 15) : 12 ≤ valT k ∧ valT k ≤ 672 := co15 (q := fun k => 12 ≤ valT k ∧ valT k ≤ 672) (by decide) h
def toneF (st sg oc : Int) : Int := 12 * oc + stepT st + sg
def sgK (key st : Int) : Int := if sharpP st < key then 1 else if 6 - sharpP st < -key then -1 else 0
def findV (pa d : Int) : Int := if fp (fun k => valP k = pa ∧ valD k = d) 15 < 15 then fp (fun k => valP k = pa ∧ valD k = d) 15 else -1
def gV (t : Int) : Int := if fp (fun k => valT k ≤ t) 15 < 15 then fp (fun k => valT k ≤ t) 15 else 14

set_option maxHeartbeats 600000 in
theorem c_X2_isKey (l : Launch) (G : zG)  (k : Int) (hk : -2147483648 ≤ k ∧ k ≤ 2147483647) : MR l yX2_isKey cX2_isKey 1 (some .boolean) 0 0 G [.int (zI (k))] ((fun _ => True)) (.int (zI (bI (-7 ≤ k ∧ k ≤ 7)))) := by
  refine mr_of hp_X2_isKey (Nat.le_of_ble_eq_true rfl) ?_
  intro p env s m below meth c ls hB hP hl
  obtain ⟨hx, hb, hml, hr, hlk, hown, hts, hG⟩ := hB
  have hK := hG.1
  have hS : va_S (fun _ => False) s.heap s.heap [] := va_S.rf
  have hA : ∀ q : Nat, (fun _ : Nat => False) q → G.2.2 ≤ q := fun _ h => h.elim
  have hl : lv_has ls 1 [(0, .int (zI (k)))] := hl
  refine lv_iload_n hx hb dX2_isKey_0 rfl (lv_at hl 0 rfl) ?_
  refine z_bipush hx hb dX2_isKey_1 (by decide) ?_
  refine z_icmp_lt (a := k) (b := -7) (tgt := 16) hx hb dX2_isKey_3 (by decide) (by omega) (by omega) (fun h_3 => ?_) (fun h_3 => ?_)
  · skip
    refine z_iconst hx hb dX2_isKey_16 ?_
    exact e_R (r' := 0) hx hb hr hlk (n_z (by first | exact bI_01 _ | (left; rfl) | (right; rfl) | omega)) (bI_f (by omega)) dX2_isKey_17
  · skip
    refine lv_iload_n hx hb dX2_isKey_6 rfl (lv_at hl 0 rfl) ?_
    refine z_bipush hx hb dX2_isKey_7 (by decide) ?_
    refine z_icmp_gt (a := k) (b := 7) (tgt := 16) hx hb dX2_isKey_9 (by decide) (by omega) (by omega) (fun h_9 => ?_) (fun h_9 => ?_)
    · skip
      refine z_iconst hx hb dX2_isKey_16 ?_
      exact e_R (r' := 0) hx hb hr hlk (n_z (by first | exact bI_01 _ | (left; rfl) | (right; rfl) | omega)) (bI_f (by omega)) dX2_isKey_17
    · skip
      refine z_iconst hx hb dX2_isKey_12 ?_
      refine lv_goto (tgt := 17) hx hb dX2_isKey_13 (by decide) ?_
      exact e_R (r' := 1) hx hb hr hlk (n_z (by first | exact bI_01 _ | (left; rfl) | (right; rfl) | omega)) (bI_t (by omega)) dX2_isKey_17
set_option maxHeartbeats 600000 in
theorem c_X2_wholeParts (l : Launch) (G : zG)  (a b : Int) (ha : 0 ≤ a ∧ a ≤ 2147483647) (hb9 : 0 < b ∧ b ≤ 2147483647) : MR l yX2_wholeParts cX2_wholeParts 2 (some .int) 0 0 G [.int (zI (a)), .int (zI (b))] ((fun _ => True)) (.int (zI (a / b))) := by
  refine mr_of hp_X2_wholeParts (Nat.le_of_ble_eq_true rfl) ?_
  intro p env s m below meth c ls hB hP hl
  obtain ⟨hx, hb, hml, hr, hlk, hown, hts, hG⟩ := hB
  have hK := hG.1
  have hS : va_S (fun _ => False) s.heap s.heap [] := va_S.rf
  have hA : ∀ q : Nat, (fun _ : Nat => False) q → G.2.2 ≤ q := fun _ h => h.elim
  have hl : lv_has ls 2 [(0, .int (zI (a))), (1, .int (zI (b)))] := hl
  refine lv_iload_n hx hb dX2_wholeParts_0 rfl (lv_at hl 1 rfl) ?_
  refine z_if_le (a := b) (tgt := 10) hx hb dX2_wholeParts_1 (by decide) (by omega) (fun h_1 => ?_) (fun h_1 => ?_)
  · exfalso; omega
  · skip
    refine lv_iload_n hx hb dX2_wholeParts_4 rfl (lv_at hl 0 rfl) ?_
    refine lv_iload_n hx hb dX2_wholeParts_5 rfl (lv_at hl 1 rfl) ?_
    refine z_idiv hx hb dX2_wholeParts_6 (by omega) (by omega) ?_
    refine lv_goto (tgt := 11) hx hb dX2_wholeParts_7 (by decide) ?_
    exact e_R (r' := (a) / (b)) hx hb hr hlk (n_i _) (by first | rfl | omega) dX2_wholeParts_11
set_option maxHeartbeats 600000 in
theorem c_X2_toneOf (l : Launch) (G : zG)  (st sg oc : Int) (hst : 0 ≤ st ∧ st < 7) : MR l yX2_toneOf cX2_toneOf 3 (some .int) 0 0 G [.int (zI (st)), .int (zI (sg)), .int (zI (oc))] ((fun _ => True)) (.int (zI (toneF st sg oc))) := by
  refine mr_of hp_X2_toneOf (Nat.le_of_ble_eq_true rfl) ?_
  intro p env s m below meth c ls hB hP hl
  obtain ⟨hx, hb, hml, hr, hlk, hown, hts, hG⟩ := hB
  have hK := hG.1
  have hS : va_S (fun _ => False) s.heap s.heap [] := va_S.rf
  have hA : ∀ q : Nat, (fun _ : Nat => False) q → G.2.2 ≤ q := fun _ h => h.elim
  have hl : lv_has ls 3 [(0, .int (zI (st))), (1, .int (zI (sg))), (2, .int (zI (oc)))] := hl
  refine z_bipush hx hb dX2_toneOf_0 (by decide) ?_
  refine lv_iload_n hx hb dX2_toneOf_2 rfl (lv_at hl 2 rfl) ?_
  refine z_imul (x := 12) (y := oc) hx hb dX2_toneOf_3 ?_
  refine z_gets hx hb hG hts hS hA (own := RX2) (C := "ScorePress") (n := "STEP_TONES") (vs := [0, 2, 4, 5, 7, 9, 11]) (index := 254) (by decide) hown q_fl_RX2_254 dX2_toneOf_4 (fun t_1 ht_1 => ?_)
  refine lv_iload_n hx hb dX2_toneOf_7 rfl (lv_at hl 0 rfl) ?_
  refine z_tld (vs := [0, 2, 4, 5, 7, 9, 11]) hx hb ht_1 hS (i := st) (by have h9 : ([0, 2, 4, 5, 7, 9, 11] : List Int).length = 7 := rfl; omega) (by decide) dX2_toneOf_8 ?_
  refine z_iadd (x := (12) * (oc)) (y := stepT (st)) hx hb dX2_toneOf_9 ?_
  refine lv_iload_n hx hb dX2_toneOf_10 rfl (lv_at hl 1 rfl) ?_
  refine z_iadd (x := ((12) * (oc)) + (stepT (st))) (y := sg) hx hb dX2_toneOf_11 ?_
  exact e_R (r' := (((12) * (oc)) + (stepT (st))) + (sg)) hx hb hr hlk (n_i _) (by first | rfl | omega) dX2_toneOf_12
set_option maxHeartbeats 600000 in
theorem c_X2_signOfKey (l : Launch) (G : zG)  (key st : Int) (hk : -7 ≤ key ∧ key ≤ 7) (hst : 0 ≤ st ∧ st < 7) : MR l yX2_signOfKey cX2_signOfKey 4 (some .int) 0 0 G [.int (zI (key)), .int (zI (st))] ((fun _ => True)) (.int (zI (sgK key st))) := by
  refine mr_of hp_X2_signOfKey (Nat.le_of_ble_eq_true rfl) ?_
  intro p env s m below meth c ls hB hP hl
  obtain ⟨hx, hb, hml, hr, hlk, hown, hts, hG⟩ := hB
  have hK := hG.1
  have hS : va_S (fun _ => False) s.heap s.heap [] := va_S.rf
  have hA : ∀ q : Nat, (fun _ : Nat => False) q → G.2.2 ≤ q := fun _ h => h.elim
  have hl : lv_has ls 4 [(0, .int (zI (key))), (1, .int (zI (st)))] := hl
  refine z_gets hx hb hG hts hS hA (own := RX2) (C := "ScorePress") (n := "SHARP_PLACES") (vs := [1, 3, 5, 0, 2, 4, 6]) (index := 251) (by decide) hown q_fl_RX2_251 dX2_signOfKey_0 (fun t_1 ht_1 => ?_)
  refine lv_iload_n hx hb dX2_signOfKey_3 rfl (lv_at hl 1 rfl) ?_
  refine z_tld (vs := [1, 3, 5, 0, 2, 4, 6]) hx hb ht_1 hS (i := st) (by have h9 : ([1, 3, 5, 0, 2, 4, 6] : List Int).length = 7 := rfl; omega) (by decide) dX2_signOfKey_4 ?_
  have h9 := sharpP_rng hst
  refine lv_istore_n (lv' := [(2, .int (zI (sharpP (st)))), (0, .int (zI (key))), (1, .int (zI (st)))]) hx hb dX2_signOfKey_5 rfl hl (by decide) rfl (fun ls hl => ?_)
  refine z_bipush hx hb dX2_signOfKey_6 (by decide) ?_
  refine lv_iload_n hx hb dX2_signOfKey_8 rfl (lv_at hl 0 rfl) ?_
  refine z_isub (x := 6) (y := sharpP (st)) hx hb dX2_signOfKey_9 ?_
  refine lv_istore_n (lv' := [(3, .int (zI ((6) - (sharpP (st))))), (2, .int (zI (sharpP (st)))), (0, .int (zI (key))), (1, .int (zI (st)))]) hx hb dX2_signOfKey_10 rfl hl (by decide) rfl (fun ls hl => ?_)
  refine lv_iload_n hx hb dX2_signOfKey_11 rfl (lv_at hl 1 rfl) ?_
  refine lv_iload_n hx hb dX2_signOfKey_12 rfl (lv_at hl 2 rfl) ?_
  refine z_icmp_ge (a := sharpP (st)) (b := key) (tgt := 18) hx hb dX2_signOfKey_13 (by decide) (by omega) (by omega) (fun h_13 => ?_) (fun h_13 => ?_)
  · skip
    refine lv_iload_n hx hb dX2_signOfKey_18 rfl (lv_at hl 0 rfl) ?_
    refine lv_iload_n hx hb dX2_signOfKey_19 rfl (lv_at hl 2 rfl) ?_
    refine z_ineg hx hb dX2_signOfKey_20 ?_
    refine z_icmp_ge (a := (6) - (sharpP (st))) (b := -(key)) (tgt := 28) hx hb dX2_signOfKey_21 (by decide) (by omega) (by omega) (fun h_21 => ?_) (fun h_21 => ?_)
    · skip
      refine z_iconst hx hb dX2_signOfKey_28 ?_
      exact e_R (r' := 0) hx hb hr hlk (n_i _) (by first | rfl | omega | (simp only [sgK]; (repeat' split) <;> omega)) dX2_signOfKey_29
    · skip
      refine z_iconst hx hb dX2_signOfKey_24 ?_
      refine lv_goto (tgt := 29) hx hb dX2_signOfKey_25 (by decide) ?_
      exact e_R (r' := -1) hx hb hr hlk (n_i _) (by first | rfl | omega | (simp only [sgK]; (repeat' split) <;> omega)) dX2_signOfKey_29
  · skip
    refine z_iconst hx hb dX2_signOfKey_16 ?_
    exact e_R (r' := 1) hx hb hr hlk (n_i _) (by first | rfl | omega | (simp only [sgK]; (repeat' split) <;> omega)) dX2_signOfKey_17
set_option maxHeartbeats 600000 in
theorem c_X2_isPitch (l : Launch) (G : zG)  (st sg oc : Int) (r1 : -2147483648 ≤ st ∧ st ≤ 2147483647) (r2 : -2147483648 ≤ sg ∧ sg ≤ 2147483647) (r3 : -2147483648 ≤ oc ∧ oc ≤ 2147483647) : MR l yX2_isPitch cX2_isPitch 3 (some .boolean) 1 22 G [.int (zI (st)), .int (zI (sg)), .int (zI (oc))] ((fun _ => True)) (.int (zI (bI (0 ≤ st ∧ st < 7 ∧ 0 ≤ oc ∧ oc < 9 ∧ -2 ≤ sg ∧ sg ≤ 2 ∧ 0 ≤ toneF st sg oc)))) := by
  refine mr_of hp_X2_isPitch (Nat.le_of_ble_eq_true rfl) ?_
  intro p env s m below meth c ls hB hP hl
  obtain ⟨hx, hb, hml, hr, hlk, hown, hts, hG⟩ := hB
  have hK := hG.1
  have hS : va_S (fun _ => False) s.heap s.heap [] := va_S.rf
  have hA : ∀ q : Nat, (fun _ : Nat => False) q → G.2.2 ≤ q := fun _ h => h.elim
  have hl : lv_has ls 3 [(0, .int (zI (st))), (1, .int (zI (sg))), (2, .int (zI (oc)))] := hl
  refine lv_iload_n hx hb dX2_isPitch_0 rfl (lv_at hl 0 rfl) ?_
  refine z_if_lt (a := st) (tgt := 20) hx hb dX2_isPitch_1 (by decide) (by omega) (fun h_1 => ?_) (fun h_1 => ?_)
  · skip
    refine z_iconst hx hb dX2_isPitch_20 ?_
    exact e_R (r' := 0) hx hb hr hlk (n_z (by first | exact bI_01 _ | (left; rfl) | (right; rfl) | omega)) (bI_f (by omega)) dX2_isPitch_21
  · skip
    refine lv_iload_n hx hb dX2_isPitch_4 rfl (lv_at hl 0 rfl) ?_
    refine z_bipush hx hb dX2_isPitch_5 (by decide) ?_
    refine z_icmp_ge (a := st) (b := 7) (tgt := 20) hx hb dX2_isPitch_7 (by decide) (by omega) (by omega) (fun h_7 => ?_) (fun h_7 => ?_)
    · skip
      refine z_iconst hx hb dX2_isPitch_20 ?_
      exact e_R (r' := 0) hx hb hr hlk (n_z (by first | exact bI_01 _ | (left; rfl) | (right; rfl) | omega)) (bI_f (by omega)) dX2_isPitch_21
    · skip
      refine lv_iload_n hx hb dX2_isPitch_10 rfl (lv_at hl 2 rfl) ?_
      refine z_if_lt (a := oc) (tgt := 20) hx hb dX2_isPitch_11 (by decide) (by omega) (fun h_11 => ?_) (fun h_11 => ?_)
      · skip
        refine z_iconst hx hb dX2_isPitch_20 ?_
        exact e_R (r' := 0) hx hb hr hlk (n_z (by first | exact bI_01 _ | (left; rfl) | (right; rfl) | omega)) (bI_f (by omega)) dX2_isPitch_21
      · skip
        refine lv_iload_n hx hb dX2_isPitch_14 rfl (lv_at hl 2 rfl) ?_
        refine z_bipush hx hb dX2_isPitch_15 (by decide) ?_
        refine z_icmp_lt (a := oc) (b := 9) (tgt := 22) hx hb dX2_isPitch_17 (by decide) (by omega) (by omega) (fun h_17 => ?_) (fun h_17 => ?_)
        · skip
          refine lv_iload_n hx hb dX2_isPitch_22 rfl (lv_at hl 1 rfl) ?_
          refine z_bipush hx hb dX2_isPitch_23 (by decide) ?_
          refine z_icmp_lt (a := sg) (b := -2) (tgt := 46) hx hb dX2_isPitch_25 (by decide) (by omega) (by omega) (fun h_25 => ?_) (fun h_25 => ?_)
          · skip
            refine z_iconst hx hb dX2_isPitch_46 ?_
            exact e_R (r' := 0) hx hb hr hlk (n_z (by first | exact bI_01 _ | (left; rfl) | (right; rfl) | omega)) (bI_f (by omega)) dX2_isPitch_47
          · skip
            refine lv_iload_n hx hb dX2_isPitch_28 rfl (lv_at hl 1 rfl) ?_
            refine z_iconst hx hb dX2_isPitch_29 ?_
            refine z_icmp_gt (a := sg) (b := 2) (tgt := 46) hx hb dX2_isPitch_30 (by decide) (by omega) (by omega) (fun h_30 => ?_) (fun h_30 => ?_)
            · skip
              refine z_iconst hx hb dX2_isPitch_46 ?_
              exact e_R (r' := 0) hx hb hr hlk (n_z (by first | exact bI_01 _ | (left; rfl) | (right; rfl) | omega)) (bI_f (by omega)) dX2_isPitch_47
            · skip
              refine lv_iload_n hx hb dX2_isPitch_33 rfl (lv_at hl 0 rfl) ?_
              refine lv_iload_n hx hb dX2_isPitch_34 rfl (lv_at hl 1 rfl) ?_
              refine lv_iload_n hx hb dX2_isPitch_35 rfl (lv_at hl 2 rfl) ?_
              refine k_R (c_SR (As := [.int (zI (st)), .int (zI (sg)), .int (zI (oc))]) (rest := []) ⟨hx, hb, hml, hown, hts⟩ hG hS hA (c_X2_toneOf l G st sg oc (show 0 ≤ st ∧ st < 7 by omega)) ⟨q_ml_RX2_269, q_st_X2_toneOf, q_ini_RX2, q_code_X2_toneOf⟩ hs_X2_toneOf trivial ⟨by decide, by decide⟩ ⟨Nat.zero_le _, Nat.zero_le _⟩ rfl hl.1 rfl (Nat.le_of_ble_eq_true rfl) dX2_isPitch_36) ?_
              have h9 := stepT_rng (k := st) (by omega)
              have h8 : toneF st sg oc = 12 * oc + stepT st + sg := rfl
              refine z_if_lt (a := toneF st sg oc) (tgt := 46) hx hb dX2_isPitch_39 (by decide) (by omega) (fun h_39 => ?_) (fun h_39 => ?_)
              · skip
                refine z_iconst hx hb dX2_isPitch_46 ?_
                exact e_R (r' := 0) hx hb hr hlk (n_z (by first | exact bI_01 _ | (left; rfl) | (right; rfl) | omega)) (bI_f (by omega)) dX2_isPitch_47
              · skip
                refine z_iconst hx hb dX2_isPitch_42 ?_
                refine lv_goto (tgt := 47) hx hb dX2_isPitch_43 (by decide) ?_
                exact e_R (r' := 1) hx hb hr hlk (n_z (by first | exact bI_01 _ | (left; rfl) | (right; rfl) | omega)) (bI_t (by omega)) dX2_isPitch_47
        · skip
          refine z_iconst hx hb dX2_isPitch_20 ?_
          exact e_R (r' := 0) hx hb hr hlk (n_z (by first | exact bI_01 _ | (left; rfl) | (right; rfl) | omega)) (bI_f (by omega)) dX2_isPitch_21
set_option maxHeartbeats 600000 in
theorem c_X2_findValue (l : Launch) (G : zG)  (pa d : Int) (r1 : -2147483648 ≤ pa ∧ pa ≤ 2147483647) (r2 : -2147483648 ≤ d ∧ d ≤ 2147483647) : MR l yX2_findValue cX2_findValue 3 (some .int) 0 0 G [.int (zI (pa)), .int (zI (d))] ((fun _ => True)) (.int (zI (findV pa d))) := by
  refine mr_of hp_X2_findValue (Nat.le_of_ble_eq_true rfl) ?_
  intro p env s m below meth c ls hB hP hl
  obtain ⟨hx, hb, hml, hr, hlk, hown, hts, hG⟩ := hB
  have hK := hG.1
  have hS : va_S (fun _ => False) s.heap s.heap [] := va_S.rf
  have hA : ∀ q : Nat, (fun _ : Nat => False) q → G.2.2 ≤ q := fun _ h => h.elim
  have hl : lv_has ls 3 [(0, .int (zI (pa))), (1, .int (zI (d)))] := hl
  refine z_iconst hx hb dX2_findValue_0 ?_
  refine lv_istore_n (lv' := [(2, .int (zI (0))), (0, .int (zI (pa))), (1, .int (zI (d)))]) hx hb dX2_findValue_1 rfl hl (by decide) rfl (fun ls hl => ?_)
  have lp_2 : ∀ (n : Nat) (i : Int), 0 ≤ i → i ≤ 15 → fp (fun k => valP k = pa ∧ valD k = d) i = i → 15 - i < n → ∀ (ls : Array Slot), lv_has ls 3 [(2, .int (zI (i))), (0, .int (zI (pa))), (1, .int (zI (d)))] → W p l env (rmz 0 0 0 0) s m (([.int (zI (pa)), .int (zI (d))] : List Value).toArray) below meth c s.heap [] 0 0 (MQ below (QR (.int (zI (findV pa d)))) (([.int (zI (pa)), .int (zI (d))] : List Value).toArray) s 0 0 (fun _ => False)) (F0 m 2 ls []) := by
    intro n
    induction n with
    | zero => intro i h0 h1 h2 hm ls hl; exact absurd hm (by omega)
    | succ n ih =>
      intro i h0 h1 h2 hm ls hl
      refine lv_iload_n hx hb dX2_findValue_2 rfl (lv_at hl 0 rfl) ?_
      refine z_gets hx hb hG hts hS hA (own := RX2) (C := "ScorePress") (n := "VALUE_TICKS") (vs := [672, 576, 384, 336, 288, 192, 168, 144, 96, 84, 72, 48, 36, 24, 12]) (index := 90) (by decide) hown q_fl_RX2_90 dX2_findValue_3 (fun t_1 ht_1 => ?_)
      refine z_tlen hx hb ht_1 hS (n := 15) rfl dX2_findValue_6 ?_
      refine z_icmp_ge (a := i) (b := 15) (tgt := 36) hx hb dX2_findValue_7 (by decide) (by omega) (by omega) (fun h_7 => ?_) (fun h_7 => ?_)
      · skip
        refine z_iconst hx hb dX2_findValue_36 ?_
        exact e_R (r' := -1) hx hb hr hlk (n_i _) (by have h9 : i = 15 := (by omega); subst h9; unfold findV; rw [if_neg (by omega)]) dX2_findValue_37
      · skip
        refine z_gets hx hb hG hts hS hA (own := RX2) (C := "ScorePress") (n := "VALUE_PARTS") (vs := [1, 1, 1, 2, 2, 2, 4, 4, 4, 8, 8, 8, 16, 16, 32]) (index := 245) (by decide) hown q_fl_RX2_245 dX2_findValue_10 (fun t_2 ht_2 => ?_)
        refine lv_iload_n hx hb dX2_findValue_13 rfl (lv_at hl 0 rfl) ?_
        refine z_tld (vs := [1, 1, 1, 2, 2, 2, 4, 4, 4, 8, 8, 8, 16, 16, 32]) hx hb ht_2 hS (i := i) (by have h9 : ([1, 1, 1, 2, 2, 2, 4, 4, 4, 8, 8, 8, 16, 16, 32] : List Int).length = 15 := rfl; omega) (by decide) dX2_findValue_14 ?_
        have hv1 := valP_rng (k := i) (by omega)
        refine lv_iload_n hx hb dX2_findValue_15 rfl (lv_at hl 1 rfl) ?_
        refine z_icmp_ne (a := valP (i)) (b := pa) (tgt := 30) hx hb dX2_findValue_16 (by decide) (by omega) (by omega) (fun h_16 => ?_) (fun h_16 => ?_)
        · skip
          refine z_iinc (lv' := [(2, .int (zI (i + 1))), (0, .int (zI (pa))), (1, .int (zI (d)))]) hx hb dX2_findValue_30 hl (k := 0) rfl (by decide) rfl (fun ls hl => ?_)
          refine lv_goto (tgt := 2) hx hb dX2_findValue_33 (by decide) ?_
          exact ih (i + 1) (by omega) (by omega) (fp_no h0 h2 (by show ¬ (valP i = pa ∧ valD i = d); omega)) (by omega) _ (lv_sub hl [0, 1, 2] rfl)
        · skip
          refine z_gets hx hb hG hts hS hA (own := RX2) (C := "ScorePress") (n := "VALUE_DOTS") (vs := [2, 1, 0, 2, 1, 0, 2, 1, 0, 2, 1, 0, 1, 0, 0]) (index := 248) (by decide) hown q_fl_RX2_248 dX2_findValue_19 (fun t_3 ht_3 => ?_)
          refine lv_iload_n hx hb dX2_findValue_22 rfl (lv_at hl 0 rfl) ?_
          refine z_tld (vs := [2, 1, 0, 2, 1, 0, 2, 1, 0, 2, 1, 0, 1, 0, 0]) hx hb ht_3 hS (i := i) (by have h9 : ([2, 1, 0, 2, 1, 0, 2, 1, 0, 2, 1, 0, 1, 0, 0] : List Int).length = 15 := rfl; omega) (by decide) dX2_findValue_23 ?_
          have hv2 := valD_rng (k := i) (by omega)
          refine lv_iload_n hx hb dX2_findValue_24 rfl (lv_at hl 2 rfl) ?_
          refine z_icmp_ne (a := valD (i)) (b := d) (tgt := 30) hx hb dX2_findValue_25 (by decide) (by omega) (by omega) (fun h_25 => ?_) (fun h_25 => ?_)
          · skip
            refine z_iinc (lv' := [(2, .int (zI (i + 1))), (0, .int (zI (pa))), (1, .int (zI (d)))]) hx hb dX2_findValue_30 hl (k := 0) rfl (by decide) rfl (fun ls hl => ?_)
            refine lv_goto (tgt := 2) hx hb dX2_findValue_33 (by decide) ?_
            exact ih (i + 1) (by omega) (by omega) (fp_no h0 h2 (by show ¬ (valP i = pa ∧ valD i = d); omega)) (by omega) _ (lv_sub hl [0, 1, 2] rfl)
          · skip
            refine lv_iload_n hx hb dX2_findValue_28 rfl (lv_at hl 0 rfl) ?_
            exact e_R (r' := i) hx hb hr hlk (n_i _) (by have h9 := fp_yes (q := (fun k => valP k = pa ∧ valD k = d)) (n := 15) h0 h2 (by show valP i = pa ∧ valD i = d; omega) (by omega); unfold findV; rw [if_pos (by rw [h9]; omega), h9]) dX2_findValue_29
  exact lp_2 16 0 (by omega) (by omega) rfl (by omega) _ (lv_sub hl [0, 1, 2] rfl)
set_option maxHeartbeats 600000 in
theorem c_X2_greatestValue (l : Launch) (G : zG)  (t : Int) (r1 : -2147483648 ≤ t ∧ t ≤ 2147483647) : MR l yX2_greatestValue cX2_greatestValue 2 (some .int) 0 0 G [.int (zI (t))] ((fun _ => True)) (.int (zI (gV t))) := by
  refine mr_of hp_X2_greatestValue (Nat.le_of_ble_eq_true rfl) ?_
  intro p env s m below meth c ls hB hP hl
  obtain ⟨hx, hb, hml, hr, hlk, hown, hts, hG⟩ := hB
  have hK := hG.1
  have hS : va_S (fun _ => False) s.heap s.heap [] := va_S.rf
  have hA : ∀ q : Nat, (fun _ : Nat => False) q → G.2.2 ≤ q := fun _ h => h.elim
  have hl : lv_has ls 2 [(0, .int (zI (t)))] := hl
  refine z_iconst hx hb dX2_greatestValue_0 ?_
  refine lv_istore_n (lv' := [(1, .int (zI (0))), (0, .int (zI (t)))]) hx hb dX2_greatestValue_1 rfl hl (by decide) rfl (fun ls hl => ?_)
  have lp_2 : ∀ (n : Nat) (i : Int), 0 ≤ i → i ≤ 15 → fp (fun k => valT k ≤ t) i = i → 15 - i < n → ∀ (ls : Array Slot), lv_has ls 2 [(1, .int (zI (i))), (0, .int (zI (t)))] → W p l env (rmz 0 0 0 0) s m (([.int (zI (t))] : List Value).toArray) below meth c s.heap [] 0 0 (MQ below (QR (.int (zI (gV t)))) (([.int (zI (t))] : List Value).toArray) s 0 0 (fun _ => False)) (F0 m 2 ls []) := by
    intro n
    induction n with
    | zero => intro i h0 h1 h2 hm ls hl; exact absurd hm (by omega)
    | succ n ih =>
      intro i h0 h1 h2 hm ls hl
      refine lv_iload_n hx hb dX2_greatestValue_2 rfl (lv_at hl 0 rfl) ?_
      refine z_gets hx hb hG hts hS hA (own := RX2) (C := "ScorePress") (n := "VALUE_TICKS") (vs := [672, 576, 384, 336, 288, 192, 168, 144, 96, 84, 72, 48, 36, 24, 12]) (index := 90) (by decide) hown q_fl_RX2_90 dX2_greatestValue_3 (fun t_1 ht_1 => ?_)
      refine z_tlen hx hb ht_1 hS (n := 15) rfl dX2_greatestValue_6 ?_
      refine z_icmp_ge (a := i) (b := 15) (tgt := 27) hx hb dX2_greatestValue_7 (by decide) (by omega) (by omega) (fun h_7 => ?_) (fun h_7 => ?_)
      · skip
        refine z_gets hx hb hG hts hS hA (own := RX2) (C := "ScorePress") (n := "VALUE_TICKS") (vs := [672, 576, 384, 336, 288, 192, 168, 144, 96, 84, 72, 48, 36, 24, 12]) (index := 90) (by decide) hown q_fl_RX2_90 dX2_greatestValue_27 (fun t_2 ht_2 => ?_)
        refine z_tlen hx hb ht_2 hS (n := 15) rfl dX2_greatestValue_30 ?_
        refine z_iconst hx hb dX2_greatestValue_31 ?_
        refine z_isub (x := 15) (y := 1) hx hb dX2_greatestValue_32 ?_
        exact e_R (r' := (15) - (1)) hx hb hr hlk (n_i _) (by have h9 : i = 15 := (by omega); subst h9; unfold gV; rw [if_neg (by omega)]; rfl) dX2_greatestValue_33
      · skip
        refine z_gets hx hb hG hts hS hA (own := RX2) (C := "ScorePress") (n := "VALUE_TICKS") (vs := [672, 576, 384, 336, 288, 192, 168, 144, 96, 84, 72, 48, 36, 24, 12]) (index := 90) (by decide) hown q_fl_RX2_90 dX2_greatestValue_10 (fun t_3 ht_3 => ?_)
        refine lv_iload_n hx hb dX2_greatestValue_13 rfl (lv_at hl 0 rfl) ?_
        refine z_tld (vs := [672, 576, 384, 336, 288, 192, 168, 144, 96, 84, 72, 48, 36, 24, 12]) hx hb ht_3 hS (i := i) (by have h9 : ([672, 576, 384, 336, 288, 192, 168, 144, 96, 84, 72, 48, 36, 24, 12] : List Int).length = 15 := rfl; omega) (by decide) dX2_greatestValue_14 ?_
        have hv1 := valT_rng (k := i) (by omega)
        refine lv_iload_n hx hb dX2_greatestValue_15 rfl (lv_at hl 1 rfl) ?_
        refine z_icmp_gt (a := valT (i)) (b := t) (tgt := 21) hx hb dX2_greatestValue_16 (by decide) (by omega) (by omega) (fun h_16 => ?_) (fun h_16 => ?_)
        · skip
          refine z_iinc (lv' := [(1, .int (zI (i + 1))), (0, .int (zI (t)))]) hx hb dX2_greatestValue_21 hl (k := 0) rfl (by decide) rfl (fun ls hl => ?_)
          refine lv_goto (tgt := 2) hx hb dX2_greatestValue_24 (by decide) ?_
          exact ih (i + 1) (by omega) (by omega) (fp_no h0 h2 (by show ¬ valT i ≤ t; omega)) (by omega) _ (lv_sub hl [0, 1] rfl)
        · skip
          refine lv_iload_n hx hb dX2_greatestValue_19 rfl (lv_at hl 0 rfl) ?_
          exact e_R (r' := i) hx hb hr hlk (n_i _) (by have h9 := fp_yes (q := (fun k => valT k ≤ t)) (n := 15) h0 h2 (by show valT i ≤ t; omega) (by omega); unfold gV; rw [if_pos (by rw [h9]; omega), h9]) dX2_greatestValue_20
  exact lp_2 16 0 (by omega) (by omega) rfl (by omega) _ (lv_sub hl [0, 1] rfl)
def parF (ea eb ta tb : Int) : Prop := ((tb - ta) % 12 = 0 ∨ (tb - ta) % 12 = 7) ∧ (tb - ta) % 12 = (eb - ea) % 12 ∧ ((ea < ta ∧ eb < tb) ∨ (ta < ea ∧ tb < eb))
theorem parF_dec (ea eb ta tb : Int) : (((tb - ta) % 12 = 0 ∨ (tb - ta) % 12 = 7) ∧ (tb - ta) % 12 = (eb - ea) % 12 ∧ ((ea < ta ∧ eb < tb) ∨ (ta < ea ∧ tb < eb))) ↔ parF ea eb ta tb := Iff.rfl
set_option maxHeartbeats 600000 in
theorem c_X2_isParallel (l : Launch) (G : zG)  (ea eb ta tb : Int) (r1 : -1000000 ≤ ea ∧ ea ≤ 1000000) (r2 : -1000000 ≤ eb ∧ eb ≤ 1000000) (r3 : -1000000 ≤ ta ∧ ta ≤ 1000000) (r4 : -1000000 ≤ tb ∧ tb ≤ 1000000) : MR l yX2_isParallel cX2_isParallel 7 (some .boolean) 1 22 G [.int (zI (ea)), .int (zI (eb)), .int (zI (ta)), .int (zI (tb))] ((fun _ => True)) (.int (zI (bI (((tb - ta) % 12 = 0 ∨ (tb - ta) % 12 = 7) ∧ (tb - ta) % 12 = (eb - ea) % 12 ∧ ((ea < ta ∧ eb < tb) ∨ (ta < ea ∧ tb < eb)))))) := by
  refine mr_of hp_X2_isParallel (Nat.le_of_ble_eq_true rfl) ?_
  intro p env s m below meth c ls hB hP hl
  obtain ⟨hx, hb, hml, hr, hlk, hown, hts, hG⟩ := hB
  have hK := hG.1
  have hS : va_S (fun _ => False) s.heap s.heap [] := va_S.rf
  have hA : ∀ q : Nat, (fun _ : Nat => False) q → G.2.2 ≤ q := fun _ h => h.elim
  have hl : lv_has ls 7 [(0, .int (zI (ea))), (1, .int (zI (eb))), (2, .int (zI (ta))), (3, .int (zI (tb)))] := hl
  refine lv_iload_n hx hb dX2_isParallel_0 rfl (lv_at hl 3 rfl) ?_
  refine lv_iload_n hx hb dX2_isParallel_1 rfl (lv_at hl 2 rfl) ?_
  refine z_isub (x := tb) (y := ta) hx hb dX2_isParallel_2 ?_
  refine z_bipush hx hb dX2_isParallel_3 (by decide) ?_
  refine k_R (c_SR (As := [.int (zI ((tb) - (ta))), .int (zI (12))]) (rest := []) ⟨hx, hb, hml, hown, hts⟩ hG hS hA (c_J9_floorMod_7cf53 l G ((tb) - (ta)) 12 (by omega) (by first | exact Or.inl rfl | exact Or.inr rfl)) ⟨q_ml_RX2_257, q_st_J9_floorMod_7cf53, q_ini_RJ9, q_code_J9_floorMod_7cf53⟩ hs_J9_floorMod_7cf53 trivial ⟨by decide, by decide⟩ ⟨Nat.zero_le _, Nat.zero_le _⟩ rfl hl.1 rfl (Nat.le_of_ble_eq_true rfl) dX2_isParallel_5) ?_
  refine lv_istore (lv' := [(4, .int (zI (((tb) - (ta)) % 12))), (0, .int (zI (ea))), (1, .int (zI (eb))), (2, .int (zI (ta))), (3, .int (zI (tb)))]) hx hb dX2_isParallel_8 hl (by decide) rfl (fun ls hl => ?_)
  refine lv_iload hx hb dX2_isParallel_10 (lv_at hl 0 rfl) ?_
  refine z_if_eq (a := ((tb) - (ta)) % 12) (tgt := 24) hx hb dX2_isParallel_12 (by decide) (by omega) (fun h_12 => ?_) (fun h_12 => ?_)
  · skip
    refine lv_iload hx hb dX2_isParallel_24 (lv_at hl 0 rfl) ?_
    refine lv_iload_n hx hb dX2_isParallel_26 rfl (lv_at hl 2 rfl) ?_
    refine lv_iload_n hx hb dX2_isParallel_27 rfl (lv_at hl 1 rfl) ?_
    refine z_isub (x := eb) (y := ea) hx hb dX2_isParallel_28 ?_
    refine z_bipush hx hb dX2_isParallel_29 (by decide) ?_
    refine k_R (c_SR (As := [.int (zI ((eb) - (ea))), .int (zI (12))]) (rest := [.int (zI (((tb) - (ta)) % 12))]) ⟨hx, hb, hml, hown, hts⟩ hG hS hA (c_J9_floorMod_7cf53 l G ((eb) - (ea)) 12 (by omega) (by first | exact Or.inl rfl | exact Or.inr rfl)) ⟨q_ml_RX2_257, q_st_J9_floorMod_7cf53, q_ini_RJ9, q_code_J9_floorMod_7cf53⟩ hs_J9_floorMod_7cf53 trivial ⟨by decide, by decide⟩ ⟨Nat.zero_le _, Nat.zero_le _⟩ rfl hl.1 rfl (Nat.le_of_ble_eq_true rfl) dX2_isParallel_31) ?_
    refine z_icmp_eq (a := ((tb) - (ta)) % 12) (b := ((eb) - (ea)) % 12) (tgt := 39) hx hb dX2_isParallel_34 (by decide) (by omega) (by omega) (fun h_34 => ?_) (fun h_34 => ?_)
    · skip
      refine lv_iload_n hx hb dX2_isParallel_39 rfl (lv_at hl 3 rfl) ?_
      refine lv_iload_n hx hb dX2_isParallel_40 rfl (lv_at hl 1 rfl) ?_
      refine z_icmp_le (a := ta) (b := ea) (tgt := 53) hx hb dX2_isParallel_41 (by decide) (by omega) (by omega) (fun h_41 => ?_) (fun h_41 => ?_)
      · skip
        refine z_iconst hx hb dX2_isParallel_53 ?_
        refine lv_istore (lv' := [(5, .int (zI (0))), (4, .int (zI (((tb) - (ta)) % 12))), (0, .int (zI (ea))), (1, .int (zI (eb))), (2, .int (zI (ta))), (3, .int (zI (tb)))]) hx hb dX2_isParallel_54 hl (by decide) rfl (fun ls hl => ?_)
        refine lv_iload_n hx hb dX2_isParallel_56 rfl (lv_at hl 4 rfl) ?_
        refine lv_iload_n hx hb dX2_isParallel_57 rfl (lv_at hl 2 rfl) ?_
        refine z_icmp_ge (a := ta) (b := ea) (tgt := 70) hx hb dX2_isParallel_58 (by decide) (by omega) (by omega) (fun h_58 => ?_) (fun h_58 => ?_)
        · skip
          refine z_iconst hx hb dX2_isParallel_70 ?_
          refine lv_istore (lv' := [(6, .int (zI (0))), (5, .int (zI (0))), (4, .int (zI (((tb) - (ta)) % 12))), (0, .int (zI (ea))), (1, .int (zI (eb))), (2, .int (zI (ta))), (3, .int (zI (tb)))]) hx hb dX2_isParallel_71 hl (by decide) rfl (fun ls hl => ?_)
          refine lv_iload hx hb dX2_isParallel_73 (lv_at hl 1 rfl) ?_
          refine z_if_ne (a := 0) (tgt := 83) hx hb dX2_isParallel_75 (by decide) (by omega) (fun h_75 => ?_) (fun h_75 => ?_)
          · skip
            refine z_iconst hx hb dX2_isParallel_83 ?_
            refine lv_goto (tgt := 88) hx hb dX2_isParallel_84 (by decide) ?_
            exact e_R (r' := 1) hx hb hr hlk (n_z (by first | exact bI_01 _ | (left; rfl) | (right; rfl) | omega)) (bI_t (by omega)) dX2_isParallel_88
          · skip
            refine lv_iload hx hb dX2_isParallel_78 (lv_at hl 0 rfl) ?_
            refine z_if_eq (a := 0) (tgt := 87) hx hb dX2_isParallel_80 (by decide) (by omega) (fun h_80 => ?_) (fun h_80 => ?_)
            · skip
              refine z_iconst hx hb dX2_isParallel_87 ?_
              exact e_R (r' := 0) hx hb hr hlk (n_z (by first | exact bI_01 _ | (left; rfl) | (right; rfl) | omega)) (bI_f (by omega)) dX2_isParallel_88
            · skip
              refine z_iconst hx hb dX2_isParallel_83 ?_
              refine lv_goto (tgt := 88) hx hb dX2_isParallel_84 (by decide) ?_
              exact e_R (r' := 1) hx hb hr hlk (n_z (by first | exact bI_01 _ | (left; rfl) | (right; rfl) | omega)) (bI_t (by omega)) dX2_isParallel_88
        · skip
          refine lv_iload_n hx hb dX2_isParallel_61 rfl (lv_at hl 5 rfl) ?_
          refine lv_iload_n hx hb dX2_isParallel_62 rfl (lv_at hl 3 rfl) ?_
          refine z_icmp_ge (a := tb) (b := eb) (tgt := 70) hx hb dX2_isParallel_63 (by decide) (by omega) (by omega) (fun h_63 => ?_) (fun h_63 => ?_)
          · skip
            refine z_iconst hx hb dX2_isParallel_70 ?_
            refine lv_istore (lv' := [(6, .int (zI (0))), (5, .int (zI (0))), (4, .int (zI (((tb) - (ta)) % 12))), (0, .int (zI (ea))), (1, .int (zI (eb))), (2, .int (zI (ta))), (3, .int (zI (tb)))]) hx hb dX2_isParallel_71 hl (by decide) rfl (fun ls hl => ?_)
            refine lv_iload hx hb dX2_isParallel_73 (lv_at hl 1 rfl) ?_
            refine z_if_ne (a := 0) (tgt := 83) hx hb dX2_isParallel_75 (by decide) (by omega) (fun h_75 => ?_) (fun h_75 => ?_)
            · skip
              refine z_iconst hx hb dX2_isParallel_83 ?_
              refine lv_goto (tgt := 88) hx hb dX2_isParallel_84 (by decide) ?_
              exact e_R (r' := 1) hx hb hr hlk (n_z (by first | exact bI_01 _ | (left; rfl) | (right; rfl) | omega)) (bI_t (by omega)) dX2_isParallel_88
            · skip
              refine lv_iload hx hb dX2_isParallel_78 (lv_at hl 0 rfl) ?_
              refine z_if_eq (a := 0) (tgt := 87) hx hb dX2_isParallel_80 (by decide) (by omega) (fun h_80 => ?_) (fun h_80 => ?_)
              · skip
                refine z_iconst hx hb dX2_isParallel_87 ?_
                exact e_R (r' := 0) hx hb hr hlk (n_z (by first | exact bI_01 _ | (left; rfl) | (right; rfl) | omega)) (bI_f (by omega)) dX2_isParallel_88
              · skip
                refine z_iconst hx hb dX2_isParallel_83 ?_
                refine lv_goto (tgt := 88) hx hb dX2_isParallel_84 (by decide) ?_
                exact e_R (r' := 1) hx hb hr hlk (n_z (by first | exact bI_01 _ | (left; rfl) | (right; rfl) | omega)) (bI_t (by omega)) dX2_isParallel_88
          · skip
            refine z_iconst hx hb dX2_isParallel_66 ?_
            refine lv_goto (tgt := 71) hx hb dX2_isParallel_67 (by decide) ?_
            refine lv_istore (lv' := [(6, .int (zI (1))), (5, .int (zI (0))), (4, .int (zI (((tb) - (ta)) % 12))), (0, .int (zI (ea))), (1, .int (zI (eb))), (2, .int (zI (ta))), (3, .int (zI (tb)))]) hx hb dX2_isParallel_71 hl (by decide) rfl (fun ls hl => ?_)
            refine lv_iload hx hb dX2_isParallel_73 (lv_at hl 1 rfl) ?_
            refine z_if_ne (a := 0) (tgt := 83) hx hb dX2_isParallel_75 (by decide) (by omega) (fun h_75 => ?_) (fun h_75 => ?_)
            · skip
              refine z_iconst hx hb dX2_isParallel_83 ?_
              refine lv_goto (tgt := 88) hx hb dX2_isParallel_84 (by decide) ?_
              exact e_R (r' := 1) hx hb hr hlk (n_z (by first | exact bI_01 _ | (left; rfl) | (right; rfl) | omega)) (bI_t (by omega)) dX2_isParallel_88
            · skip
              refine lv_iload hx hb dX2_isParallel_78 (lv_at hl 0 rfl) ?_
              refine z_if_eq (a := 1) (tgt := 87) hx hb dX2_isParallel_80 (by decide) (by omega) (fun h_80 => ?_) (fun h_80 => ?_)
              · skip
                refine z_iconst hx hb dX2_isParallel_87 ?_
                exact e_R (r' := 0) hx hb hr hlk (n_z (by first | exact bI_01 _ | (left; rfl) | (right; rfl) | omega)) (bI_f (by omega)) dX2_isParallel_88
              · skip
                refine z_iconst hx hb dX2_isParallel_83 ?_
                refine lv_goto (tgt := 88) hx hb dX2_isParallel_84 (by decide) ?_
                exact e_R (r' := 1) hx hb hr hlk (n_z (by first | exact bI_01 _ | (left; rfl) | (right; rfl) | omega)) (bI_t (by omega)) dX2_isParallel_88
      · skip
        refine lv_iload_n hx hb dX2_isParallel_44 rfl (lv_at hl 4 rfl) ?_
        refine lv_iload_n hx hb dX2_isParallel_45 rfl (lv_at hl 2 rfl) ?_
        refine z_icmp_le (a := tb) (b := eb) (tgt := 53) hx hb dX2_isParallel_46 (by decide) (by omega) (by omega) (fun h_46 => ?_) (fun h_46 => ?_)
        · skip
          refine z_iconst hx hb dX2_isParallel_53 ?_
          refine lv_istore (lv' := [(5, .int (zI (0))), (4, .int (zI (((tb) - (ta)) % 12))), (0, .int (zI (ea))), (1, .int (zI (eb))), (2, .int (zI (ta))), (3, .int (zI (tb)))]) hx hb dX2_isParallel_54 hl (by decide) rfl (fun ls hl => ?_)
          refine lv_iload_n hx hb dX2_isParallel_56 rfl (lv_at hl 4 rfl) ?_
          refine lv_iload_n hx hb dX2_isParallel_57 rfl (lv_at hl 2 rfl) ?_
          refine z_icmp_ge (a := ta) (b := ea) (tgt := 70) hx hb dX2_isParallel_58 (by decide) (by omega) (by omega) (fun h_58 => ?_) (fun h_58 => ?_)
          · skip
            refine z_iconst hx hb dX2_isParallel_70 ?_
            refine lv_istore (lv' := [(6, .int (zI (0))), (5, .int (zI (0))), (4, .int (zI (((tb) - (ta)) % 12))), (0, .int (zI (ea))), (1, .int (zI (eb))), (2, .int (zI (ta))), (3, .int (zI (tb)))]) hx hb dX2_isParallel_71 hl (by decide) rfl (fun ls hl => ?_)
            refine lv_iload hx hb dX2_isParallel_73 (lv_at hl 1 rfl) ?_
            refine z_if_ne (a := 0) (tgt := 83) hx hb dX2_isParallel_75 (by decide) (by omega) (fun h_75 => ?_) (fun h_75 => ?_)
            · skip
              refine z_iconst hx hb dX2_isParallel_83 ?_
              refine lv_goto (tgt := 88) hx hb dX2_isParallel_84 (by decide) ?_
              exact e_R (r' := 1) hx hb hr hlk (n_z (by first | exact bI_01 _ | (left; rfl) | (right; rfl) | omega)) (bI_t (by omega)) dX2_isParallel_88
            · skip
              refine lv_iload hx hb dX2_isParallel_78 (lv_at hl 0 rfl) ?_
              refine z_if_eq (a := 0) (tgt := 87) hx hb dX2_isParallel_80 (by decide) (by omega) (fun h_80 => ?_) (fun h_80 => ?_)
              · skip
                refine z_iconst hx hb dX2_isParallel_87 ?_
                exact e_R (r' := 0) hx hb hr hlk (n_z (by first | exact bI_01 _ | (left; rfl) | (right; rfl) | omega)) (bI_f (by omega)) dX2_isParallel_88
              · skip
                refine z_iconst hx hb dX2_isParallel_83 ?_
                refine lv_goto (tgt := 88) hx hb dX2_isParallel_84 (by decide) ?_
                exact e_R (r' := 1) hx hb hr hlk (n_z (by first | exact bI_01 _ | (left; rfl) | (right; rfl) | omega)) (bI_t (by omega)) dX2_isParallel_88
          · skip
            refine lv_iload_n hx hb dX2_isParallel_61 rfl (lv_at hl 5 rfl) ?_
            refine lv_iload_n hx hb dX2_isParallel_62 rfl (lv_at hl 3 rfl) ?_
            refine z_icmp_ge (a := tb) (b := eb) (tgt := 70) hx hb dX2_isParallel_63 (by decide) (by omega) (by omega) (fun h_63 => ?_) (fun h_63 => ?_)
            · skip
              refine z_iconst hx hb dX2_isParallel_70 ?_
              refine lv_istore (lv' := [(6, .int (zI (0))), (5, .int (zI (0))), (4, .int (zI (((tb) - (ta)) % 12))), (0, .int (zI (ea))), (1, .int (zI (eb))), (2, .int (zI (ta))), (3, .int (zI (tb)))]) hx hb dX2_isParallel_71 hl (by decide) rfl (fun ls hl => ?_)
              refine lv_iload hx hb dX2_isParallel_73 (lv_at hl 1 rfl) ?_
              refine z_if_ne (a := 0) (tgt := 83) hx hb dX2_isParallel_75 (by decide) (by omega) (fun h_75 => ?_) (fun h_75 => ?_)
              · skip
                refine z_iconst hx hb dX2_isParallel_83 ?_
                refine lv_goto (tgt := 88) hx hb dX2_isParallel_84 (by decide) ?_
                exact e_R (r' := 1) hx hb hr hlk (n_z (by first | exact bI_01 _ | (left; rfl) | (right; rfl) | omega)) (bI_t (by omega)) dX2_isParallel_88
              · skip
                refine lv_iload hx hb dX2_isParallel_78 (lv_at hl 0 rfl) ?_
                refine z_if_eq (a := 0) (tgt := 87) hx hb dX2_isParallel_80 (by decide) (by omega) (fun h_80 => ?_) (fun h_80 => ?_)
                · skip
                  refine z_iconst hx hb dX2_isParallel_87 ?_
                  exact e_R (r' := 0) hx hb hr hlk (n_z (by first | exact bI_01 _ | (left; rfl) | (right; rfl) | omega)) (bI_f (by omega)) dX2_isParallel_88
                · skip
                  refine z_iconst hx hb dX2_isParallel_83 ?_
                  refine lv_goto (tgt := 88) hx hb dX2_isParallel_84 (by decide) ?_
                  exact e_R (r' := 1) hx hb hr hlk (n_z (by first | exact bI_01 _ | (left; rfl) | (right; rfl) | omega)) (bI_t (by omega)) dX2_isParallel_88
            · skip
              refine z_iconst hx hb dX2_isParallel_66 ?_
              refine lv_goto (tgt := 71) hx hb dX2_isParallel_67 (by decide) ?_
              refine lv_istore (lv' := [(6, .int (zI (1))), (5, .int (zI (0))), (4, .int (zI (((tb) - (ta)) % 12))), (0, .int (zI (ea))), (1, .int (zI (eb))), (2, .int (zI (ta))), (3, .int (zI (tb)))]) hx hb dX2_isParallel_71 hl (by decide) rfl (fun ls hl => ?_)
              refine lv_iload hx hb dX2_isParallel_73 (lv_at hl 1 rfl) ?_
              refine z_if_ne (a := 0) (tgt := 83) hx hb dX2_isParallel_75 (by decide) (by omega) (fun h_75 => ?_) (fun h_75 => ?_)
              · skip
                refine z_iconst hx hb dX2_isParallel_83 ?_
                refine lv_goto (tgt := 88) hx hb dX2_isParallel_84 (by decide) ?_
                exact e_R (r' := 1) hx hb hr hlk (n_z (by first | exact bI_01 _ | (left; rfl) | (right; rfl) | omega)) (bI_t (by omega)) dX2_isParallel_88
              · skip
                refine lv_iload hx hb dX2_isParallel_78 (lv_at hl 0 rfl) ?_
                refine z_if_eq (a := 1) (tgt := 87) hx hb dX2_isParallel_80 (by decide) (by omega) (fun h_80 => ?_) (fun h_80 => ?_)
                · skip
                  refine z_iconst hx hb dX2_isParallel_87 ?_
                  exact e_R (r' := 0) hx hb hr hlk (n_z (by first | exact bI_01 _ | (left; rfl) | (right; rfl) | omega)) (bI_f (by omega)) dX2_isParallel_88
                · skip
                  refine z_iconst hx hb dX2_isParallel_83 ?_
                  refine lv_goto (tgt := 88) hx hb dX2_isParallel_84 (by decide) ?_
                  exact e_R (r' := 1) hx hb hr hlk (n_z (by first | exact bI_01 _ | (left; rfl) | (right; rfl) | omega)) (bI_t (by omega)) dX2_isParallel_88
        · skip
          refine z_iconst hx hb dX2_isParallel_49 ?_
          refine lv_goto (tgt := 54) hx hb dX2_isParallel_50 (by decide) ?_
          refine lv_istore (lv' := [(5, .int (zI (1))), (4, .int (zI (((tb) - (ta)) % 12))), (0, .int (zI (ea))), (1, .int (zI (eb))), (2, .int (zI (ta))), (3, .int (zI (tb)))]) hx hb dX2_isParallel_54 hl (by decide) rfl (fun ls hl => ?_)
          refine lv_iload_n hx hb dX2_isParallel_56 rfl (lv_at hl 4 rfl) ?_
          refine lv_iload_n hx hb dX2_isParallel_57 rfl (lv_at hl 2 rfl) ?_
          refine z_icmp_ge (a := ta) (b := ea) (tgt := 70) hx hb dX2_isParallel_58 (by decide) (by omega) (by omega) (fun h_58 => ?_) (fun h_58 => ?_)
          · skip
            refine z_iconst hx hb dX2_isParallel_70 ?_
            refine lv_istore (lv' := [(6, .int (zI (0))), (5, .int (zI (1))), (4, .int (zI (((tb) - (ta)) % 12))), (0, .int (zI (ea))), (1, .int (zI (eb))), (2, .int (zI (ta))), (3, .int (zI (tb)))]) hx hb dX2_isParallel_71 hl (by decide) rfl (fun ls hl => ?_)
            refine lv_iload hx hb dX2_isParallel_73 (lv_at hl 1 rfl) ?_
            refine z_if_ne (a := 1) (tgt := 83) hx hb dX2_isParallel_75 (by decide) (by omega) (fun h_75 => ?_) (fun h_75 => ?_)
            · skip
              refine z_iconst hx hb dX2_isParallel_83 ?_
              refine lv_goto (tgt := 88) hx hb dX2_isParallel_84 (by decide) ?_
              exact e_R (r' := 1) hx hb hr hlk (n_z (by first | exact bI_01 _ | (left; rfl) | (right; rfl) | omega)) (bI_t (by omega)) dX2_isParallel_88
            · skip
              refine lv_iload hx hb dX2_isParallel_78 (lv_at hl 0 rfl) ?_
              refine z_if_eq (a := 0) (tgt := 87) hx hb dX2_isParallel_80 (by decide) (by omega) (fun h_80 => ?_) (fun h_80 => ?_)
              · skip
                refine z_iconst hx hb dX2_isParallel_87 ?_
                exact e_R (r' := 0) hx hb hr hlk (n_z (by first | exact bI_01 _ | (left; rfl) | (right; rfl) | omega)) (bI_f (by omega)) dX2_isParallel_88
              · skip
                refine z_iconst hx hb dX2_isParallel_83 ?_
                refine lv_goto (tgt := 88) hx hb dX2_isParallel_84 (by decide) ?_
                exact e_R (r' := 1) hx hb hr hlk (n_z (by first | exact bI_01 _ | (left; rfl) | (right; rfl) | omega)) (bI_t (by omega)) dX2_isParallel_88
          · skip
            refine lv_iload_n hx hb dX2_isParallel_61 rfl (lv_at hl 5 rfl) ?_
            refine lv_iload_n hx hb dX2_isParallel_62 rfl (lv_at hl 3 rfl) ?_
            refine z_icmp_ge (a := tb) (b := eb) (tgt := 70) hx hb dX2_isParallel_63 (by decide) (by omega) (by omega) (fun h_63 => ?_) (fun h_63 => ?_)
            · skip
              refine z_iconst hx hb dX2_isParallel_70 ?_
              refine lv_istore (lv' := [(6, .int (zI (0))), (5, .int (zI (1))), (4, .int (zI (((tb) - (ta)) % 12))), (0, .int (zI (ea))), (1, .int (zI (eb))), (2, .int (zI (ta))), (3, .int (zI (tb)))]) hx hb dX2_isParallel_71 hl (by decide) rfl (fun ls hl => ?_)
              refine lv_iload hx hb dX2_isParallel_73 (lv_at hl 1 rfl) ?_
              refine z_if_ne (a := 1) (tgt := 83) hx hb dX2_isParallel_75 (by decide) (by omega) (fun h_75 => ?_) (fun h_75 => ?_)
              · skip
                refine z_iconst hx hb dX2_isParallel_83 ?_
                refine lv_goto (tgt := 88) hx hb dX2_isParallel_84 (by decide) ?_
                exact e_R (r' := 1) hx hb hr hlk (n_z (by first | exact bI_01 _ | (left; rfl) | (right; rfl) | omega)) (bI_t (by omega)) dX2_isParallel_88
              · skip
                refine lv_iload hx hb dX2_isParallel_78 (lv_at hl 0 rfl) ?_
                refine z_if_eq (a := 0) (tgt := 87) hx hb dX2_isParallel_80 (by decide) (by omega) (fun h_80 => ?_) (fun h_80 => ?_)
                · skip
                  refine z_iconst hx hb dX2_isParallel_87 ?_
                  exact e_R (r' := 0) hx hb hr hlk (n_z (by first | exact bI_01 _ | (left; rfl) | (right; rfl) | omega)) (bI_f (by omega)) dX2_isParallel_88
                · skip
                  refine z_iconst hx hb dX2_isParallel_83 ?_
                  refine lv_goto (tgt := 88) hx hb dX2_isParallel_84 (by decide) ?_
                  exact e_R (r' := 1) hx hb hr hlk (n_z (by first | exact bI_01 _ | (left; rfl) | (right; rfl) | omega)) (bI_t (by omega)) dX2_isParallel_88
            · skip
              refine z_iconst hx hb dX2_isParallel_66 ?_
              refine lv_goto (tgt := 71) hx hb dX2_isParallel_67 (by decide) ?_
              refine lv_istore (lv' := [(6, .int (zI (1))), (5, .int (zI (1))), (4, .int (zI (((tb) - (ta)) % 12))), (0, .int (zI (ea))), (1, .int (zI (eb))), (2, .int (zI (ta))), (3, .int (zI (tb)))]) hx hb dX2_isParallel_71 hl (by decide) rfl (fun ls hl => ?_)
              refine lv_iload hx hb dX2_isParallel_73 (lv_at hl 1 rfl) ?_
              refine z_if_ne (a := 1) (tgt := 83) hx hb dX2_isParallel_75 (by decide) (by omega) (fun h_75 => ?_) (fun h_75 => ?_)
              · skip
                refine z_iconst hx hb dX2_isParallel_83 ?_
                refine lv_goto (tgt := 88) hx hb dX2_isParallel_84 (by decide) ?_
                exact e_R (r' := 1) hx hb hr hlk (n_z (by first | exact bI_01 _ | (left; rfl) | (right; rfl) | omega)) (bI_t (by omega)) dX2_isParallel_88
              · skip
                refine lv_iload hx hb dX2_isParallel_78 (lv_at hl 0 rfl) ?_
                refine z_if_eq (a := 1) (tgt := 87) hx hb dX2_isParallel_80 (by decide) (by omega) (fun h_80 => ?_) (fun h_80 => ?_)
                · skip
                  refine z_iconst hx hb dX2_isParallel_87 ?_
                  exact e_R (r' := 0) hx hb hr hlk (n_z (by first | exact bI_01 _ | (left; rfl) | (right; rfl) | omega)) (bI_f (by omega)) dX2_isParallel_88
                · skip
                  refine z_iconst hx hb dX2_isParallel_83 ?_
                  refine lv_goto (tgt := 88) hx hb dX2_isParallel_84 (by decide) ?_
                  exact e_R (r' := 1) hx hb hr hlk (n_z (by first | exact bI_01 _ | (left; rfl) | (right; rfl) | omega)) (bI_t (by omega)) dX2_isParallel_88
    · skip
      refine z_iconst hx hb dX2_isParallel_37 ?_
      exact e_R (r' := 0) hx hb hr hlk (n_z (by first | exact bI_01 _ | (left; rfl) | (right; rfl) | omega)) (bI_f (by omega)) dX2_isParallel_38
  · skip
    refine lv_iload hx hb dX2_isParallel_15 (lv_at hl 0 rfl) ?_
    refine z_bipush hx hb dX2_isParallel_17 (by decide) ?_
    refine z_icmp_eq (a := ((tb) - (ta)) % 12) (b := 7) (tgt := 24) hx hb dX2_isParallel_19 (by decide) (by omega) (by omega) (fun h_19 => ?_) (fun h_19 => ?_)
    · skip
      refine lv_iload hx hb dX2_isParallel_24 (lv_at hl 0 rfl) ?_
      refine lv_iload_n hx hb dX2_isParallel_26 rfl (lv_at hl 2 rfl) ?_
      refine lv_iload_n hx hb dX2_isParallel_27 rfl (lv_at hl 1 rfl) ?_
      refine z_isub (x := eb) (y := ea) hx hb dX2_isParallel_28 ?_
      refine z_bipush hx hb dX2_isParallel_29 (by decide) ?_
      refine k_R (c_SR (As := [.int (zI ((eb) - (ea))), .int (zI (12))]) (rest := [.int (zI (((tb) - (ta)) % 12))]) ⟨hx, hb, hml, hown, hts⟩ hG hS hA (c_J9_floorMod_7cf53 l G ((eb) - (ea)) 12 (by omega) (by first | exact Or.inl rfl | exact Or.inr rfl)) ⟨q_ml_RX2_257, q_st_J9_floorMod_7cf53, q_ini_RJ9, q_code_J9_floorMod_7cf53⟩ hs_J9_floorMod_7cf53 trivial ⟨by decide, by decide⟩ ⟨Nat.zero_le _, Nat.zero_le _⟩ rfl hl.1 rfl (Nat.le_of_ble_eq_true rfl) dX2_isParallel_31) ?_
      refine z_icmp_eq (a := ((tb) - (ta)) % 12) (b := ((eb) - (ea)) % 12) (tgt := 39) hx hb dX2_isParallel_34 (by decide) (by omega) (by omega) (fun h_34 => ?_) (fun h_34 => ?_)
      · skip
        refine lv_iload_n hx hb dX2_isParallel_39 rfl (lv_at hl 3 rfl) ?_
        refine lv_iload_n hx hb dX2_isParallel_40 rfl (lv_at hl 1 rfl) ?_
        refine z_icmp_le (a := ta) (b := ea) (tgt := 53) hx hb dX2_isParallel_41 (by decide) (by omega) (by omega) (fun h_41 => ?_) (fun h_41 => ?_)
        · skip
          refine z_iconst hx hb dX2_isParallel_53 ?_
          refine lv_istore (lv' := [(5, .int (zI (0))), (4, .int (zI (((tb) - (ta)) % 12))), (0, .int (zI (ea))), (1, .int (zI (eb))), (2, .int (zI (ta))), (3, .int (zI (tb)))]) hx hb dX2_isParallel_54 hl (by decide) rfl (fun ls hl => ?_)
          refine lv_iload_n hx hb dX2_isParallel_56 rfl (lv_at hl 4 rfl) ?_
          refine lv_iload_n hx hb dX2_isParallel_57 rfl (lv_at hl 2 rfl) ?_
          refine z_icmp_ge (a := ta) (b := ea) (tgt := 70) hx hb dX2_isParallel_58 (by decide) (by omega) (by omega) (fun h_58 => ?_) (fun h_58 => ?_)
          · skip
            refine z_iconst hx hb dX2_isParallel_70 ?_
            refine lv_istore (lv' := [(6, .int (zI (0))), (5, .int (zI (0))), (4, .int (zI (((tb) - (ta)) % 12))), (0, .int (zI (ea))), (1, .int (zI (eb))), (2, .int (zI (ta))), (3, .int (zI (tb)))]) hx hb dX2_isParallel_71 hl (by decide) rfl (fun ls hl => ?_)
            refine lv_iload hx hb dX2_isParallel_73 (lv_at hl 1 rfl) ?_
            refine z_if_ne (a := 0) (tgt := 83) hx hb dX2_isParallel_75 (by decide) (by omega) (fun h_75 => ?_) (fun h_75 => ?_)
            · skip
              refine z_iconst hx hb dX2_isParallel_83 ?_
              refine lv_goto (tgt := 88) hx hb dX2_isParallel_84 (by decide) ?_
              exact e_R (r' := 1) hx hb hr hlk (n_z (by first | exact bI_01 _ | (left; rfl) | (right; rfl) | omega)) (bI_t (by omega)) dX2_isParallel_88
            · skip
              refine lv_iload hx hb dX2_isParallel_78 (lv_at hl 0 rfl) ?_
              refine z_if_eq (a := 0) (tgt := 87) hx hb dX2_isParallel_80 (by decide) (by omega) (fun h_80 => ?_) (fun h_80 => ?_)
              · skip
                refine z_iconst hx hb dX2_isParallel_87 ?_
                exact e_R (r' := 0) hx hb hr hlk (n_z (by first | exact bI_01 _ | (left; rfl) | (right; rfl) | omega)) (bI_f (by omega)) dX2_isParallel_88
              · skip
                refine z_iconst hx hb dX2_isParallel_83 ?_
                refine lv_goto (tgt := 88) hx hb dX2_isParallel_84 (by decide) ?_
                exact e_R (r' := 1) hx hb hr hlk (n_z (by first | exact bI_01 _ | (left; rfl) | (right; rfl) | omega)) (bI_t (by omega)) dX2_isParallel_88
          · skip
            refine lv_iload_n hx hb dX2_isParallel_61 rfl (lv_at hl 5 rfl) ?_
            refine lv_iload_n hx hb dX2_isParallel_62 rfl (lv_at hl 3 rfl) ?_
            refine z_icmp_ge (a := tb) (b := eb) (tgt := 70) hx hb dX2_isParallel_63 (by decide) (by omega) (by omega) (fun h_63 => ?_) (fun h_63 => ?_)
            · skip
              refine z_iconst hx hb dX2_isParallel_70 ?_
              refine lv_istore (lv' := [(6, .int (zI (0))), (5, .int (zI (0))), (4, .int (zI (((tb) - (ta)) % 12))), (0, .int (zI (ea))), (1, .int (zI (eb))), (2, .int (zI (ta))), (3, .int (zI (tb)))]) hx hb dX2_isParallel_71 hl (by decide) rfl (fun ls hl => ?_)
              refine lv_iload hx hb dX2_isParallel_73 (lv_at hl 1 rfl) ?_
              refine z_if_ne (a := 0) (tgt := 83) hx hb dX2_isParallel_75 (by decide) (by omega) (fun h_75 => ?_) (fun h_75 => ?_)
              · skip
                refine z_iconst hx hb dX2_isParallel_83 ?_
                refine lv_goto (tgt := 88) hx hb dX2_isParallel_84 (by decide) ?_
                exact e_R (r' := 1) hx hb hr hlk (n_z (by first | exact bI_01 _ | (left; rfl) | (right; rfl) | omega)) (bI_t (by omega)) dX2_isParallel_88
              · skip
                refine lv_iload hx hb dX2_isParallel_78 (lv_at hl 0 rfl) ?_
                refine z_if_eq (a := 0) (tgt := 87) hx hb dX2_isParallel_80 (by decide) (by omega) (fun h_80 => ?_) (fun h_80 => ?_)
                · skip
                  refine z_iconst hx hb dX2_isParallel_87 ?_
                  exact e_R (r' := 0) hx hb hr hlk (n_z (by first | exact bI_01 _ | (left; rfl) | (right; rfl) | omega)) (bI_f (by omega)) dX2_isParallel_88
                · skip
                  refine z_iconst hx hb dX2_isParallel_83 ?_
                  refine lv_goto (tgt := 88) hx hb dX2_isParallel_84 (by decide) ?_
                  exact e_R (r' := 1) hx hb hr hlk (n_z (by first | exact bI_01 _ | (left; rfl) | (right; rfl) | omega)) (bI_t (by omega)) dX2_isParallel_88
            · skip
              refine z_iconst hx hb dX2_isParallel_66 ?_
              refine lv_goto (tgt := 71) hx hb dX2_isParallel_67 (by decide) ?_
              refine lv_istore (lv' := [(6, .int (zI (1))), (5, .int (zI (0))), (4, .int (zI (((tb) - (ta)) % 12))), (0, .int (zI (ea))), (1, .int (zI (eb))), (2, .int (zI (ta))), (3, .int (zI (tb)))]) hx hb dX2_isParallel_71 hl (by decide) rfl (fun ls hl => ?_)
              refine lv_iload hx hb dX2_isParallel_73 (lv_at hl 1 rfl) ?_
              refine z_if_ne (a := 0) (tgt := 83) hx hb dX2_isParallel_75 (by decide) (by omega) (fun h_75 => ?_) (fun h_75 => ?_)
              · skip
                refine z_iconst hx hb dX2_isParallel_83 ?_
                refine lv_goto (tgt := 88) hx hb dX2_isParallel_84 (by decide) ?_
                exact e_R (r' := 1) hx hb hr hlk (n_z (by first | exact bI_01 _ | (left; rfl) | (right; rfl) | omega)) (bI_t (by omega)) dX2_isParallel_88
              · skip
                refine lv_iload hx hb dX2_isParallel_78 (lv_at hl 0 rfl) ?_
                refine z_if_eq (a := 1) (tgt := 87) hx hb dX2_isParallel_80 (by decide) (by omega) (fun h_80 => ?_) (fun h_80 => ?_)
                · skip
                  refine z_iconst hx hb dX2_isParallel_87 ?_
                  exact e_R (r' := 0) hx hb hr hlk (n_z (by first | exact bI_01 _ | (left; rfl) | (right; rfl) | omega)) (bI_f (by omega)) dX2_isParallel_88
                · skip
                  refine z_iconst hx hb dX2_isParallel_83 ?_
                  refine lv_goto (tgt := 88) hx hb dX2_isParallel_84 (by decide) ?_
                  exact e_R (r' := 1) hx hb hr hlk (n_z (by first | exact bI_01 _ | (left; rfl) | (right; rfl) | omega)) (bI_t (by omega)) dX2_isParallel_88
        · skip
          refine lv_iload_n hx hb dX2_isParallel_44 rfl (lv_at hl 4 rfl) ?_
          refine lv_iload_n hx hb dX2_isParallel_45 rfl (lv_at hl 2 rfl) ?_
          refine z_icmp_le (a := tb) (b := eb) (tgt := 53) hx hb dX2_isParallel_46 (by decide) (by omega) (by omega) (fun h_46 => ?_) (fun h_46 => ?_)
          · skip
            refine z_iconst hx hb dX2_isParallel_53 ?_
            refine lv_istore (lv' := [(5, .int (zI (0))), (4, .int (zI (((tb) - (ta)) % 12))), (0, .int (zI (ea))), (1, .int (zI (eb))), (2, .int (zI (ta))), (3, .int (zI (tb)))]) hx hb dX2_isParallel_54 hl (by decide) rfl (fun ls hl => ?_)
            refine lv_iload_n hx hb dX2_isParallel_56 rfl (lv_at hl 4 rfl) ?_
            refine lv_iload_n hx hb dX2_isParallel_57 rfl (lv_at hl 2 rfl) ?_
            refine z_icmp_ge (a := ta) (b := ea) (tgt := 70) hx hb dX2_isParallel_58 (by decide) (by omega) (by omega) (fun h_58 => ?_) (fun h_58 => ?_)
            · skip
              refine z_iconst hx hb dX2_isParallel_70 ?_
              refine lv_istore (lv' := [(6, .int (zI (0))), (5, .int (zI (0))), (4, .int (zI (((tb) - (ta)) % 12))), (0, .int (zI (ea))), (1, .int (zI (eb))), (2, .int (zI (ta))), (3, .int (zI (tb)))]) hx hb dX2_isParallel_71 hl (by decide) rfl (fun ls hl => ?_)
              refine lv_iload hx hb dX2_isParallel_73 (lv_at hl 1 rfl) ?_
              refine z_if_ne (a := 0) (tgt := 83) hx hb dX2_isParallel_75 (by decide) (by omega) (fun h_75 => ?_) (fun h_75 => ?_)
              · skip
                refine z_iconst hx hb dX2_isParallel_83 ?_
                refine lv_goto (tgt := 88) hx hb dX2_isParallel_84 (by decide) ?_
                exact e_R (r' := 1) hx hb hr hlk (n_z (by first | exact bI_01 _ | (left; rfl) | (right; rfl) | omega)) (bI_t (by omega)) dX2_isParallel_88
              · skip
                refine lv_iload hx hb dX2_isParallel_78 (lv_at hl 0 rfl) ?_
                refine z_if_eq (a := 0) (tgt := 87) hx hb dX2_isParallel_80 (by decide) (by omega) (fun h_80 => ?_) (fun h_80 => ?_)
                · skip
                  refine z_iconst hx hb dX2_isParallel_87 ?_
                  exact e_R (r' := 0) hx hb hr hlk (n_z (by first | exact bI_01 _ | (left; rfl) | (right; rfl) | omega)) (bI_f (by omega)) dX2_isParallel_88
                · skip
                  refine z_iconst hx hb dX2_isParallel_83 ?_
                  refine lv_goto (tgt := 88) hx hb dX2_isParallel_84 (by decide) ?_
                  exact e_R (r' := 1) hx hb hr hlk (n_z (by first | exact bI_01 _ | (left; rfl) | (right; rfl) | omega)) (bI_t (by omega)) dX2_isParallel_88
            · skip
              refine lv_iload_n hx hb dX2_isParallel_61 rfl (lv_at hl 5 rfl) ?_
              refine lv_iload_n hx hb dX2_isParallel_62 rfl (lv_at hl 3 rfl) ?_
              refine z_icmp_ge (a := tb) (b := eb) (tgt := 70) hx hb dX2_isParallel_63 (by decide) (by omega) (by omega) (fun h_63 => ?_) (fun h_63 => ?_)
              · skip
                refine z_iconst hx hb dX2_isParallel_70 ?_
                refine lv_istore (lv' := [(6, .int (zI (0))), (5, .int (zI (0))), (4, .int (zI (((tb) - (ta)) % 12))), (0, .int (zI (ea))), (1, .int (zI (eb))), (2, .int (zI (ta))), (3, .int (zI (tb)))]) hx hb dX2_isParallel_71 hl (by decide) rfl (fun ls hl => ?_)
                refine lv_iload hx hb dX2_isParallel_73 (lv_at hl 1 rfl) ?_
                refine z_if_ne (a := 0) (tgt := 83) hx hb dX2_isParallel_75 (by decide) (by omega) (fun h_75 => ?_) (fun h_75 => ?_)
                · skip
                  refine z_iconst hx hb dX2_isParallel_83 ?_
                  refine lv_goto (tgt := 88) hx hb dX2_isParallel_84 (by decide) ?_
                  exact e_R (r' := 1) hx hb hr hlk (n_z (by first | exact bI_01 _ | (left; rfl) | (right; rfl) | omega)) (bI_t (by omega)) dX2_isParallel_88
                · skip
                  refine lv_iload hx hb dX2_isParallel_78 (lv_at hl 0 rfl) ?_
                  refine z_if_eq (a := 0) (tgt := 87) hx hb dX2_isParallel_80 (by decide) (by omega) (fun h_80 => ?_) (fun h_80 => ?_)
                  · skip
                    refine z_iconst hx hb dX2_isParallel_87 ?_
                    exact e_R (r' := 0) hx hb hr hlk (n_z (by first | exact bI_01 _ | (left; rfl) | (right; rfl) | omega)) (bI_f (by omega)) dX2_isParallel_88
                  · skip
                    refine z_iconst hx hb dX2_isParallel_83 ?_
                    refine lv_goto (tgt := 88) hx hb dX2_isParallel_84 (by decide) ?_
                    exact e_R (r' := 1) hx hb hr hlk (n_z (by first | exact bI_01 _ | (left; rfl) | (right; rfl) | omega)) (bI_t (by omega)) dX2_isParallel_88
              · skip
                refine z_iconst hx hb dX2_isParallel_66 ?_
                refine lv_goto (tgt := 71) hx hb dX2_isParallel_67 (by decide) ?_
                refine lv_istore (lv' := [(6, .int (zI (1))), (5, .int (zI (0))), (4, .int (zI (((tb) - (ta)) % 12))), (0, .int (zI (ea))), (1, .int (zI (eb))), (2, .int (zI (ta))), (3, .int (zI (tb)))]) hx hb dX2_isParallel_71 hl (by decide) rfl (fun ls hl => ?_)
                refine lv_iload hx hb dX2_isParallel_73 (lv_at hl 1 rfl) ?_
                refine z_if_ne (a := 0) (tgt := 83) hx hb dX2_isParallel_75 (by decide) (by omega) (fun h_75 => ?_) (fun h_75 => ?_)
                · skip
                  refine z_iconst hx hb dX2_isParallel_83 ?_
                  refine lv_goto (tgt := 88) hx hb dX2_isParallel_84 (by decide) ?_
                  exact e_R (r' := 1) hx hb hr hlk (n_z (by first | exact bI_01 _ | (left; rfl) | (right; rfl) | omega)) (bI_t (by omega)) dX2_isParallel_88
                · skip
                  refine lv_iload hx hb dX2_isParallel_78 (lv_at hl 0 rfl) ?_
                  refine z_if_eq (a := 1) (tgt := 87) hx hb dX2_isParallel_80 (by decide) (by omega) (fun h_80 => ?_) (fun h_80 => ?_)
                  · skip
                    refine z_iconst hx hb dX2_isParallel_87 ?_
                    exact e_R (r' := 0) hx hb hr hlk (n_z (by first | exact bI_01 _ | (left; rfl) | (right; rfl) | omega)) (bI_f (by omega)) dX2_isParallel_88
                  · skip
                    refine z_iconst hx hb dX2_isParallel_83 ?_
                    refine lv_goto (tgt := 88) hx hb dX2_isParallel_84 (by decide) ?_
                    exact e_R (r' := 1) hx hb hr hlk (n_z (by first | exact bI_01 _ | (left; rfl) | (right; rfl) | omega)) (bI_t (by omega)) dX2_isParallel_88
          · skip
            refine z_iconst hx hb dX2_isParallel_49 ?_
            refine lv_goto (tgt := 54) hx hb dX2_isParallel_50 (by decide) ?_
            refine lv_istore (lv' := [(5, .int (zI (1))), (4, .int (zI (((tb) - (ta)) % 12))), (0, .int (zI (ea))), (1, .int (zI (eb))), (2, .int (zI (ta))), (3, .int (zI (tb)))]) hx hb dX2_isParallel_54 hl (by decide) rfl (fun ls hl => ?_)
            refine lv_iload_n hx hb dX2_isParallel_56 rfl (lv_at hl 4 rfl) ?_
            refine lv_iload_n hx hb dX2_isParallel_57 rfl (lv_at hl 2 rfl) ?_
            refine z_icmp_ge (a := ta) (b := ea) (tgt := 70) hx hb dX2_isParallel_58 (by decide) (by omega) (by omega) (fun h_58 => ?_) (fun h_58 => ?_)
            · skip
              refine z_iconst hx hb dX2_isParallel_70 ?_
              refine lv_istore (lv' := [(6, .int (zI (0))), (5, .int (zI (1))), (4, .int (zI (((tb) - (ta)) % 12))), (0, .int (zI (ea))), (1, .int (zI (eb))), (2, .int (zI (ta))), (3, .int (zI (tb)))]) hx hb dX2_isParallel_71 hl (by decide) rfl (fun ls hl => ?_)
              refine lv_iload hx hb dX2_isParallel_73 (lv_at hl 1 rfl) ?_
              refine z_if_ne (a := 1) (tgt := 83) hx hb dX2_isParallel_75 (by decide) (by omega) (fun h_75 => ?_) (fun h_75 => ?_)
              · skip
                refine z_iconst hx hb dX2_isParallel_83 ?_
                refine lv_goto (tgt := 88) hx hb dX2_isParallel_84 (by decide) ?_
                exact e_R (r' := 1) hx hb hr hlk (n_z (by first | exact bI_01 _ | (left; rfl) | (right; rfl) | omega)) (bI_t (by omega)) dX2_isParallel_88
              · skip
                refine lv_iload hx hb dX2_isParallel_78 (lv_at hl 0 rfl) ?_
                refine z_if_eq (a := 0) (tgt := 87) hx hb dX2_isParallel_80 (by decide) (by omega) (fun h_80 => ?_) (fun h_80 => ?_)
                · skip
                  refine z_iconst hx hb dX2_isParallel_87 ?_
                  exact e_R (r' := 0) hx hb hr hlk (n_z (by first | exact bI_01 _ | (left; rfl) | (right; rfl) | omega)) (bI_f (by omega)) dX2_isParallel_88
                · skip
                  refine z_iconst hx hb dX2_isParallel_83 ?_
                  refine lv_goto (tgt := 88) hx hb dX2_isParallel_84 (by decide) ?_
                  exact e_R (r' := 1) hx hb hr hlk (n_z (by first | exact bI_01 _ | (left; rfl) | (right; rfl) | omega)) (bI_t (by omega)) dX2_isParallel_88
            · skip
              refine lv_iload_n hx hb dX2_isParallel_61 rfl (lv_at hl 5 rfl) ?_
              refine lv_iload_n hx hb dX2_isParallel_62 rfl (lv_at hl 3 rfl) ?_
              refine z_icmp_ge (a := tb) (b := eb) (tgt := 70) hx hb dX2_isParallel_63 (by decide) (by omega) (by omega) (fun h_63 => ?_) (fun h_63 => ?_)
              · skip
                refine z_iconst hx hb dX2_isParallel_70 ?_
                refine lv_istore (lv' := [(6, .int (zI (0))), (5, .int (zI (1))), (4, .int (zI (((tb) - (ta)) % 12))), (0, .int (zI (ea))), (1, .int (zI (eb))), (2, .int (zI (ta))), (3, .int (zI (tb)))]) hx hb dX2_isParallel_71 hl (by decide) rfl (fun ls hl => ?_)
                refine lv_iload hx hb dX2_isParallel_73 (lv_at hl 1 rfl) ?_
                refine z_if_ne (a := 1) (tgt := 83) hx hb dX2_isParallel_75 (by decide) (by omega) (fun h_75 => ?_) (fun h_75 => ?_)
                · skip
                  refine z_iconst hx hb dX2_isParallel_83 ?_
                  refine lv_goto (tgt := 88) hx hb dX2_isParallel_84 (by decide) ?_
                  exact e_R (r' := 1) hx hb hr hlk (n_z (by first | exact bI_01 _ | (left; rfl) | (right; rfl) | omega)) (bI_t (by omega)) dX2_isParallel_88
                · skip
                  refine lv_iload hx hb dX2_isParallel_78 (lv_at hl 0 rfl) ?_
                  refine z_if_eq (a := 0) (tgt := 87) hx hb dX2_isParallel_80 (by decide) (by omega) (fun h_80 => ?_) (fun h_80 => ?_)
                  · skip
                    refine z_iconst hx hb dX2_isParallel_87 ?_
                    exact e_R (r' := 0) hx hb hr hlk (n_z (by first | exact bI_01 _ | (left; rfl) | (right; rfl) | omega)) (bI_f (by omega)) dX2_isParallel_88
                  · skip
                    refine z_iconst hx hb dX2_isParallel_83 ?_
                    refine lv_goto (tgt := 88) hx hb dX2_isParallel_84 (by decide) ?_
                    exact e_R (r' := 1) hx hb hr hlk (n_z (by first | exact bI_01 _ | (left; rfl) | (right; rfl) | omega)) (bI_t (by omega)) dX2_isParallel_88
              · skip
                refine z_iconst hx hb dX2_isParallel_66 ?_
                refine lv_goto (tgt := 71) hx hb dX2_isParallel_67 (by decide) ?_
                refine lv_istore (lv' := [(6, .int (zI (1))), (5, .int (zI (1))), (4, .int (zI (((tb) - (ta)) % 12))), (0, .int (zI (ea))), (1, .int (zI (eb))), (2, .int (zI (ta))), (3, .int (zI (tb)))]) hx hb dX2_isParallel_71 hl (by decide) rfl (fun ls hl => ?_)
                refine lv_iload hx hb dX2_isParallel_73 (lv_at hl 1 rfl) ?_
                refine z_if_ne (a := 1) (tgt := 83) hx hb dX2_isParallel_75 (by decide) (by omega) (fun h_75 => ?_) (fun h_75 => ?_)
                · skip
                  refine z_iconst hx hb dX2_isParallel_83 ?_
                  refine lv_goto (tgt := 88) hx hb dX2_isParallel_84 (by decide) ?_
                  exact e_R (r' := 1) hx hb hr hlk (n_z (by first | exact bI_01 _ | (left; rfl) | (right; rfl) | omega)) (bI_t (by omega)) dX2_isParallel_88
                · skip
                  refine lv_iload hx hb dX2_isParallel_78 (lv_at hl 0 rfl) ?_
                  refine z_if_eq (a := 1) (tgt := 87) hx hb dX2_isParallel_80 (by decide) (by omega) (fun h_80 => ?_) (fun h_80 => ?_)
                  · skip
                    refine z_iconst hx hb dX2_isParallel_87 ?_
                    exact e_R (r' := 0) hx hb hr hlk (n_z (by first | exact bI_01 _ | (left; rfl) | (right; rfl) | omega)) (bI_f (by omega)) dX2_isParallel_88
                  · skip
                    refine z_iconst hx hb dX2_isParallel_83 ?_
                    refine lv_goto (tgt := 88) hx hb dX2_isParallel_84 (by decide) ?_
                    exact e_R (r' := 1) hx hb hr hlk (n_z (by first | exact bI_01 _ | (left; rfl) | (right; rfl) | omega)) (bI_t (by omega)) dX2_isParallel_88
      · skip
        refine z_iconst hx hb dX2_isParallel_37 ?_
        exact e_R (r' := 0) hx hb hr hlk (n_z (by first | exact bI_01 _ | (left; rfl) | (right; rfl) | omega)) (bI_f (by omega)) dX2_isParallel_38
    · skip
      refine z_iconst hx hb dX2_isParallel_22 ?_
      exact e_R (r' := 0) hx hb hr hlk (n_z (by first | exact bI_01 _ | (left; rfl) | (right; rfl) | omega)) (bI_f (by omega)) dX2_isParallel_23
