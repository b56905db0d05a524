/-! numbers of the machine by whole numbers -/
def zI (z : Int) : Int32 := Int32.ofInt z
theorem zI_toInt {a : Int} (h : -2147483648 ≤ a ∧ a ≤ 2147483647) : (zI a).toInt = a := Int32.toInt_ofInt_of_le (by omega) (by omega)
theorem zI_of (x : Int32) : zI x.toInt = x := Int32.ofInt_toInt x
theorem zI_rng (x : Int32) : -2147483648 ≤ x.toInt ∧ x.toInt ≤ 2147483647 := by
  have h1 := Int32.toInt_lt x
  have h2 := Int32.le_toInt x
  omega
theorem zI_add (a b : Int) : zI a + zI b = zI (a + b) := (Int32.ofInt_add a b).symm
theorem zI_sub (a b : Int) : zI a - zI b = zI (a - b) := (Int32.ofInt_sub a b).symm
theorem zI_mul (a b : Int) : zI a * zI b = zI (a * b) := (Int32.ofInt_mul a b).symm
theorem zI_neg (a : Int) : -zI a = zI (-a) := (Int32.ofInt_neg a).symm
theorem zI_lt {a b : Int} (ha : -2147483648 ≤ a ∧ a ≤ 2147483647) (hb : -2147483648 ≤ b ∧ b ≤ 2147483647) : zI a < zI b ↔ a < b := by
  rw [Int32.lt_iff_toInt_lt, zI_toInt ha, zI_toInt hb]
theorem zI_le {a b : Int} (ha : -2147483648 ≤ a ∧ a ≤ 2147483647) (hb : -2147483648 ≤ b ∧ b ≤ 2147483647) : zI a ≤ zI b ↔ a ≤ b := by
  rw [Int32.le_iff_toInt_le, zI_toInt ha, zI_toInt hb]
theorem zI_eq {a b : Int} (ha : -2147483648 ≤ a ∧ a ≤ 2147483647) (hb : -2147483648 ≤ b ∧ b ≤ 2147483647) : zI a = zI b ↔ a = b := by
  rw [← Int32.toInt_inj, zI_toInt ha, zI_toInt hb]
theorem zI_0 : zI 0 = 0 := rfl
theorem zI_nat (n : Nat) : zI (n : Int) = nI n := Int32.ofInt_eq_ofNat
theorem zI_cl {i : Int} (h0 : 0 ≤ i) (h1 : i ≤ 2147483647) : (zI i).toNatClampNeg = i.toNat := by
  show (zI i).toInt.toNat = i.toNat
  rw [zI_toInt ⟨by omega, h1⟩]
theorem zI_in {i : Int} {n : Nat} (h0 : 0 ≤ i) (h : i < n) (hn : n ≤ 2147483647) : vp_in (zI i) n := by
  rw [vp_in_iff, zI_toInt ⟨by omega, by omega⟩]
  exact ⟨h0, h⟩
theorem zI_div {a b : Int} (ha : 0 ≤ a ∧ a ≤ 2147483647) (hb : 0 < b ∧ b ≤ 2147483647) : zI a / zI b = zI (a / b) := by
  obtain ⟨x, rfl⟩ : ∃ x : Nat, a = x := ⟨a.toNat, by omega⟩
  obtain ⟨y, rfl⟩ : ∃ y : Nat, b = y := ⟨b.toNat, by omega⟩
  rw [zI_nat, zI_nat, pk_div (by omega) (by omega) (by omega), ← zI_nat]
  congr 1
theorem zI_ne0 {b : Int} (hb : 0 < b ∧ b ≤ 2147483647) : ¬ zI b = 0 := by
  rw [← zI_0, zI_eq ⟨by omega, by omega⟩ ⟨by omega, by omega⟩]
  omega
theorem zI_shr1 {a : Int} (ha : 0 ≤ a ∧ a ≤ 2147483647) : zI a >>> (zI 1 &&& 31) = zI (a / 2) := by
  obtain ⟨x, rfl⟩ : ∃ x : Nat, a = x := ⟨a.toNat, by omega⟩
  rw [zI_nat, show (zI 1 &&& 31) = 1 by decide, pk_shrN (by omega) 1 1 (by decide), ← zI_nat]
  congr 1
theorem zI_and1 {a : Int} (ha : 0 ≤ a ∧ a ≤ 2147483647) : zI a &&& zI 1 = zI (a % 2) := by
  obtain ⟨x, rfl⟩ : ∃ x : Nat, a = x := ⟨a.toNat, by omega⟩
  rw [zI_nat, pk_andN (by omega) 1 (by decide), ← zI_nat]
  congr 1
/-- an array's contents -/
abbrev zA (F : Int → Int) : Nat → Int32 := fun k => zI (F (k : Int))
def zU (F : Int → Int) (i x : Int) : Int → Int := fun j => if j = i then x else F j
def zR (T : Nat → Int → Int) (w : Nat) (i x : Int) : Nat → Int → Int := fun v j => if v = w ∧ j = i then x else T v j
def zN (F : Nat → Int) (k : Nat) (x : Int) : Nat → Int := fun j => if j = k then x else F j
theorem zU_s (F : Int → Int) (i x : Int) : zU F i x i = x := if_pos rfl
theorem zU_n {F : Int → Int} {i x j : Int} (h : j ≠ i) : zU F i x j = F j := if_neg h
theorem zR_s (T : Nat → Int → Int) (w : Nat) (i x : Int) : zR T w i x w i = x := if_pos ⟨rfl, rfl⟩
theorem zR_n {T : Nat → Int → Int} {w v : Nat} {i x j : Int} (h : v ≠ w ∨ j ≠ i) : zR T w i x v j = T v j := if_neg (fun q => h.elim (fun z => z q.1) (fun z => z q.2))
theorem zN_s (F : Nat → Int) (k : Nat) (x : Int) : zN F k x k = x := if_pos rfl
theorem zN_n {F : Nat → Int} {k j : Nat} {x : Int} (h : j ≠ k) : zN F k x j = F j := if_neg h
theorem zR_row (T : Nat → Int → Int) (w : Nat) (i x : Int) : zR T w i x w = zU (T w) i x := by
  funext j
  unfold zR zU
  simp
theorem zR_off {T : Nat → Int → Int} {w v : Nat} (i x : Int) (h : v ≠ w) : zR T w i x v = T v := by
  funext j
  unfold zR
  simp [h]
theorem zA_at {F : Int → Int} {i : Int} (h0 : 0 ≤ i) (h1 : i ≤ 2147483647) : (zA F) (zI i).toNatClampNeg = zI (F i) := by
  show zI (F ((zI i).toNatClampNeg : Int)) = _
  rw [zI_cl h0 h1, Int.toNat_of_nonneg h0]
theorem zA_up {F : Int → Int} {i x : Int} (h0 : 0 ≤ i) (h1 : i ≤ 2147483647) : upd (zA F) (zI i).toNatClampNeg (zI x) = zA (zU F i x) := by
  funext j
  rw [zI_cl h0 h1]
  unfold upd zU
  by_cases h : j = i.toNat
  · have h2 : (j : Int) = i := by omega
    rw [if_pos h]
    show _ = zI (if (j : Int) = i then x else F j)
    rw [if_pos h2]
  · have h2 : ¬ (j : Int) = i := by omega
    rw [if_neg h]
    show _ = zI (if (j : Int) = i then x else F j)
    rw [if_neg h2]
/-! the classes' numbers, what never changes -/
abbrev zG : Type := va_G × (Nat → ClassId) × Nat
abbrev zT (G : zG) : List (ClassId × FieldType) := [(G.2.1 0, .int), (G.2.1 1, .array .int), (G.2.1 2, .object RX1), (G.2.1 3, .array (.array .int))]
def nestM : List (String × Nat × MethodName × String) := [(RX2, 17, yX0_init, RX2), (RX2, 43, yX1_init, RX2), (RX1, 117, yX2_signOfKey, RX2), (RX1, 127, yX2_wholeParts, RX2), (RX1, 64, yX2_toneOf, RX2), (RL, 11, yX3_init, RL)]
def nestF : List (String × Nat × String × String × String × String) := [(RX1, 55, "ScorePress", "VALUE_TICKS", "[I", RX2), (RX1, 58, "ScorePress", "VALUE_PARTS", "[I", RX2), (RX1, 61, "ScorePress", "VALUE_DOTS", "[I", RX2)]
def statT : List (String × String × List Int) := [("ScorePress", "STEP_TONES", [0, 2, 4, 5, 7, 9, 11]), ("ScorePress", "SHARP_PLACES", [1, 3, 5, 0, 2, 4, 6]), ("ScorePress", "VALUE_PARTS", [1, 1, 1, 2, 2, 2, 4, 4, 4, 8, 8, 8, 16, 16, 32]), ("ScorePress", "VALUE_DOTS", [2, 1, 0, 2, 1, 0, 2, 1, 0, 2, 1, 0, 1, 0, 0]), ("ScorePress", "VALUE_TICKS", [672, 576, 384, 336, 288, 192, 168, 144, 96, 84, 72, 48, 36, 24, 12])]
/-- a table's content, by its place in statT -/
def tb (j : Nat) (k : Int) : Int := ((statT.getD j ("", "", [])).2.2).getD k.toNat 0
def zlen (j : Nat) : Nat := ((statT.getD j ("", "", [])).2.2).length
def strT : List (Nat × String) := [(46, "no such bar"), (57, "a voice has elements"), (64, "no such key"), (69, "there are 4 voices"), (73, "no such number of the score"), (88, "no such value"), (217, "no such voice"), (101, "no such value or pitch"), (232, "the voice would have more than 200 elements"), (234, "the voice would end behind the bar 99"), (219, "no such element"), (139, "no such number of an element"), (141, "no such number of a pitch"), (134, "the element is a rest"), (146, "no such number of a voice"), (186, "no such event"), (188, "no such number of an event")]
abbrev xIO : String := "java/lang/IndexOutOfBoundsException"
abbrev xIA : String := "java/lang/IllegalArgumentException"
abbrev xIS : String := "java/lang/IllegalStateException"
abbrev xNm : List String := ["java/lang/RuntimeException", "java/lang/Exception"]
/-- the words of a throw that aren't good ones -/
def thrW : List Cond := (vx_atS RX2 75 xIO xNm ++ (vx_atS RX2 48 xIA xNm ++ vx_atS RX2 59 xIS xNm)).filter (fun w => !goodWord w)
theorem thrW_k : ∀ w ∈ thrW, w.keepsFace = true ∧ w.onTables = true := by decide +kernel
theorem thrW_t : ∀ w ∈ thrW, w ∈ lw_tbl := by decide +kernel
theorem thrA_t : ∀ w ∈ vx_atS RX2 75 xIO xNm ++ (vx_atS RX2 48 xIA xNm ++ vx_atS RX2 59 xIS xNm), w ∈ lw_tbl := by decide +kernel
theorem thrW_w {w : Cond} {s U : State} (hw : w ∈ thrW) (hW : s.WarmedH U.vm) (h : va_Nw w s) : va_Nw w U :=
  va_tabs (thrW_k w hw).2 (rfl : (s.setVm U.vm).vm = U.vm) (Cond.before_shiftedFace (State.Shifted.of_warmed hW) w (thrW_k w hw).1 h)
/-- what the Hand and the script ask: arrays of arrays can be made; the script at the cell G.2.1 10, of G.2.1 11 ints; the text of keySign at G.2.1 12, its bytes at G.2.1 13 -/
def XH (G : zG) (s : State) : Prop :=
  (va_Nw (.arrayOver (.array .int)) s ∧ va_Nw (.arrayOver (.array (.array .int))) s ∧ va_AO RX1 s) ∧ (G.2.1 10 < G.2.2 ∧ G.2.1 11 ≤ 260 ∧ ∃ xs : Nat → Int32, va_X (G.2.1 10) (G.2.1 11) xs s s.heap) ∧
  (vk_S 1 [7] [[51, 48, 52, 49, 53, 50, 54]] (fun _ => G.2.1 12) (fun _ => G.2.1 13) (fun a => G.2.2 ≤ a) s s.heap ∧ vk_R RX3 57 "3041526" (G.2.1 12) s) ∧ va_Z "java/lang/String" "COMPACT_STRINGS" "Z" (.int 1) (fun a => G.2.2 ≤ a) s s.heap
theorem XH_next {G : zG} {s U : State} (h : XH G s) (h2 : G.2.2 ≤ s.heap.size) (hW : s.WarmedH U.vm) (hk : ∀ a : Nat, a < s.heap.size → ¬ G.2.2 ≤ a → U.heap[a]? = s.heap[a]?) : XH G U := by
  obtain ⟨⟨a1, a2, a3⟩, ⟨b1, b2, xs, b3⟩, ⟨c1, c2⟩, d⟩ := h
  exact ⟨⟨Jvm.Stand.arrayOver_alikeB hW.alike a1, Jvm.Stand.arrayOver_alikeB hW.alike a2, a3.moved hW.alike⟩, ⟨b1, b2, xs, (b3.moved hW.alike).kept (hk _ (Nat.lt_of_lt_of_le b1 h2) (Nat.not_le.mpr b1))⟩, ⟨(c1.moved hW.alike).kept hk, c2.warm hW⟩, (d.moved hW.alike).kept hk⟩
def GK (G : zG) (s : State) : Prop :=
  va_K G.1 vwCl (zT G) s ∧ G.2.2 ≤ s.heap.size ∧ (∀ q ∈ nestM, va_Nw (.methodLinkNest q.1 q.2.1 q.2.2.1 q.2.2.2) s) ∧ (∀ q ∈ nestF, va_Nw (.fieldLinkNest q.1 q.2.1 q.2.2.1 q.2.2.2.1 q.2.2.2.2.1 q.2.2.2.2.2) s) ∧
  (∀ q ∈ statT, ∃ t : Nat, va_Z q.1 q.2.1 "[I" (.ref t) (fun a => G.2.2 ≤ a) s s.heap ∧ va_T .int t q.2.2.length (fun k => .int (zI (q.2.2.getD k 0))) (fun a => G.2.2 ≤ a) s s.heap) ∧
  vx_Zq Bundle.tN "UNASSIGNED_STACK" Bundle.steD (fun a => G.2.2 ≤ a) s s.heap ∧ vx_Zq Bundle.tN "SUPPRESSED_SENTINEL" Bundle.listD (fun a => G.2.2 ≤ a) s s.heap ∧ (∀ q ∈ strT, ∃ a : Nat, vk_R RX2 q.1 q.2 a s) ∧ (∀ w ∈ thrW, va_Nw w s) ∧ XH G s
theorem GK_next {G : zG} {s U : State} (h : GK G s) (hW : s.WarmedH U.vm) (hs : G.2.2 ≤ U.heap.size) (hk : ∀ a : Nat, a < s.heap.size → ¬ G.2.2 ≤ a → U.heap[a]? = s.heap[a]?) : GK G U := by
  obtain ⟨h1, h2, h3, h4, h5, h6, h7, h8, h9, h10⟩ := h
  refine ⟨h1.moved hW.alike, hs, fun q hq => va_Nw.warmM hW (h3 q hq), fun q hq => va_Nw.warmF hW (h4 q hq), fun q hq => ?_, (h6.moved hW.alike).kept hk, (h7.moved hW.alike).kept hk, fun q hq => ?_, fun w hw => thrW_w hw hW (h9 w hw), XH_next h10 h2 hW hk⟩
  · obtain ⟨t, a, b⟩ := h5 q hq
    exact ⟨t, (a.moved hW.alike).kept hk, (b.moved hW.alike).kept hk⟩
  · obtain ⟨a, b⟩ := h8 q hq
    exact ⟨a, b.warm hW⟩
theorem GK_blind {G : zG} {U : State} (g : JFrame) (mk : MethodId) (a : Array Value) (h : GK G U) : GK G (U.calling g mk a) :=
  GK_next (U := U.calling g mk a) h (State.WarmedH.refl U) h.2.1 (fun _ _ _ => rfl)
theorem GK_call {G : zG} {s U : State} {A : Nat → Prop} {H : Heap} {locs : List Loc} (h : GK G s) (hS : va_S A s.heap H locs) (hA : ∀ q, A q → G.2.2 ≤ q) (hU : U.heap = H) (hW : s.WarmedH U.vm) : GK G U :=
  GK_next h hW (by rw [hU]; exact Nat.le_trans h.2.1 hS.1) (fun a h1 h2 => by rw [hU]; exact hS.2.1 a h1 (fun q => h2 (hA a q)))
/-! cells by places: N places at the addresses ad, place k holds en k -/
def PP (G : zG) (N : Nat) (ad : Nat → Nat) (en : Nat → va_E) (H : Heap) : Prop := ((∀ i j, i < N → j < N → ad i = ad j → i = j) ∧ ∀ k, k < N → G.2.2 ≤ ad k) ∧ ∀ k, k < N → va_at G.1 vwCl (ad k, en k) H
theorem PP.lt {G : zG} {N : Nat} {ad : Nat → Nat} {en : Nat → va_E} {H : Heap} (h : PP G N ad en H) {k : Nat} (hk : k < N) : ad k < H.size := (h.2 k hk).lt
theorem PP.upd {G : zG} {N : Nat} {ad : Nat → Nat} {en en' : Nat → va_E} {H H1 : Heap} (h : PP G N ad en H) {k : Nat} {e : va_E} (hk : k < N) (he : va_at G.1 vwCl (ad k, e) H1) (ho : ∀ q : Nat, q ≠ ad k → H1[q]? = H[q]?) (h1 : en' k = e) (h2 : ∀ j, j < N → j ≠ k → en' j = en j) : PP G N ad en' H1 := by
  refine ⟨h.1, fun j hj => ?_⟩
  by_cases hjk : j = k
  · subst hjk
    rw [h1]
    exact he
  · rw [h2 j hj hjk]
    exact (h.2 j hj).kept (ho _ (fun q => hjk (h.1.1 j k hj hk q)))
theorem PP.kept {G : zG} {N : Nat} {ad : Nat → Nat} {en : Nat → va_E} {H H1 : Heap} (h : PP G N ad en H) (ho : ∀ k, k < N → H1[ad k]? = H[ad k]?) : PP G N ad en H1 := ⟨h.1, fun k hk => (h.2 k hk).kept (ho k hk)⟩
theorem PP.congr {G : zG} {N : Nat} {ad : Nat → Nat} {en en' : Nat → va_E} {H : Heap} (h : PP G N ad en H) (he : ∀ k, k < N → en' k = en k) : PP G N ad en' H := ⟨h.1, fun k hk => by rw [he k hk]; exact h.2 k hk⟩
theorem P1 {G : zG} {a : Nat} {e : va_E} {H : Heap} (h : va_at G.1 vwCl (a, e) H) : va_P G.1 vwCl [(a, e)] H := fun k q hq => by
  cases k with
  | zero => cases hq; exact h
  | succ k => simp at hq
/-- which cells a method may change: N places, and those that it makes -/
def fA (N : Nat) (ad : Nat → Nat) (sz : Nat) : Nat → Prop := fun q => (∃ k, k < N ∧ q = ad k) ∨ sz ≤ q
theorem fA_in {N : Nat} {ad : Nat → Nat} {sz k : Nat} (h : k < N) : fA N ad sz (ad k) := Or.inl ⟨k, h, rfl⟩
theorem va_at_rec {G : zG} {H : Heap} {s : State} {a ci : Nat} {fs : List Value} {C : String} {T : u_T} {N : Nat} (hK : va_K G.1 vwCl (zT G) s) (h : va_at G.1 vwCl (a, .inr (ci, fs)) H) (hc : vwCl[ci]? = some (C, T, N)) : ∃ cell : Cell, H[a]? = some cell ∧ cell.vm.isStatics = false ∧ s.vm.findClass C = some cell.cls := va_recv hK (P1 h) hc (q0 := 0) rfl
section ZR
variable {p : Program} {l : Launch} {e : Env} {R : Room} {s : State} {m : MethodId} {args : Array Value} {below : List Frame} {meth : Method} {c : Code} {H : Heap} {locs : List Loc} {cells slots : Nat} {Q : State → Prop}
variable {cc : ByteArray} {pc : Nat} {ls : Array Slot} {rest : List Value} {A : Nat → Prop} {H0 : Heap} {a : Nat}
theorem z_iconst (hexec : p.tables.exec = Jvm.exec) (hb : c.code = cc) {n : Int} (hdg : decode cc pc = .ok (.iconst n, 1)) (k : W p l e R s m args below meth c H locs cells slots Q (F0 m (pc + 1) ls (.int (zI n) :: rest))) : W p l e R s m args below meth c H locs cells slots Q (F0 m pc ls rest) := lv_iconst hexec hb hdg rfl k
theorem z_bipush (hexec : p.tables.exec = Jvm.exec) (hb : c.code = cc) {n : Int} (hdg : decode cc pc = .ok (.bipush n, 2)) (hv : (Int8.ofInt n).toInt32 = zI n) (k : W p l e R s m args below meth c H locs cells slots Q (F0 m (pc + 2) ls (.int (zI n) :: rest))) : W p l e R s m args below meth c H locs cells slots Q (F0 m pc ls rest) := lv_bipush hexec hb hdg hv k
theorem z_sipush (hexec : p.tables.exec = Jvm.exec) (hb : c.code = cc) {n : Int} (hdg : decode cc pc = .ok (.sipush n, 3)) (hv : (Int16.ofInt n).toInt32 = zI n) (k : W p l e R s m args below meth c H locs cells slots Q (F0 m (pc + 3) ls (.int (zI n) :: rest))) : W p l e R s m args below meth c H locs cells slots Q (F0 m pc ls rest) := lv_sipush hexec hb hdg hv k
theorem z_iadd (hexec : p.tables.exec = Jvm.exec) (hb : c.code = cc) {x y : Int} (hdg : decode cc pc = .ok (.iadd, 1)) (k : W p l e R s m args below meth c H locs cells slots Q (F0 m (pc + 1) ls (.int (zI (x + y)) :: rest))) : W p l e R s m args below meth c H locs cells slots Q (F0 m pc ls (.int (zI y) :: .int (zI x) :: rest)) := lv_iadd hexec hb hdg (by rw [zI_add]; exact k)
theorem z_isub (hexec : p.tables.exec = Jvm.exec) (hb : c.code = cc) {x y : Int} (hdg : decode cc pc = .ok (.isub, 1)) (k : W p l e R s m args below meth c H locs cells slots Q (F0 m (pc + 1) ls (.int (zI (x - y)) :: rest))) : W p l e R s m args below meth c H locs cells slots Q (F0 m pc ls (.int (zI y) :: .int (zI x) :: rest)) := lv_isub hexec hb hdg (by rw [zI_sub]; exact k)
theorem z_imul (hexec : p.tables.exec = Jvm.exec) (hb : c.code = cc) {x y : Int} (hdg : decode cc pc = .ok (.imul, 1)) (k : W p l e R s m args below meth c H locs cells slots Q (F0 m (pc + 1) ls (.int (zI (x * y)) :: rest))) : W p l e R s m args below meth c H locs cells slots Q (F0 m pc ls (.int (zI y) :: .int (zI x) :: rest)) := lv_imul hexec hb hdg (by rw [zI_mul]; exact k)
theorem z_ineg (hexec : p.tables.exec = Jvm.exec) (hb : c.code = cc) {x : Int} (hdg : decode cc pc = .ok (.ineg, 1)) (k : W p l e R s m args below meth c H locs cells slots Q (F0 m (pc + 1) ls (.int (zI (-x)) :: rest))) : W p l e R s m args below meth c H locs cells slots Q (F0 m pc ls (.int (zI x) :: rest)) := lv_ineg hexec hb hdg (by rw [zI_neg]; exact k)
theorem z_idiv (hexec : p.tables.exec = Jvm.exec) (hb : c.code = cc) {x y : Int} (hdg : decode cc pc = .ok (.idiv, 1)) (hx : 0 ≤ x ∧ x ≤ 2147483647) (hy : 0 < y ∧ y ≤ 2147483647) (k : W p l e R s m args below meth c H locs cells slots Q (F0 m (pc + 1) ls (.int (zI (x / y)) :: rest))) : W p l e R s m args below meth c H locs cells slots Q (F0 m pc ls (.int (zI y) :: .int (zI x) :: rest)) := lv_idiv hexec hb hdg (zI_ne0 hy) (by rw [zI_div hx hy]; exact k)
theorem z_ishr1 (hexec : p.tables.exec = Jvm.exec) (hb : c.code = cc) {x : Int} (hdg : decode cc pc = .ok (.ishr, 1)) (hx : 0 ≤ x ∧ x ≤ 2147483647) (k : W p l e R s m args below meth c H locs cells slots Q (F0 m (pc + 1) ls (.int (zI (x / 2)) :: rest))) : W p l e R s m args below meth c H locs cells slots Q (F0 m pc ls (.int (zI 1) :: .int (zI x) :: rest)) := lv_ishr hexec hb hdg (by rw [zI_shr1 hx]; exact k)
theorem z_iand1 (hexec : p.tables.exec = Jvm.exec) (hb : c.code = cc) {x : Int} (hdg : decode cc pc = .ok (.iand, 1)) (hx : 0 ≤ x ∧ x ≤ 2147483647) (k : W p l e R s m args below meth c H locs cells slots Q (F0 m (pc + 1) ls (.int (zI (x % 2)) :: rest))) : W p l e R s m args below meth c H locs cells slots Q (F0 m pc ls (.int (zI 1) :: .int (zI x) :: rest)) := lv_iand hexec hb hdg (by rw [zI_and1 hx]; exact k)
theorem z_istore_n (hexec : p.tables.exec = Jvm.exec) (hb : c.code = cc) {k : Fin 4} {i nL : Nat} {x : Int32} {lv lv' : List (Nat × Value)} (hdg : decode cc pc = .ok (.istore_n k, 1)) (hi : (k : Nat) = i) (h : lv_has ls nL lv) (hn : i < nL) (hl : (i, Value.int x) :: lv.filter (fun q => !(q.1 == i) && !(q.1 + 1 == i && q.2.category == 2)) = lv') (kk : ∀ ls' : Array Slot, lv_has ls' nL lv' → W p l e R s m args below meth c H locs cells slots Q (F0 m (pc + 1) ls' rest)) : W p l e R s m args below meth c H locs cells slots Q (F0 m pc ls (.int x :: rest)) := lv_istore_n hexec hb hdg hi h hn hl kk
theorem z_iinc (hexec : p.tables.exec = Jvm.exec) (hb : c.code = cc) {i nL k : Nat} {n x : Int} {lv lv' : List (Nat × Value)} (hdg : decode cc pc = .ok (.iinc i n, 3)) (h : lv_has ls nL lv) (hk : lv[k]? = some (i, .int (zI x))) (hn : i < nL) (hl : (i, Value.int (zI (x + n))) :: lv.filter (fun q => !(q.1 == i) && !(q.1 + 1 == i && q.2.category == 2)) = lv') (kk : ∀ ls' : Array Slot, lv_has ls' nL lv' → W p l e R s m args below meth c H locs cells slots Q (F0 m (pc + 3) ls' rest)) : W p l e R s m args below meth c H locs cells slots Q (F0 m pc ls rest) := lv_iinc hexec hb hdg h hk (zI_add x n) hn hl kk
theorem z_icmp_eq (hexec : p.tables.exec = Jvm.exec) (hb : c.code = cc) {a b off : Int} {tgt : Nat} (hdg : decode cc pc = .ok (.if_icmp .eq off, 3)) (ht : (pc : Int) + off = (tgt : Int)) (ha9 : -2147483648 ≤ a ∧ a ≤ 2147483647) (hb9 : -2147483648 ≤ b ∧ b ≤ 2147483647) (kt : a = b → W p l e R s m args below meth c H locs cells slots Q (F0 m tgt ls rest)) (kf : ¬ a = b → W p l e R s m args below meth c H locs cells slots Q (F0 m (pc + 3) ls rest)) : W p l e R s m args below meth c H locs cells slots Q (F0 m pc ls (.int (zI b) :: .int (zI a) :: rest)) := lv_icmp_eq hexec hb hdg ht (fun h => kt ((zI_eq ha9 hb9).mp h)) (fun h => kf (fun q => h ((zI_eq ha9 hb9).mpr q)))
theorem z_icmp_ne (hexec : p.tables.exec = Jvm.exec) (hb : c.code = cc) {a b off : Int} {tgt : Nat} (hdg : decode cc pc = .ok (.if_icmp .ne off, 3)) (ht : (pc : Int) + off = (tgt : Int)) (ha9 : -2147483648 ≤ a ∧ a ≤ 2147483647) (hb9 : -2147483648 ≤ b ∧ b ≤ 2147483647) (kt : ¬ a = b → W p l e R s m args below meth c H locs cells slots Q (F0 m tgt ls rest)) (kf : a = b → W p l e R s m args below meth c H locs cells slots Q (F0 m (pc + 3) ls rest)) : W p l e R s m args below meth c H locs cells slots Q (F0 m pc ls (.int (zI b) :: .int (zI a) :: rest)) := lv_icmp_ne hexec hb hdg ht (fun h => kt (fun q => h ((zI_eq ha9 hb9).mpr q))) (fun h => kf ((zI_eq ha9 hb9).mp h))
theorem z_icmp_lt (hexec : p.tables.exec = Jvm.exec) (hb : c.code = cc) {a b off : Int} {tgt : Nat} (hdg : decode cc pc = .ok (.if_icmp .lt off, 3)) (ht : (pc : Int) + off = (tgt : Int)) (ha9 : -2147483648 ≤ a ∧ a ≤ 2147483647) (hb9 : -2147483648 ≤ b ∧ b ≤ 2147483647) (kt : a < b → W p l e R s m args below meth c H locs cells slots Q (F0 m tgt ls rest)) (kf : ¬ a < b → W p l e R s m args below meth c H locs cells slots Q (F0 m (pc + 3) ls rest)) : W p l e R s m args below meth c H locs cells slots Q (F0 m pc ls (.int (zI b) :: .int (zI a) :: rest)) := lv_icmp_lt hexec hb hdg ht (fun h => kt ((zI_lt ha9 hb9).mp h)) (fun h => kf (fun q => h ((zI_lt ha9 hb9).mpr q)))
theorem z_icmp_ge (hexec : p.tables.exec = Jvm.exec) (hb : c.code = cc) {a b off : Int} {tgt : Nat} (hdg : decode cc pc = .ok (.if_icmp .ge off, 3)) (ht : (pc : Int) + off = (tgt : Int)) (ha9 : -2147483648 ≤ a ∧ a ≤ 2147483647) (hb9 : -2147483648 ≤ b ∧ b ≤ 2147483647) (kt : b ≤ a → W p l e R s m args below meth c H locs cells slots Q (F0 m tgt ls rest)) (kf : ¬ b ≤ a → W p l e R s m args below meth c H locs cells slots Q (F0 m (pc + 3) ls rest)) : W p l e R s m args below meth c H locs cells slots Q (F0 m pc ls (.int (zI b) :: .int (zI a) :: rest)) := lv_icmp_ge hexec hb hdg ht (fun h => kt ((zI_le hb9 ha9).mp h)) (fun h => kf (fun q => h ((zI_le hb9 ha9).mpr q)))
theorem z_icmp_gt (hexec : p.tables.exec = Jvm.exec) (hb : c.code = cc) {a b off : Int} {tgt : Nat} (hdg : decode cc pc = .ok (.if_icmp .gt off, 3)) (ht : (pc : Int) + off = (tgt : Int)) (ha9 : -2147483648 ≤ a ∧ a ≤ 2147483647) (hb9 : -2147483648 ≤ b ∧ b ≤ 2147483647) (kt : b < a → W p l e R s m args below meth c H locs cells slots Q (F0 m tgt ls rest)) (kf : ¬ b < a → W p l e R s m args below meth c H locs cells slots Q (F0 m (pc + 3) ls rest)) : W p l e R s m args below meth c H locs cells slots Q (F0 m pc ls (.int (zI b) :: .int (zI a) :: rest)) := lv_icmp_gt hexec hb hdg ht (fun h => kt ((zI_lt hb9 ha9).mp h)) (fun h => kf (fun q => h ((zI_lt hb9 ha9).mpr q)))
theorem z_icmp_le (hexec : p.tables.exec = Jvm.exec) (hb : c.code = cc) {a b off : Int} {tgt : Nat} (hdg : decode cc pc = .ok (.if_icmp .le off, 3)) (ht : (pc : Int) + off = (tgt : Int)) (ha9 : -2147483648 ≤ a ∧ a ≤ 2147483647) (hb9 : -2147483648 ≤ b ∧ b ≤ 2147483647) (kt : a ≤ b → W p l e R s m args below meth c H locs cells slots Q (F0 m tgt ls rest)) (kf : ¬ a ≤ b → W p l e R s m args below meth c H locs cells slots Q (F0 m (pc + 3) ls rest)) : W p l e R s m args below meth c H locs cells slots Q (F0 m pc ls (.int (zI b) :: .int (zI a) :: rest)) := lv_icmp_le hexec hb hdg ht (fun h => kt ((zI_le ha9 hb9).mp h)) (fun h => kf (fun q => h ((zI_le ha9 hb9).mpr q)))
theorem z_if_eq (hexec : p.tables.exec = Jvm.exec) (hb : c.code = cc) {a off : Int} {tgt : Nat} (hdg : decode cc pc = .ok (.ifCond .eq off, 3)) (ht : (pc : Int) + off = (tgt : Int)) (ha9 : -2147483648 ≤ a ∧ a ≤ 2147483647) (kt : a = 0 → W p l e R s m args below meth c H locs cells slots Q (F0 m tgt ls rest)) (kf : ¬ a = 0 → W p l e R s m args below meth c H locs cells slots Q (F0 m (pc + 3) ls rest)) : W p l e R s m args below meth c H locs cells slots Q (F0 m pc ls (.int (zI a) :: rest)) := lv_if_eq hexec hb hdg ht (fun h => kt ((zI_eq (a := a) (b := 0) ha9 ⟨by decide, by decide⟩).mp h)) (fun h => kf (fun q => h ((zI_eq (a := a) (b := 0) ha9 ⟨by decide, by decide⟩).mpr q)))
theorem z_if_ne (hexec : p.tables.exec = Jvm.exec) (hb : c.code = cc) {a off : Int} {tgt : Nat} (hdg : decode cc pc = .ok (.ifCond .ne off, 3)) (ht : (pc : Int) + off = (tgt : Int)) (ha9 : -2147483648 ≤ a ∧ a ≤ 2147483647) (kt : ¬ a = 0 → W p l e R s m args below meth c H locs cells slots Q (F0 m tgt ls rest)) (kf : a = 0 → W p l e R s m args below meth c H locs cells slots Q (F0 m (pc + 3) ls rest)) : W p l e R s m args below meth c H locs cells slots Q (F0 m pc ls (.int (zI a) :: rest)) := lv_if_ne hexec hb hdg ht (fun h => kt (fun q => h ((zI_eq (a := a) (b := 0) ha9 ⟨by decide, by decide⟩).mpr q))) (fun h => kf ((zI_eq (a := a) (b := 0) ha9 ⟨by decide, by decide⟩).mp h))
theorem z_if_lt (hexec : p.tables.exec = Jvm.exec) (hb : c.code = cc) {a off : Int} {tgt : Nat} (hdg : decode cc pc = .ok (.ifCond .lt off, 3)) (ht : (pc : Int) + off = (tgt : Int)) (ha9 : -2147483648 ≤ a ∧ a ≤ 2147483647) (kt : a < 0 → W p l e R s m args below meth c H locs cells slots Q (F0 m tgt ls rest)) (kf : ¬ a < 0 → W p l e R s m args below meth c H locs cells slots Q (F0 m (pc + 3) ls rest)) : W p l e R s m args below meth c H locs cells slots Q (F0 m pc ls (.int (zI a) :: rest)) := lv_if_lt hexec hb hdg ht (fun h => kt ((zI_lt (a := a) (b := 0) ha9 ⟨by decide, by decide⟩).mp h)) (fun h => kf (fun q => h ((zI_lt (a := a) (b := 0) ha9 ⟨by decide, by decide⟩).mpr q)))
theorem z_if_ge (hexec : p.tables.exec = Jvm.exec) (hb : c.code = cc) {a off : Int} {tgt : Nat} (hdg : decode cc pc = .ok (.ifCond .ge off, 3)) (ht : (pc : Int) + off = (tgt : Int)) (ha9 : -2147483648 ≤ a ∧ a ≤ 2147483647) (kt : 0 ≤ a → W p l e R s m args below meth c H locs cells slots Q (F0 m tgt ls rest)) (kf : ¬ 0 ≤ a → W p l e R s m args below meth c H locs cells slots Q (F0 m (pc + 3) ls rest)) : W p l e R s m args below meth c H locs cells slots Q (F0 m pc ls (.int (zI a) :: rest)) := lv_if_ge hexec hb hdg ht (fun h => kt ((zI_le (a := 0) (b := a) ⟨by decide, by decide⟩ ha9).mp h)) (fun h => kf (fun q => h ((zI_le (a := 0) (b := a) ⟨by decide, by decide⟩ ha9).mpr q)))
theorem z_if_gt (hexec : p.tables.exec = Jvm.exec) (hb : c.code = cc) {a off : Int} {tgt : Nat} (hdg : decode cc pc = .ok (.ifCond .gt off, 3)) (ht : (pc : Int) + off = (tgt : Int)) (ha9 : -2147483648 ≤ a ∧ a ≤ 2147483647) (kt : 0 < a → W p l e R s m args below meth c H locs cells slots Q (F0 m tgt ls rest)) (kf : ¬ 0 < a → W p l e R s m args below meth c H locs cells slots Q (F0 m (pc + 3) ls rest)) : W p l e R s m args below meth c H locs cells slots Q (F0 m pc ls (.int (zI a) :: rest)) := lv_if_gt hexec hb hdg ht (fun h => kt ((zI_lt (a := 0) (b := a) ⟨by decide, by decide⟩ ha9).mp h)) (fun h => kf (fun q => h ((zI_lt (a := 0) (b := a) ⟨by decide, by decide⟩ ha9).mpr q)))
theorem z_if_le (hexec : p.tables.exec = Jvm.exec) (hb : c.code = cc) {a off : Int} {tgt : Nat} (hdg : decode cc pc = .ok (.ifCond .le off, 3)) (ht : (pc : Int) + off = (tgt : Int)) (ha9 : -2147483648 ≤ a ∧ a ≤ 2147483647) (kt : a ≤ 0 → W p l e R s m args below meth c H locs cells slots Q (F0 m tgt ls rest)) (kf : ¬ a ≤ 0 → W p l e R s m args below meth c H locs cells slots Q (F0 m (pc + 3) ls rest)) : W p l e R s m args below meth c H locs cells slots Q (F0 m pc ls (.int (zI a) :: rest)) := lv_if_le hexec hb hdg ht (fun h => kt ((zI_le (a := a) (b := 0) ha9 ⟨by decide, by decide⟩).mp h)) (fun h => kf (fun q => h ((zI_le (a := a) (b := 0) ha9 ⟨by decide, by decide⟩).mpr q)))
theorem z_ald (hexec : p.tables.exec = Jvm.exec) (hb : c.code = cc) {G : zG} (hK : va_K G.1 vwCl (zT G) s) {n : Nat} {F : Int → Int} {i : Int} (hc : va_at G.1 vwCl (a, .inl (G.2.1 0, n, .inl (zA F))) H) (h0 : 0 ≤ i ∧ i < n) (hn : n ≤ 2147483647) (hdg : decode cc pc = .ok (.iaload, 1))
    (k : W p l e R s m args below meth c H locs cells slots Q (F0 m (pc + 1) ls (.int (zI (F i)) :: rest))) : W p l e R s m args below meth c H locs cells slots Q (F0 m pc ls (.int (zI i) :: .ref a :: rest)) :=
  va_iald hexec hb hK (P1 hc) 0 0 rfl rfl (zI_in h0.1 h0.2 hn) hdg (by rw [zA_at h0.1 (by omega)]; exact k)
theorem z_ast (hexec : p.tables.exec = Jvm.exec) (hb : c.code = cc) {G : zG} (hK : va_K G.1 vwCl (zT G) s) (hS : va_S A H0 H locs) (hA : A a) {n : Nat} {F : Int → Int} {i x : Int} (hc : va_at G.1 vwCl (a, .inl (G.2.1 0, n, .inl (zA F))) H) (h0 : 0 ≤ i ∧ i < n) (hn : n ≤ 2147483647) (hdg : decode cc pc = .ok (.iastore, 1))
    (k : ∀ (H1 : Heap) (locs1 : List Loc), va_at G.1 vwCl (a, .inl (G.2.1 0, n, .inl (zA (zU F i x)))) H1 → H1.size = H.size → (∀ q : Nat, q ≠ a → H1[q]? = H[q]?) → va_S A H0 H1 locs1 → W p l e R s m args below meth c H1 locs1 cells slots Q (F0 m (pc + 1) ls rest)) : W p l e R s m args below meth c H locs cells slots Q (F0 m pc ls (.int (zI x) :: .int (zI i) :: .ref a :: rest)) := by
  have hin := zI_in h0.1 h0.2 hn
  refine W.iast (cell := vp_cell (G.2.1 0) (n, .inl (zA F))) hexec hb hc ((hK.2 0 _ rfl).1 n (fun j => .int (zA F j))) (fun q => by cases q) (by show ¬ (_ < 0 ∨ (arrV _ _ _).slots.size ≤ _); rw [arrV_size]; exact hin) rfl rfl hdg fun H' e1 e2 e3 => k H' _ ?_ e2 e3 (hS.put e2 e3 hA)
  show H'[a]? = some (vp_cell (G.2.1 0) (n, .inl (zA (zU F i x))))
  rw [e1, vp_cell_i, vp_cell_i, arrV_store, ← zA_up h0.1 (by omega)]
  refine congrArg (fun f => some (arrV (G.2.1 0) n f)) (funext fun j => ?_)
  unfold updV upd
  split <;> rfl
theorem z_aldr (hexec : p.tables.exec = Jvm.exec) (hb : c.code = cc) {G : zG} (hK : va_K G.1 vwCl (zT G) s) {n t0 : Nat} {ty : FieldType} (ht : (zT G)[t0]? = some (G.2.1 t0, ty)) (hr : ty.isReference = true) {f : Nat → Option Nat} {i : Int} (hc : va_at G.1 vwCl (a, .inl (G.2.1 t0, n, .inr (.inr (.inr (.inr f))))) H) (h0 : 0 ≤ i ∧ i < n) (hn : n ≤ 2147483647) {q : Nat} (hq : f i.toNat = some q) (hdg : decode cc pc = .ok (.aaload, 1))
    (k : W p l e R s m args below meth c H locs cells slots Q (F0 m (pc + 1) ls (.ref q :: rest))) : W p l e R s m args below meth c H locs cells slots Q (F0 m pc ls (.int (zI i) :: .ref a :: rest)) := by
  have hin := zI_in h0.1 h0.2 hn
  have hcl := zI_cl h0.1 (by omega : i ≤ 2147483647)
  have hlt : i.toNat < n := by omega
  refine W.aald (v := .ref q) (ty := ty) (cell := vp_cell (G.2.1 t0) (n, .inr (.inr (.inr (.inr f))))) hexec hb hc ((hK.2 t0 _ ht).1 n (fun j => va_rf (f j))) hr (fun q => by cases q) (by show ¬ (_ < 0 ∨ (arrV _ _ _).slots.size ≤ _); rw [arrV_size]; exact hin) ?_ rfl rfl hdg k
  rw [hcl]
  show (arrV _ _ _).slots[_]? = _
  rw [arrV_read _ _ hlt, hq]
  rfl
theorem z_alen (hexec : p.tables.exec = Jvm.exec) (hb : c.code = cc) {G : zG} (hK : va_K G.1 vwCl (zT G) s) {n : Nat} {F : Int → Int} (hc : va_at G.1 vwCl (a, .inl (G.2.1 0, n, .inl (zA F))) H) (hdg : decode cc pc = .ok (.arraylength, 1))
    (k : W p l e R s m args below meth c H locs cells slots Q (F0 m (pc + 1) ls (.int (zI (n : Int)) :: rest))) : W p l e R s m args below meth c H locs cells slots Q (F0 m pc ls (.ref a :: rest)) :=
  va_alen hexec hb hK (P1 hc) 0 0 rfl rfl (v := zI (n : Int)) (zI_nat n).symm hdg k
theorem z_get (hexec : p.tables.exec = Jvm.exec) (hb : c.code = cc) {G : zG} (hK : va_K G.1 vwCl (zT G) s) (hts : ∀ w ∈ lw_all, w.before args s = true) {own C : String} {T : u_T} {N ci index : Nat} (hin : ∀ w ∈ u_ws C T N, w ∈ lw_all) (hown : s.vm.findClass own = some m.cls) {fs : List Value} (hc : va_at G.1 vwCl (a, .inr (ci, fs)) H) (hci : vwCl[ci]? = some (C, T, N)) (k : Nat) (hk : k < N) (hlink : Cond.fieldLink own index (T k).1 (T k).2.1 (T k).2.2.1 ∈ lw_all) {v : Value} (hv : fs[k]? = some v) (hdg : decode cc pc = .ok (.getfield index, 3))
    (kk : W p l e R s m args below meth c H locs cells slots Q (F0 m (pc + 3) ls (v :: rest))) : W p l e R s m args below meth c H locs cells slots Q (F0 m pc ls (.ref a :: rest)) :=
  va_get (D := G.1) (ci := ci) (v := v) (C := C) (T := T) (N := N) hexec hb hts hin hown hK (P1 hc) 0 rfl hci k hk (hts _ hlink) (fun _ h9 => h9) hv hdg kk
theorem z_put (hexec : p.tables.exec = Jvm.exec) (hb : c.code = cc) {G : zG} (hK : va_K G.1 vwCl (zT G) s) (hts : ∀ w ∈ lw_all, w.before args s = true) {own C : String} {T : u_T} {N ci index : Nat} (hin : ∀ w ∈ u_ws C T N, w ∈ lw_all) (ty0 : Nat → FieldType) (hty : ∀ k, k < N → parseFieldDescriptor (T k).2.2.1 = some (ty0 k)) (hnm : ∀ a, a < N → ∀ b, b < N → a ≠ b → (T a).2.1 ≠ (T b).2.1) (hown : s.vm.findClass own = some m.cls) (hS0 : va_S A H0 H locs) (hA : A a) {fs : List Value} (he : va_at G.1 vwCl (a, .inr (ci, fs)) H) (hc : vwCl[ci]? = some (C, T, N)) (k : Nat) (hk : k < N) (hlink : Cond.fieldLink own index (T k).1 (T k).2.1 (T k).2.2.1 ∈ lw_all) (hfin : (T k).2.2.2 = false) {v : Value} (hn : narrow (ty0 k) v = v) (hfit : fits (ty0 k) v = true) (hl : k < fs.length)
    (hdg : decode cc pc = .ok (.putfield index, 3)) (kk : ∀ (H1 : Heap) (locs1 : List Loc), va_at G.1 vwCl (a, .inr (ci, fs.set k v)) H1 → H1.size = H.size → (∀ q : Nat, q ≠ a → H1[q]? = H[q]?) → va_S A H0 H1 locs1 → W p l e R s m args below meth c H1 locs1 cells slots Q (F0 m (pc + 3) ls rest)) : W p l e R s m args below meth c H locs cells slots Q (F0 m pc ls (v :: .ref a :: rest)) := by
  have hap := va_apart (own := own) hts hin ty0 hty hnm hK hc
  obtain ⟨r, h1, cell, q1, q2, q3, q4⟩ := he
  have hr : r = (C, T, N) := Option.some.inj (h1.symm.trans hc)
  subst hr
  obtain ⟨hS, hfc, kC, hkC, hkind⟩ := hK.1 ci _ hc
  obtain ⟨cf, kf, fi, f, hi, hsl⟩ := hS k hk
  have hlay := hts _ (hin _ (u_in_lay hk))
  unfold u_lay at hlay
  rw [if_neg (by rw [hfin]; decide)] at hlay
  have hst := (u_facts hfc hkC (u_lays hts hin hk) hi).1
  have h6 := u_store hfc hkC hkind hlay hi (hty k hk) hn hfit
  refine W.putK hexec hb (f := f) ⟨hown, hts _ hlink, ⟨_, _, _, hi⟩, hst⟩ (by rw [q2]; exact h6) q1 q3 (by rw [hsl]; exact k2_hasslot (q4 k hk)) rfl rfl hdg fun H' e1 e2 e3 => ?_
  rw [hsl] at e1 ⊢
  exact kk H' _ ⟨_, hc, t_OB.to (V := updV (vp_V fs) k v) ⟨_, e1, q2, q3, t_set q4 hap hk v⟩ (fun j _ => vp_updV_set hl v j)⟩ e2 e3 (hS0.put e2 e3 hA)
/-- a table, and its places -/
theorem z_gets (hexec : p.tables.exec = Jvm.exec) (hb : c.code = cc) {G : zG} (hG : GK G s) (hts : ∀ w ∈ lw_all, w.before args s = true) (hS : va_S A s.heap H locs) (hA : ∀ q, A q → G.2.2 ≤ q) {own C n : String} {vs : List Int} {index : Nat} (hj : (C, n, vs) ∈ statT) (hown : s.vm.findClass own = some m.cls) (hlink : Cond.fieldLink own index C n "[I" ∈ lw_all) (hdg : decode cc pc = .ok (.getstatic index, 3))
    (k : ∀ t : Nat, va_T .int t vs.length (fun k => .int (zI (vs.getD k 0))) A s s.heap → W p l e R s m args below meth c H locs cells slots Q (F0 m (pc + 3) ls (.ref t :: rest))) : W p l e R s m args below meth c H locs cells slots Q (F0 m pc ls rest) := by
  obtain ⟨t, h1, h2⟩ := hG.2.2.2.2.1 _ hj
  exact va_gets hexec hb (h1.narrow hA) hS hown (hts _ hlink) (fun _ h => h) hdg (k t (h2.narrow hA))
theorem z_getsN (hexec : p.tables.exec = Jvm.exec) (hb : c.code = cc) {G : zG} (hG : GK G s) (hS : va_S A s.heap H locs) (hA : ∀ q, A q → G.2.2 ≤ q) {own C n host : String} {vs : List Int} {index : Nat} (hj : (C, n, vs) ∈ statT) (hown : s.vm.findClass own = some m.cls) (hlink : (own, index, C, n, "[I", host) ∈ nestF) (hdg : decode cc pc = .ok (.getstatic index, 3))
    (k : ∀ t : Nat, va_T .int t vs.length (fun k => .int (zI (vs.getD k 0))) A s s.heap → W p l e R s m args below meth c H locs cells slots Q (F0 m (pc + 3) ls (.ref t :: rest))) : W p l e R s m args below meth c H locs cells slots Q (F0 m pc ls rest) := by
  obtain ⟨t, h1, h2⟩ := hG.2.2.2.2.1 _ hj
  exact va_getsN hexec hb (h1.narrow hA) hS hown (va_Nw.use rfl (hG.2.2.2.1 _ hlink)) (fun _ h => h) hdg (k t (h2.narrow hA))
theorem z_tld (hexec : p.tables.exec = Jvm.exec) (hb : c.code = cc) {t : Nat} {vs : List Int} (hT : va_T .int t vs.length (fun k => .int (zI (vs.getD k 0))) A s s.heap) (hS : va_S A s.heap H locs) {i : Int} (h0 : 0 ≤ i ∧ i < vs.length) (hn : vs.length ≤ 2147483647) (hdg : decode cc pc = .ok (.iaload, 1))
    (k : W p l e R s m args below meth c H locs cells slots Q (F0 m (pc + 1) ls (.int (zI (vs.getD i.toNat 0)) :: rest))) : W p l e R s m args below meth c H locs cells slots Q (F0 m pc ls (.int (zI i) :: .ref t :: rest)) :=
  va_ti hexec hb hT hS (zI_in h0.1 h0.2 hn) (v := .int (zI (vs.getD i.toNat 0))) (by rw [zI_cl h0.1 (by omega)]) hdg k
theorem z_tlen (hexec : p.tables.exec = Jvm.exec) (hb : c.code = cc) {t : Nat} {vs : List Int} (hT : va_T .int t vs.length (fun k => .int (zI (vs.getD k 0))) A s s.heap) (hS : va_S A s.heap H locs) {n : Int} (hn : (vs.length : Int) = n) (hdg : decode cc pc = .ok (.arraylength, 1))
    (k : W p l e R s m args below meth c H locs cells slots Q (F0 m (pc + 1) ls (.int (zI n) :: rest))) : W p l e R s m args below meth c H locs cells slots Q (F0 m pc ls (.ref t :: rest)) :=
  va_tlen hexec hb hT hS (v := zI n) (by rw [← hn]; exact (zI_nat _).symm) hdg k
end ZR
