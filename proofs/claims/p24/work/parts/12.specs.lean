theorem fA_lo {N : Nat} {ad : Nat → Nat} {z sz : Nat} (h1 : ∀ k, k < N → z ≤ ad k) (h2 : z ≤ sz) : ∀ q : Nat, fA N ad sz q → z ≤ q := fun q h => h.elim (fun ⟨k, hk, e⟩ => e ▸ h1 k hk) (fun h => Nat.le_trans h2 h)
theorem fA_mono {N : Nat} {ad : Nat → Nat} {sz sz' : Nat} (h : sz ≤ sz') : ∀ q : Nat, fA N ad sz' q → fA N ad sz q := fun q z => z.elim Or.inl (fun h2 => Or.inr (Nat.le_trans h h2))
theorem mw_of {l : Launch} {y : MethodName} {cc : ByteArray} {n f lo mc ms : Nat} {ret : Option FieldType} {G : zG} {av : List Value} {A : Nat → Prop} {sz : Nat} {Pic : Heap → Prop} {Qc : Array Value → State → Outcome → State → Prop} (hy : plainName y.cls = true) (hlen : (lg_sl av).length ≤ n)
    (body : ∀ (p : Program) (e : Env) (s : State) (m : MethodId) (below : List Frame) (meth : Method) (c : Code) (ls : Array Slot), BF p s m av.toArray meth c cc n ret y.cls G → s.heap.size = sz → Pic s.heap → lv_has ls n (lv_args 0 av) → W p l e (rmz f lo mc ms) s m av.toArray below meth c s.heap [] 0 0 (MQ below Qc av.toArray s mc ms A) (F0 m 0 ls [])) :
    MW l y cc n ret f lo mc ms G av A sz Pic Qc := zm_of (Pic := fun X => X.size = sz ∧ Pic X) hy hlen (fun p e s m below meth c ls hB hP hl => body p e s m below meth c ls hB hP.1 hP.2 hl)
theorem mx_of {l : Launch} {y : MethodName} {cc : ByteArray} {n f lo mc ms : Nat} {ret : Option FieldType} {G : zG} {av : List Value} {A : Nat → Prop} {sz : Nat} {Pic : Heap → Prop} {Qc : Array Value → State → Outcome → State → Prop} {PX : String → Heap → Prop} (hy : plainName y.cls = true) (hlen : (lg_sl av).length ≤ n)
    (body : ∀ (p : Program) (e : Env) (s : State) (m : MethodId) (below : List Frame) (meth : Method) (c : Code) (ls : Array Slot), BF p s m av.toArray meth c cc n ret y.cls G → (∀ (x : ExceptionTableEntry), x ∈ c.exceptionTable.toList → False) → s.heap.size = sz → Pic s.heap → lv_has ls n (lv_args 0 av) → W p l e (rmz f lo mc ms) s m av.toArray below meth c s.heap [] 0 0 (vx_MQ below Qc (XQ A PX) av.toArray s mc ms A) (F0 m 0 ls [])) :
    MX l y cc n ret f lo mc ms G av A sz Pic Qc PX := zx_of (Pic := fun X => X.size = sz ∧ Pic X) hy hlen (fun p e s m below meth c ls hB hn hP hl => body p e s m below meth c ls hB hn hP.1 hP.2 hl)
/-! rows put in place -/
def zW (T : Nat → Int → Int) (w : Nat) (f : Int → Int) : Nat → Int → Int := fun v => if v = w then f else T v
theorem zW_s (T : Nat → Int → Int) (w : Nat) (f : Int → Int) : zW T w f w = f := if_pos rfl
theorem zW_n {T : Nat → Int → Int} {w v : Nat} (f : Int → Int) (h : v ≠ w) : zW T w f v = T v := if_neg h
theorem zW_R (T : Nat → Int → Int) (w : Nat) (f : Int → Int) (i x : Int) : zR (zW T w f) w i x = zW T w (zU f i x) := by
  funext v j
  unfold zR zW zU
  by_cases h : v = w
  · subst h; simp
  · simp [h]
theorem zW_id (T : Nat → Int → Int) (w : Nat) : zW T w (T w) = T := by
  funext v
  unfold zW
  split
  · rename_i h; rw [h]
  · rfl
theorem zN_id (F : Nat → Int) (k : Nat) : zN F k (F k) = F := by
  funext v
  unfold zN
  split
  · rename_i h; rw [h]
  · rfl
theorem zN_N (F : Nat → Int) (k : Nat) (x y : Int) : zN (zN F k x) k y = zN F k y := by
  funext v
  unfold zN
  split <;> rfl
theorem zN_C (F : Nat → Int) {j k : Nat} (h : j ≠ k) (x y : Int) : zN (zN F j x) k y = zN (zN F k y) j x := by
  funext v
  unfold zN
  by_cases h1 : v = k
  · subst h1; rw [if_pos rfl, if_neg (Ne.symm h), if_pos rfl]
  · rw [if_neg h1]
    split <;> rfl
/-! a voice's numbers -/
def VOK (T P : Nat → Int → Int) (n : Int) : Prop := 0 ≤ n ∧ n ≤ 200 ∧ (∀ i, 0 ≤ i → i < n → 0 ≤ T 0 i ∧ T 0 i ≤ 1000000 ∧ 0 ≤ T 1 i ∧ T 1 i ≤ 1000000 ∧ 0 ≤ T 2 i ∧ T 2 i ≤ 1000 ∧ 0 ≤ T 3 i ∧ T 3 i ≤ 2 ∧ -1 ≤ T 4 i ∧ T 4 i ≤ 1000 ∧ 0 ≤ T 5 i ∧ T 5 i ≤ 1 ∧ 0 ≤ T 6 i ∧ T 6 i ≤ 1000) ∧ (∀ i, 0 ≤ i → i < 200 → 0 ≤ P 0 i ∧ P 0 i < 7 ∧ -2 ≤ P 1 i ∧ P 1 i ≤ 2 ∧ 0 ≤ P 2 i ∧ P 2 i < 9)
/-- an element is joined to the next one: td tied, tn tones -/
abbrev jn (td tn : Int → Int) (n i : Int) : Prop := 0 ≤ i ∧ i + 1 < n ∧ td i = 1 ∧ tn i = tn (i + 1)
/-- an element and the next one are short notes of one beat: pa parts, bg beginnings -/
abbrev gr (tn pa bg : Int → Int) (beat n i : Int) : Prop := 0 ≤ i ∧ i + 1 < n ∧ (¬ tn i = -1 ∧ 8 ≤ pa i) ∧ (¬ tn (i + 1) = -1 ∧ 8 ≤ pa (i + 1)) ∧ bg i / beat = bg (i + 1) / beat
def vTell (F : Nat → Int) (w : Int) : Int := if w = 0 then F 0 else if w = 1 then F 1 else if w = 2 then F 2 else if w = 3 then F 3 else if w = 4 then F 4 else if w = 5 then F 5 else F 6
/-- loose ties, the greatest and the least tone -/
def lzN (td tn : Int → Int) (n : Int) : Int → Int := pf 0 (fun k a => a + bI (td k = 1 ∧ ¬ jn td tn n k))
def gTo (tn : Int → Int) : Int → Int := pf (-1) (fun k a => if tn k = -1 then a else max a (tn k))
def lTo (tn : Int → Int) : Int → Int := pf (-1) (fun k a => if tn k = -1 then a else if a = -1 then tn k else min a (tn k))
/-- the tone at a tick -/
def tAt (bg tk tn : Int → Int) (n x : Int) : Int := if fp (fun i => bg i ≤ x ∧ x < bg i + tk i) n < n then tn (fp (fun i => bg i ≤ x ∧ x < bg i + tk i) n) else -1
/-- sounds: how many, and their rows -/
def soS (td tn bg tk : Int → Int) (n : Int) (k : Int) (a : Int × (Nat → Int → Int)) : Int × (Nat → Int → Int) :=
  if tn k = -1 then a
  else if jn td tn n (k - 1) ∧ 0 < a.1 then (a.1, zR a.2 1 (a.1 - 1) (bg k + tk k))
  else (a.1 + 1, zR (zR (zR a.2 0 a.1 (bg k)) 2 a.1 (tn k)) 1 a.1 (bg k + tk k))
def soF (td tn bg tk : Int → Int) (n : Int) (S : Nat → Int → Int) : Int → Int × (Nat → Int → Int) := pf (0, S) (soS td tn bg tk n)
theorem soF_rng {td tn bg tk : Int → Int} {n : Int} {S : Nat → Int → Int} {i : Int} (h : 0 ≤ i) : 0 ≤ (soF td tn bg tk n S i).1 ∧ (soF td tn bg tk n S i).1 ≤ i := by
  refine pf_ind (fun (i : Int) (a : Int × (Nat → Int → Int)) => 0 ≤ a.1 ∧ a.1 ≤ i) ⟨Int.le_refl 0, Int.le_refl 0⟩ ?_ h
  intro k a hk ⟨h1, h2⟩
  unfold soS
  split
  · exact ⟨h1, by omega⟩
  · split
    · exact ⟨h1, by show a.1 ≤ k + 1; omega⟩
    · exact ⟨by show 0 ≤ a.1 + 1; omega, by show a.1 + 1 ≤ k + 1; omega⟩
/-- signs: which are shown, what holds by places, how many -/
def sgS (td tn ba st sg oc : Int → Int) (n key : Int) (k : Int) (a : (Int → Int) × (Nat → Int → Int) × Int) : (Int → Int) × (Nat → Int → Int) × Int :=
  if tn k = -1 then (zU a.1 k 0, a.2.1, a.2.2)
  else if ¬ (if a.2.1 0 (7 * oc k + st k) = ba k then a.2.1 1 (7 * oc k + st k) else sgK key (st k)) = sg k ∧ ¬ jn td tn n (k - 1)
  then (zU (zU a.1 k 0) k 1, zR (zR a.2.1 0 (7 * oc k + st k) (ba k)) 1 (7 * oc k + st k) (sg k), a.2.2 + 1)
  else (zU a.1 k 0, zR (zR a.2.1 0 (7 * oc k + st k) (ba k)) 1 (7 * oc k + st k) (sg k), a.2.2)
def sgF (td tn ba st sg oc : Int → Int) (n key : Int) (sh : Int → Int) (A : Nat → Int → Int) : Int → (Int → Int) × (Nat → Int → Int) × Int := pf (sh, A, 0) (sgS td tn ba st sg oc n key)
def fillM (f : Int → Int) (i : Int) : Int → Int := fun j => if 0 ≤ j ∧ j < i then -1 else f j
theorem fillM_s (f : Int → Int) {i : Int} (h : 0 ≤ i) : zU (fillM f i) i (-1) = fillM f (i + 1) := by
  funext j
  unfold zU fillM
  by_cases h1 : j = i
  · subst h1; rw [if_pos rfl, if_pos (by omega)]
  · rw [if_neg h1]
    by_cases h2 : 0 ≤ j ∧ j < i
    · rw [if_pos h2, if_pos (by omega)]
    · rw [if_neg h2, if_neg (by omega)]
theorem fillM_0 (f : Int → Int) : fillM f 0 = f := by
  funext j
  unfold fillM
  rw [if_neg (by omega)]
/-- beams: their numbers, how many -/
def bmS (tn pa bg : Int → Int) (beat n : Int) (k : Int) (a : (Int → Int) × Int) : (Int → Int) × Int :=
  if gr tn pa bg beat n (k - 1) then
    if zU a.1 k (-1) (k - 1) = -1 then (zU (zU (zU a.1 k (-1)) (k - 1) a.2) k a.2, a.2 + 1)
    else (zU (zU a.1 k (-1)) k (zU a.1 k (-1) (k - 1)), a.2)
  else (zU a.1 k (-1), a.2)
def bmF (tn pa bg : Int → Int) (beat n : Int) (bm : Int → Int) : Int → (Int → Int) × Int := pf (bm, 0) (bmS tn pa bg beat n)
theorem bmF_rng {tn pa bg : Int → Int} {beat n : Int} {bm : Int → Int} {i : Int} (h : 0 ≤ i) : (0 ≤ (bmF tn pa bg beat n bm i).2 ∧ (bmF tn pa bg beat n bm i).2 ≤ i) ∧ ∀ j, 0 ≤ j → j < i → -1 ≤ (bmF tn pa bg beat n bm i).1 j ∧ (bmF tn pa bg beat n bm i).1 j ≤ i := by
  refine pf_ind (fun (i : Int) (a : (Int → Int) × Int) => (0 ≤ a.2 ∧ a.2 ≤ i) ∧ ∀ j, 0 ≤ j → j < i → -1 ≤ a.1 j ∧ a.1 j ≤ i) ⟨⟨Int.le_refl 0, Int.le_refl 0⟩, fun j h1 h2 => absurd h2 (by omega)⟩ ?_ h
  intro k a hk ⟨h1, h2⟩
  have h0 : ∀ j, 0 ≤ j → j < k + 1 → -1 ≤ zU a.1 k (-1) j ∧ zU a.1 k (-1) j ≤ k + 1 := fun j g1 g2 => by
    unfold zU
    by_cases e : j = k
    · rw [if_pos e]; omega
    · rw [if_neg e]
      have := h2 j g1 (by omega)
      omega
  unfold bmS
  by_cases c1 : gr tn pa bg beat n (k - 1)
  · rw [if_pos c1]
    by_cases c2 : zU a.1 k (-1) (k - 1) = -1
    · rw [if_pos c2]
      refine ⟨⟨by show 0 ≤ a.2 + 1; omega, by show a.2 + 1 ≤ k + 1; omega⟩, fun j g1 g2 => ?_⟩
      show -1 ≤ zU (zU (zU a.1 k (-1)) (k - 1) a.2) k a.2 j ∧ zU (zU (zU a.1 k (-1)) (k - 1) a.2) k a.2 j ≤ k + 1
      have := h0 j g1 g2
      unfold zU at this ⊢
      split
      · omega
      · split
        · omega
        · first
            | exact this
            | (rename_i q1 q2; rw [if_neg q1] at this; exact this)
    · rw [if_neg c2]
      refine ⟨⟨h1.1, by show a.2 ≤ k + 1; omega⟩, fun j g1 g2 => ?_⟩
      show -1 ≤ zU (zU a.1 k (-1)) k (zU a.1 k (-1) (k - 1)) j ∧ zU (zU a.1 k (-1)) k (zU a.1 k (-1) (k - 1)) j ≤ k + 1
      by_cases e : j = k
      · subst e
        rw [zU_s]
        exact h0 _ c1.1 (by omega)
      · rw [zU_n e]
        exact h0 j g1 g2
  · rw [if_neg c1]
    exact ⟨⟨h1.1, by show a.2 ≤ k + 1; omega⟩, h0⟩
