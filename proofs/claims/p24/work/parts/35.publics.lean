/-- the voice v is arranged anew -/
def arO (G : zG) (ad : Nat → Nat) (F : Nat → Int) (A E : Nat → Int → Int) (T P S Av : Int → Nat → Int → Int) (Fv : Int → Nat → Int) (v : Int) (H : Heap) : Prop := CP G ad (zN F 4 0) A E (zV T v (arT (T v) (P v) (Av v) (Fv v 0) (F 3) (F 1))) P (zV S v (arSo (T v) (S v) (Fv v 0)).2) (zV Av v (arSg (T v) (P v) (Av v) (Fv v 0) (F 3)).2.1) (zV Fv v (arF (T v) (P v) (S v) (Av v) (Fv v) (Fv v 0) (F 3) (F 1))) H
theorem CP.wT {G : zG} {ad : Nat → Nat} {F : Nat → Int} {A E : Nat → Int → Int} {T P S Av : Int → Nat → Int → Int} {Fv : Int → Nat → Int} {H H1 : Heap} {T1 P1 : Nat → Int → Int} {F1 : Nat → Int} (h : CP G ad F A E T P S Av Fv H) {v : Int} (hv : 0 ≤ v ∧ v < 4) (hV : VP G (vad ad v) T1 P1 (S v) (Av v) F1 H1) (ho : ∀ q : Nat, q < H.size → ¬ fA 21 (vad ad v) H.size q → H1[q]? = H[q]?) : CP G ad F A E (zV T v T1) (zV P v P1) S Av (zV Fv v F1) H1 := by
  have q := CP.putF h v hv hV ho
  rw [show zV S v (S v) = S from zV_id S v, show zV Av v (Av v) = Av from zV_id Av v] at q
  exact q
theorem one9 {H H1 : Heap} {ad : Nat → Nat} {v : Int} {k : Nat} (hk : k < 21) (ho : ∀ q : Nat, q ≠ vad ad v k → H1[q]? = H[q]?) : ∀ q : Nat, q < H.size → ¬ fA 21 (vad ad v) H.size q → H1[q]? = H[q]? := fun q _ hn => ho q (fun e => hn (Or.inl ⟨k, hk, e⟩))
theorem VOK.mono {T P : Nat → Int → Int} {n m : Int} (h : VOK T P n) (hm : 0 ≤ m ∧ m ≤ n) : VOK T P m := ⟨hm.1, by have := h.2.1; omega, fun i h0 h1 => h.2.2.1 i h0 (by omega), h.2.2.2⟩
theorem VOK.tied {T P : Nat → Int → Int} {n i t : Int} (h : VOK T P n) (ht : t = 0 ∨ t = 1) : VOK (zR T 5 i t) P n := by
  refine ⟨h.1, h.2.1, fun j h0 h1 => ?_, h.2.2.2⟩
  have q := h.2.2.1 j h0 h1
  have e : ∀ w : Nat, w ≠ 5 → zR T 5 i t w j = T w j := fun w hw => zR_n (Or.inl hw)
  rw [e 0 (by decide), e 1 (by decide), e 2 (by decide), e 3 (by decide), e 4 (by decide), e 6 (by decide)]
  have e5 : zR T 5 i t 5 j = t ∨ zR T 5 i t 5 j = T 5 j := by
    unfold zR
    split
    · exact Or.inl rfl
    · exact Or.inr rfl
  omega
