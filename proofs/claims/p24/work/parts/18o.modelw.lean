theorem stC_congr {g g' : Int → Prop} [DecidablePred g] [DecidablePred g'] (h : ∀ e, g e = g' e) (n : Int) : stC g n = stC g' n := pf_congr fun i a _ _ => by
  rw [show (if ¬ g (i - 1) ∧ g i then (1 : Int) else 0) = if ¬ g' (i - 1) ∧ g' i then 1 else 0 from zite (by rw [h, h])]
theorem bmN_congr {g g' : Int → Prop} [DecidablePred g] [DecidablePred g'] (h : ∀ e, g e = g' e) (e : Int) : bmN g e = bmN g' e := by
  unfold bmN
  rw [stC_congr h]
  exact zite (by rw [h, h])
theorem KPgM {F : Nat → Int} {A A' : Nat → Int → Int} {B B' : Int → Int → Int} (h : KP A B A' B') (v e : Int) : gM F A' B' v e = gM F A B v e := by
  unfold gM
  rw [h.1, h.cb v e, h.cb v (e + 1), h.bg' v]
theorem KPhoR {F : Nat → Int} {A A' : Nat → Int → Int} {B B' : Int → Int → Int} (h : KP A B A' B') (v e : Int) : hoR F B' v e = hoR F B v e := by
  funext x
  show (if _ then _ else _) = (if _ then _ else _)
  unfold barP
  rw [h.bg' v]
theorem KPhoF {F : Nat → Int} {A A' : Nat → Int → Int} {B B' : Int → Int → Int} (h : KP A B A' B') (v : Int) (x : Int → Int) (e : Int) : hoF F B' v x e = hoF F B v x e := pf_congr fun i a _ _ => by
  unfold hoS plM
  rw [KPhoR h v i, h.2 v i 2 (by omega) (by omega), h.2 v i 3 (by omega) (by omega), h.2 v i 4 (by omega) (by omega), h.2 v i 5 (by omega) (by omega)]
theorem KP.sh {F : Nat → Int} {A A' : Nat → Int → Int} {B B' : Int → Int → Int} (h : KP A B A' B') (v : Int) (x : Int → Int) (e : Int) : shM F A' B' v x e = shM F A B v x e := by
  have q := iff_of_eq (h.jm v (e - 1))
  show (if B' v (10 * e + 2) = 0 then 0 else if ¬ hoR F B' v e (hoF F B' v x e) (plM B' v e) = B' v (10 * e + 4) ∧ ¬ jmM A' B' v (e - 1) then 1 else 0) = (if B v (10 * e + 2) = 0 then 0 else if ¬ hoR F B v e (hoF F B v x e) (plM B v e) = B v (10 * e + 4) ∧ ¬ jmM A B v (e - 1) then 1 else 0)
  rw [KPhoR h v e, KPhoF h v x e, show plM B' v e = plM B v e by unfold plM; rw [h.2 v e 3 (by omega) (by omega), h.2 v e 5 (by omega) (by omega)], h.2 v e 2 (by omega) (by omega), h.2 v e 4 (by omega) (by omega)]
  rw [show (if ¬ hoR F B v e (hoF F B v x e) (plM B v e) = B v (10 * e + 4) ∧ ¬ jmM A' B' v (e - 1) then (1 : Int) else 0) = (if ¬ hoR F B v e (hoF F B v x e) (plM B v e) = B v (10 * e + 4) ∧ ¬ jmM A B v (e - 1) then (1 : Int) else 0) from zite (by rw [q])]
theorem KP.el {F : Nat → Int} {A A' : Nat → Int → Int} {B B' : Int → Int → Int} (h : KP A B A' B') (x : Int → Int) (v e w : Int) : elP F A' B' x v e w = elP F A B x v e w := by
  unfold elP
  rw [bmN_congr (fun e => KPgM h v e), h.bg' v, h.tk v e, h.tn v e, h.sh v x e, h.2 v e 0 (by omega) (by omega), h.2 v e 1 (by omega) (by omega), h.2 v e 6 (by omega) (by omega)]
/-- a step of the checksum -/
def dA (d : Int64) (x : Int) : Int64 := d * 31 + (zI x).toInt64
def h00 : Int → Int := fun _ => 0
def dgS (F : Nat → Int) (A : Nat → Int → Int) (B : Int → Int → Int) : Int → Int64 := pf 389 (fun w d => dA d (scM F A B w))
def dg7 (F : Nat → Int) (A : Nat → Int → Int) (B : Int → Int → Int) (v : Int) (d : Int64) : Int → Int64 := pf d (fun w d => dA d (vpM F A B h00 v w))
def dg9 (F : Nat → Int) (A : Nat → Int → Int) (B : Int → Int → Int) (v e : Int) (d : Int64) : Int → Int64 := pf d (fun w d => dA d (elP F A B h00 v e w))
def dgF (F : Nat → Int) (A : Nat → Int → Int) (B : Int → Int → Int) (v : Int) (d : Int64) : Int → Int64 := pf d (fun e d => dg9 F A B v e d 9)
def dgV (F : Nat → Int) (A : Nat → Int → Int) (B : Int → Int → Int) : Int → Int64 := pf (dgS F A B 5) (fun v d => dgF F A B v (dg7 F A B v d 7) (A 0 v))
def dgE (g : Int → Int) (d : Int64) : Int → Int64 := pf d (fun k d => dA d (g k))
def dgM (F : Nat → Int) (A : Nat → Int → Int) (B : Int → Int → Int) (g : Int → Int) : Int64 := dgE (evO A B g (F 4)) (dA (dA (dgV F A B (F 4)) (fauM F A B (F 4))) (ecT A B (F 4))) (4 * ecT A B (F 4))
