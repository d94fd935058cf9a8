/-! THE MATHEMATICAL STATE: what both sides are tied to.
(strikes win, devices, reckon d f e, deeds by number (sort, stamp, thing, value, number, knew), the line of all deeds, view's device, view's deed) -/
abbrev Sg : Type := Bool × Nat × (Nat → Nat → Nat → Nat) × ((Nat → Nat) × (Nat → Nat) × (Nat → Nat) × (Nat → Int32) × (Nat → Int32) × (Nat → Nat → Nat)) × List Nat × Int32 × Int32
def wn (σ : Sg) : Bool := σ.1
def nd (σ : Sg) : Nat := σ.2.1
def rk (σ : Sg) : Nat → Nat → Nat → Nat := σ.2.2.1
def so (σ : Sg) : Nat → Nat := σ.2.2.2.1.1
def sp (σ : Sg) : Nat → Nat := σ.2.2.2.1.2.1
def tg (σ : Sg) : Nat → Nat := σ.2.2.2.1.2.2.1
def vl (σ : Sg) : Nat → Int32 := σ.2.2.2.1.2.2.2.1
def nu (σ : Sg) : Nat → Int32 := σ.2.2.2.1.2.2.2.2.1
def kn (σ : Sg) : Nat → Nat → Nat := σ.2.2.2.1.2.2.2.2.2
def ln (σ : Sg) : List Nat := σ.2.2.2.2.1
def vd (σ : Sg) : Int32 := σ.2.2.2.2.2.1
def vn (σ : Sg) : Int32 := σ.2.2.2.2.2.2
/-- a deed is in the view of which the first see e deeds of each device e are seen -/
def inV (see : Nat → Nat) (x : Nat) : Bool := decide (x % 40 < see (x / 40))
def ahd (σ : Sg) (x y : Nat) : Bool := decide (sp σ x < sp σ y) || (decide (sp σ x = sp σ y) && decide (x / 40 < y / 40))
def cntF (σ : Sg) (see : Nat → Nat) (u t : Nat → Bool) (x : Nat) : Bool := inV see x && !u x && (so σ x == 0 || (so σ x != 7 && t (tg σ x)))
def ofF (σ : Sg) (see : Nat → Nat) (u t : Nat → Bool) (x y : Nat) : Bool := cntF σ see u t x && so σ x != 0 && tg σ x == y
def knw (σ : Sg) (x y : Nat) : Bool := decide (y % 40 < kn σ x (y / 40))
def chg (σ : Sg) (y : Nat) : Bool := so σ y == 1 || so σ y == 2 || so σ y == 5 || so σ y == 6
/-- of a strike x of t: nothing of t speaks against it -/
def hldF (σ : Sg) (see : Nat → Nat) (u t : Nat → Bool) (x y : Nat) : Bool := (List.range 160).all (fun z => !ofF σ see u t z y || (!(so σ z == 4 && knw σ z x) && (wn σ || !chg σ z || knw σ x z)))
def strF (σ : Sg) (see : Nat → Nat) (u t : Nat → Bool) (y : Nat) : Bool := (List.range 160).any (fun x => ofF σ see u t x y && so σ x == 3 && hldF σ see u t x y)
def namF (σ : Sg) (see : Nat → Nat) (u t : Nat → Bool) (l : List Nat) (y : Nat) : Int32 := l.foldl (fun a x => if ofF σ see u t x y && so σ x == 6 then vl σ x else a) (nu σ y)
def sumF (σ : Sg) (see : Nat → Nat) (u t : Nat → Bool) (y w : Nat) : Int32 := (List.range 160).foldl (fun a x => a + (if ofF σ see u t x y && so σ x == w then vl σ x else 0)) (if w = 1 then vl σ y else 0)
/-- bounds of what the deeds hold -/
def sgB (σ : Sg) : Prop := nd σ ≤ 4 ∧ (∀ d f e, rk σ d f e ≤ 40) ∧ ∀ x, so σ x ≤ 7 ∧ sp σ x < 1000 ∧ tg σ x < 160 ∧ ∀ e, kn σ x e ≤ 40
/-- the model's arrays hold the deeds -/
def MD (σ : Sg) (A : Nat → Nat → Int32) : Prop := sgB σ ∧ ∀ x, x < 160 → A 3 x = nI (so σ x) ∧ A 4 x = nI (sp σ x) ∧ A 5 x = nI (tg σ x) ∧ A 6 x = vl σ x ∧ A 7 x = nu σ x ∧ ∀ e, e < 4 → A 8 (4 * x + e) = nI (kn σ x e)
def MS (see : Nat → Nat) (A : Nat → Nat → Int32) : Prop := ∀ e, e < 4 → A 12 e = nI (see e) ∧ see e ≤ 40
def MU (u : Nat → Bool) (A : Nat → Nat → Int32) : Prop := ∀ x, x < 160 → A 15 x = b2i (u x)
def MT (t : Nat → Bool) (A : Nat → Nat → Int32) : Prop := ∀ x, x < 160 → A 16 x = b2i (t x)
theorem qt {Q : Option AV → AH → Prop} {h : AH} {B : Bool} (hB : B = true) (hq : Q (some (.inl (b2i B))) h) : Q (some (.inl 1)) h := by subst hB; exact hq
theorem qf {Q : Option AV → AH → Prop} {h : AH} {B : Bool} (hB : B = false) (hq : Q (some (.inl (b2i B))) h) : Q (some (.inl 0)) h := by subst hB; exact hq
theorem qi {Q : Option AV → AH → Prop} {h : AH} {x y : Int32} (hB : x = y) (hq : Q (some (.inl y)) h) : Q (some (.inl x)) h := by subst hB; exact hq
theorem i32_lt {x y : Int32} : x < y ↔ x.toInt < y.toInt := Int32.lt_iff_toInt_lt
theorem i32_le {x y : Int32} : x ≤ y ↔ x.toInt ≤ y.toInt := Int32.le_iff_toInt_le
theorem fb_subI0 {n : Nat} (h : n ≤ 4) : (nI n - nI 1).toInt = (n : Int) - 1 := by
  rcases (show n = 0 ∨ n = 1 ∨ n = 2 ∨ n = 3 ∨ n = 4 by omega) with rfl | rfl | rfl | rfl | rfl <;> decide
