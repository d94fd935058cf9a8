/-! the component's picture: rows are gathered -/
/-- which rows have cells -/
def RX (C : CC) (E : Nat → Nat → Bool) : Prop := ∀ i, i < 160 → (C 14 i = none ∧ E 23 i = false ∧ E 24 i = false) ∨ (C 14 i = some (23, i) ∧ E 23 i = true ∧ E 24 i = true)
/-- what the gathering leaves as it was -/
def FG (F : CF) (B : CB) (C : CC) (E : Nat → Nat → Bool) (F' : CF) (B' : CB) (C' : CC) (E' : Nat → Nat → Bool) : Prop := (∀ a i k, a ≠ 23 → ¬ (a = 5 ∧ i = 0 ∧ k = 10) → F' a i k = F a i k) ∧ (∀ a i, a ≠ 24 → B' a i = B a i) ∧ (∀ a, a ≠ 14 → C' a = C a) ∧ (∀ a i, a ≠ 23 → a ≠ 24 → E' a i = E a i)
def GJ (σ : Sg) (K : List Nat) (sk : Nat → Bool) (nm : Nat → Nat) (F : CF) (B : CB) (C : CC) (E : Nat → Nat → Bool) : Prop := PE E ∧ TX (thP σ K) F C E ∧ OO (odP σ K) F C E ∧ (∀ t, t < 160 → (thP σ K t = true ↔ t ∈ odP σ K)) ∧ LK K F C ∧ (∀ x, x ∈ K → DE σ F B E x) ∧
  (∀ t, t < 160 → thP σ K t = true → F 20 t 2 = b2i (sk t) ∧ TVal (tsP σ K t) t F B ∧ F 20 t 3 = nI (nm t) ∧ nm t < 1000) ∧ (∀ v x, v < 1000 → K.find? (kq σ sk nm v) = some x → C 13 v = some (20, x)) ∧ RX C E
theorem GJ.fg {σ : Sg} {K : List Nat} {sk : Nat → Bool} {nm : Nat → Nat} {F F' : CF} {B B' : CB} {C C' : CC} {E E' : Nat → Nat → Bool} (h : GJ σ K sk nm F B C E) (g : FG F B C E F' B' C' E') (rx : RX C' E') : GJ σ K sk nm F' B' C' E' := by
  obtain ⟨j1, j2, j3, j4, j5, j6, j7, j8, j9⟩ := h
  obtain ⟨g1, g2, g3, g4⟩ := g
  refine ⟨j1.of (fun a i _ _ _ h1 h2 => g4 a i h1 h2), fun t ht => ?_, ⟨by rw [g1 _ _ _ (by omega) (by omega)]; exact j3.1, j3.2.1, j3.2.2.1, fun k t hk => ?_⟩, j4, ⟨by rw [g1 _ _ _ (by omega) (by omega)]; exact j5.1, by rw [g3 8 (by omega)]; exact j5.2⟩, fun x hx => ?_, fun t ht hh => ?_, fun v x hv hx => by rw [g3 13 (by omega)]; exact j8 v x hv hx, rx⟩
  · rw [g3 9 (by omega), g1 20 t 0 (by omega) (by omega), g1 20 t 1 (by omega) (by omega), g4 20 t (by omega) (by omega), g4 21 t (by omega) (by omega), g4 22 t (by omega) (by omega)]
    exact j2 t ht
  · rw [g3 12 (by omega), g1 20 t 6 (by omega) (by omega), g4 20 t (by omega) (by omega)]
    exact j3.2.2.2 k t hk
  · obtain ⟨a1, a2, a3, a4⟩ := j6 x hx
    refine ⟨a1, by rw [g4 18 x (by omega) (by omega)]; exact a2, by rw [g4 19 x (by omega) (by omega)]; exact a3, ?_⟩
    rw [g1 18 x 0 (by omega) (by omega), g1 18 x 1 (by omega) (by omega), g1 18 x 2 (by omega) (by omega), g1 18 x 3 (by omega) (by omega), g1 18 x 4 (by omega) (by omega), g1 18 x 5 (by omega) (by omega), g1 18 x 6 (by omega) (by omega), g2 19 x (by omega)]
    exact a4
  · obtain ⟨v1, ⟨w1, w2, w3, w4⟩, v3, v4⟩ := j7 t ht hh
    unfold TVal
    rw [g1 20 t 2 (by omega) (by omega), g1 20 t 3 (by omega) (by omega), g1 20 t 4 (by omega) (by omega), g1 20 t 5 (by omega) (by omega), g2 21 t (by omega), g2 22 t (by omega)]
    exact ⟨v1, ⟨w1, w2, w3, w4⟩, v3, v4⟩
theorem FG.rfl {F : CF} {B : CB} {C : CC} {E : Nat → Nat → Bool} : FG F B C E F B C E := ⟨fun _ _ _ _ _ => Eq.refl _, fun _ _ _ => Eq.refl _, fun _ _ => Eq.refl _, fun _ _ _ _ => Eq.refl _⟩
theorem FG.trans {F F' F'' : CF} {B B' B'' : CB} {C C' C'' : CC} {E E' E'' : Nat → Nat → Bool} (h : FG F B C E F' B' C' E') (g : FG F' B' C' E' F'' B'' C'' E'') : FG F B C E F'' B'' C'' E'' :=
  ⟨fun a i k h1 h2 => (g.1 a i k h1 h2).trans (h.1 a i k h1 h2), fun a i h1 => (g.2.1 a i h1).trans (h.2.1 a i h1), fun a h1 => (g.2.2.1 a h1).trans (h.2.2.1 a h1), fun a i h1 h2 => (g.2.2.2 a i h1 h2).trans (h.2.2.2 a i h1 h2)⟩
/-- a buy in the row of name v -/
def bq (σ : Sg) (sk : Nat → Bool) (nm : Nat → Nat) (v x : Nat) : Bool := so σ x == 2 && !sk (tg σ x) && nm (tg σ x) == v
def rbS (σ : Sg) (sk : Nat → Bool) (nm : Nat → Nat) (v : Nat) (s : Bool × (Nat → Nat)) (x : Nat) : Bool × (Nat → Nat) := if bq σ sk nm v x then (s.1 || !(List.range 4).all (fun e => decide (s.2 e ≤ kw σ x e)), tuS x s.2) else s
def rbP (σ : Sg) (sk : Nat → Bool) (nm : Nat → Nat) (v : Nat) (P : List Nat) : Bool × (Nat → Nat) := P.foldl (rbS σ sk nm v) (false, fun _ => 0)
theorem rbP_snoc (σ : Sg) (sk : Nat → Bool) (nm : Nat → Nat) (v : Nat) (P : List Nat) (x : Nat) : rbP σ sk nm v (P ++ [x]) = rbS σ sk nm v (rbP σ sk nm v P) x := by
  unfold rbP
  rw [List.foldl_append]
  rfl
/-- a row's sum -/
def rcP (sk : Nat → Bool) (nm : Nat → Nat) (f : Nat → Int32) (v : Nat) (l : List Nat) : Int32 := l.foldl (fun a t => if !sk t && nm t == v then a + f t else a) 0
theorem rcP_snoc (sk : Nat → Bool) (nm : Nat → Nat) (f : Nat → Int32) (v : Nat) (l : List Nat) (t : Nat) : rcP sk nm f v (l ++ [t]) = if !sk t && nm t == v then rcP sk nm f v l + f t else rcP sk nm f v l := by
  unfold rcP
  rw [List.foldl_append]
  rfl
def RW3 (σ : Sg) (sk : Nat → Bool) (nm : Nat → Nat) (R P : List Nat) (F : CF) (B : CB) (C : CC) (E : Nat → Nat → Bool) : Prop := ∀ (j t : Nat), R[j]? = some t → C 14 j = some (23, j) ∧ E 23 j = true ∧ E 24 j = true ∧ F 23 j 5 = b2i (rbP σ sk nm (nm t) P).1 ∧ ∀ e, e < 4 → B 24 j e = nI ((rbP σ sk nm (nm t) P).2 e) ∧ (rbP σ sk nm (nm t) P).2 e ≤ 41
section
variable {F : CF} {B : CB} {C : CC} {Wr : Nat → Option Nd} {E : Nat → Nat → Bool} {r : AH} {Q : Option AV → AH → Prop} {h : AH} {σ : Sg} {see : Nat → Nat} {K : List Nat} {sk : Nat → Bool} {nm : Nat → Nat}
theorem c_Pi_openRow {t n : Nat} (hP : PE E) (hR : RX C E) (hn : F 5 0 10 = nI n) (n160 : n < 160) (h20 : E 20 t = true) (hq : ∀ (F' : CF) (B' : CB) (C' : CC) (E' : Nat → Nat → Bool), (∀ a i k, ¬ (a = 23 ∧ i = n) → ¬ (a = 5 ∧ i = 0 ∧ k = 10) → F' a i k = F a i k) → (∀ a i, ¬ (a = 24 ∧ i = n) → B' a i = B a i) → (∀ a k, ¬ (a = 14 ∧ k = n) → C' a k = C a k) → (∀ a i, ¬ ((a = 23 ∨ a = 24) ∧ i = n) → E' a i = E a i) → C' 14 n = some (23, n) → E' 23 n = true → E' 24 n = true → F' 5 0 10 = nI (n + 1) → (F' 23 n 0 = F 20 t 0 ∧ F' 23 n 1 = F 20 t 3 ∧ F' 23 n 2 = 0 ∧ F' 23 n 3 = 0 ∧ F' 23 n 4 = 0 ∧ F' 23 n 5 = 0) → (∀ e, e < 4 → B' 24 n e = 0) → Q none (cH F' B' C' (up1 Wr t (some (23, n))) E' r)) : X M_Pi_openRow (rmo M_Pi_openRow 2 11) (Zm Q 2 11) 0 (ini M_Pi_openRow [.inr (some (5, 0)), .inr (some (20, t))]) [] (cH F B C Wr E r) 0 0 := by
  have h5 := hP.1
  have h14 : E 14 0 = true := hP.at (by omega)
  have fin : ∀ (F1 : CF) (B1 : CB) (C1 : CC) (E1 : Nat → Nat → Bool), (∀ a i k, ¬ (a = 23 ∧ i = n) → F1 a i k = F a i k) → (∀ a i, ¬ (a = 24 ∧ i = n) → B1 a i = B a i) → (∀ a k, ¬ (a = 14 ∧ k = n) → C1 a k = C a k) → (∀ a i, ¬ ((a = 23 ∨ a = 24) ∧ i = n) → E1 a i = E a i) → C1 14 n = some (23, n) → E1 23 n = true → E1 24 n = true → X M_Pi_openRow (rmo M_Pi_openRow 2 11) (Zm Q 2 11) 28 [some (.inr (some (5, 0))), some (.inr (some (20, t)))] [] (cH F1 B1 C1 Wr E1 r) 2 11 := by
    intro F1 B1 C1 E1 hF hB hC hE c14 e23 e24
    have q5 : E1 5 0 = true := by rw [hE 5 0 (by omega)]; exact h5
    have q14 : E1 14 0 = true := by rw [hE 14 0 (by omega)]; exact h14
    have q20 : E1 20 t = true := by rw [hE 20 t (by omega)]; exact h20
    have f10 : F1 5 0 10 = nI n := by rw [hF 5 0 10 (by omega)]; exact hn
    refine X_run 1 (pc' := 29) (L' := [some (.inr (some (5, 0))), some (.inr (some (20, t)))]) (st' := [.inr (some (5, 0))]) rfl ?_
    refine XC_get (a := 5) (i := 0) (v := .inr (some (14, 0))) rfl f_Pi_46 ⟨rfl, rfl⟩ (by assumption) rfl rfl ?_
    refine X_run 1 (pc' := 33) (L' := [some (.inr (some (5, 0))), some (.inr (some (20, t)))]) (st' := [.inr (some (5, 0)), .inr (some (14, 0))]) rfl ?_
    refine XC_get (a := 5) (i := 0) (v := .inl (F1 5 0 10)) rfl f_Pi_50 ⟨rfl, rfl⟩ (by assumption) rfl rfl ?_
    refine X_eq (st' := [.inl (nI n), .inr (some (14, 0))]) rfl (congrArg (fun zz9 => Sum.inl zz9 :: _) (f10)) rfl ?_
    refine XC_ald (a := 14) (i := 0) (j := n) (v := (C1 14 n)) rfl ⟨rfl, by decide, by decide⟩ (by assumption) (by simp only [rLn]; omega) rfl rfl ?_
    rw [c14]
    refine X_run 1 (pc' := 38) (L' := [some (.inr (some (5, 0))), some (.inr (some (20, t)))]) (st' := [.inr (some (20, t)), .inr (some (23, n))]) rfl ?_
    refine X_callV (vs := [.inr (some (20, t))]) (st := []) (mc := 0) (ms := 0) rfl ok_Rw_begin v_Pi_190 (cH_obj rfl (by assumption)) rfl rfl (Nat.le_of_ble_eq_true rfl) (Nat.le_of_ble_eq_true rfl) (Nat.le_of_ble_eq_true rfl) (Nat.le_of_ble_eq_true rfl) (Nat.le_of_ble_eq_true rfl) (Nat.le_of_ble_eq_true rfl) rfl ?_
    refine c_Rw_begin q20 e23 e24 (fun F2 f g1 g2 g3 => ?_)
    show X M_Pi_openRow _ _ 41 [some (.inr (some (5, 0))), some (.inr (some (20, t)))] [] (cH F2 (uR B1 24 n f) C1 Wr E1 r) 2 11
    have f10' : F2 5 0 10 = nI n := by rw [g1 5 0 10 (by omega)]; exact f10
    refine X_run 2 (pc' := 43) (L' := [some (.inr (some (5, 0))), some (.inr (some (20, t)))]) (st' := [.inr (some (5, 0)), .inr (some (20, t))]) rfl ?_
    refine XC_get (a := 5) (i := 0) (v := .inr (some (14, 0))) rfl f_Pi_46 ⟨rfl, rfl⟩ (by assumption) rfl rfl ?_
    refine X_run 1 (pc' := 47) (L' := [some (.inr (some (5, 0))), some (.inr (some (20, t)))]) (st' := [.inr (some (5, 0)), .inr (some (14, 0)), .inr (some (20, t))]) rfl ?_
    refine XC_get (a := 5) (i := 0) (v := .inl (F2 5 0 10)) rfl f_Pi_50 ⟨rfl, rfl⟩ (by assumption) rfl rfl ?_
    refine X_eq (st' := [.inl (nI n), .inr (some (14, 0)), .inr (some (20, t))]) rfl (congrArg (fun zz9 => Sum.inl zz9 :: _) (f10')) rfl ?_
    refine XC_ald (a := 14) (i := 0) (j := n) (v := (C1 14 n)) rfl ⟨rfl, by decide, by decide⟩ (by assumption) (by simp only [rLn]; omega) rfl rfl ?_
    rw [c14]
    refine XC_putW (i := t) rfl f_Pi_179 (by assumption) rfl ?_
    refine X_run 2 (pc' := 56) (L' := [some (.inr (some (5, 0))), some (.inr (some (20, t)))]) (st' := [.inr (some (5, 0)), .inr (some (5, 0))]) rfl ?_
    refine XC_get (a := 5) (i := 0) (v := .inl (F2 5 0 10)) rfl f_Pi_50 ⟨rfl, rfl⟩ (by assumption) rfl rfl ?_
    refine X_eq (st' := [.inl (nI n), .inr (some (5, 0))]) rfl (congrArg (fun zz9 => Sum.inl zz9 :: _) (f10')) rfl ?_
    refine X_run 2 (pc' := 61) (L' := [some (.inr (some (5, 0))), some (.inr (some (20, t)))]) (st' := [.inl ((nI n) + 1), .inr (some (5, 0))]) rfl ?_
    refine X_eq (st' := [.inl (nI (n + 1)), .inr (some (5, 0))]) rfl (congrArg (fun zz9 => Sum.inl zz9 :: _) (by first | rfl | exact congrArg nI (by omega) | (simp only [il_0, il_1, il_2, il_3, il_4, il_5, il_6, il_7, il_16, il_20, il_40, il_160, pk_mul, nI_add]; done) | (simp only [il_0, il_1, il_2, il_3, il_4, il_5, il_6, il_7, il_16, il_20, il_40, il_160, pk_mul, nI_add]; exact congrArg nI (by omega)))) rfl ?_
    refine XC_put (k := 10) (a := 5) (i := 0) rfl f_Pi_50 rfl rfl rfl ⟨rfl, rfl⟩ ⟨rfl, rfl⟩ (by assumption) (fun _ => ⟨rfl, rfl⟩) rfl ?_
    refine X_vret rfl rfl (Nat.le_refl _) (Nat.le_refl _) (hq _ _ _ _ (fun a i k h1 h2 => by rw [u3_ne h2, g1 a i k (by omega), hF a i k h1]) (fun a i h1 => by rw [uR_ne h1, hB a i h1]) hC hE c14 e23 e24 (u3_eq _ _ _ _ _) ?_ (fun e he => by rw [uR_eq]; exact g3 e he))
    rw [u3_ne (by omega), u3_ne (by omega), u3_ne (by omega), u3_ne (by omega), u3_ne (by omega), u3_ne (by omega), ← hF 20 t 0 (by omega), ← hF 20 t 3 (by omega)]
    exact g2
  show X M_Pi_openRow _ _ 0 [some (.inr (some (5, 0))), some (.inr (some (20, t)))] [] (cH F B C Wr E r) 0 0
  refine X_run 1 (pc' := 1) (L' := [some (.inr (some (5, 0))), some (.inr (some (20, t)))]) (st' := [.inr (some (5, 0))]) rfl ?_
  refine XC_get (a := 5) (i := 0) (v := .inr (some (14, 0))) rfl f_Pi_46 ⟨rfl, rfl⟩ (by assumption) rfl rfl ?_
  refine X_run 1 (pc' := 5) (L' := [some (.inr (some (5, 0))), some (.inr (some (20, t)))]) (st' := [.inr (some (5, 0)), .inr (some (14, 0))]) rfl ?_
  refine XC_get (a := 5) (i := 0) (v := .inl (F 5 0 10)) rfl f_Pi_50 ⟨rfl, rfl⟩ (by assumption) rfl rfl ?_
  refine X_eq (st' := [.inl (nI n), .inr (some (14, 0))]) rfl (congrArg (fun zz9 => Sum.inl zz9 :: _) (hn)) rfl ?_
  refine XC_ald (a := 14) (i := 0) (j := n) (v := (C 14 n)) rfl ⟨rfl, by decide, by decide⟩ (by assumption) (by simp only [rLn]; omega) rfl rfl ?_
  rcases hR n n160 with ⟨c1, c2, c3⟩ | ⟨c1, c2, c3⟩
  · rw [c1]
    refine X_ifnonnull (tgt := 28) (nx := 12) rfl rfl rfl (fun nn n1 => ?_) (fun n1 => ?_)
    · cases n1
    · refine X_run 1 (pc' := 13) (L' := [some (.inr (some (5, 0))), some (.inr (some (20, t)))]) (st' := [.inr (some (5, 0))]) rfl ?_
      refine XC_get (a := 5) (i := 0) (v := .inr (some (14, 0))) rfl f_Pi_46 ⟨rfl, rfl⟩ (by assumption) rfl rfl ?_
      refine X_run 1 (pc' := 17) (L' := [some (.inr (some (5, 0))), some (.inr (some (20, t)))]) (st' := [.inr (some (5, 0)), .inr (some (14, 0))]) rfl ?_
      refine XC_get (a := 5) (i := 0) (v := .inl (F 5 0 10)) rfl f_Pi_50 ⟨rfl, rfl⟩ (by assumption) rfl rfl ?_
      refine X_eq (st' := [.inl (nI n), .inr (some (14, 0))]) rfl (congrArg (fun zz9 => Sum.inl zz9 :: _) (hn)) rfl ?_
      refine X_new (n := (23, n)) (ci := 4) (q := (R_Rw, T_Rw, 7)) (t := t_Rw) (nx := 23) rfl rfl rfl c_Pi_44 (cH_none (by decide) c2) (Nat.le_of_ble_eq_true rfl) (Nat.le_of_ble_eq_true rfl) rfl ?_
      refine X_run 1 (pc' := 24) (L' := [some (.inr (some (5, 0))), some (.inr (some (20, t)))]) (st' := [.inr (some (23, n)), .inr (some (23, n)), .inl (nI n), .inr (some (14, 0))]) rfl ?_
      refine X_callI (vs := []) (st := [.inr (some (23, n)), .inl (nI n), .inr (some (14, 0))]) (mc := 1) (ms := 4) rfl ok_Rw_init i_Pi_189 rfl rfl (Nat.le_of_ble_eq_true rfl) (Nat.le_of_ble_eq_true rfl) (Nat.le_of_ble_eq_true rfl) (Nat.le_of_ble_eq_true rfl) (Nat.le_of_ble_eq_true rfl) (Nat.le_of_ble_eq_true rfl) rfl ?_
      refine c_Rw_init c3 (fun f => ?_)
      have e14 : ∀ i, e2 (e2 E 24 n) 23 n 14 i = true ↔ i = 0 := fun i => by
        rw [e2_ne (by omega), e2_ne (by omega)]
        exact hP.2.2.2 14 (by omega) i
      show X M_Pi_openRow _ _ 27 [some (.inr (some (5, 0))), some (.inr (some (20, t)))] [.inr (some (23, n)), .inl (nI n), .inr (some (14, 0))] (cH (uR F 23 n f) (uR B 24 n (fun _ => 0)) C Wr (e2 (e2 E 24 n) 23 n) r) 2 11
      refine XC_ast (a := 14) (j := n) (a2 := 23) (i2 := n) rfl ⟨rfl, by decide⟩ (e14) (by simp only [rLn]; omega) rfl (e2_eq _ _ _) rfl rfl rfl ?_
      refine fin _ _ _ _ (fun a i k hh => by rw [uR_ne hh]) (fun a i hh => uR_ne hh) (fun a k hh => u2_ne hh) (fun a i hh => by rw [e2_ne (by omega), e2_ne (by omega)]) (u2_eq _ _ _ _) (e2_eq _ _ _) (e2_mono (e2_eq _ _ _))
  · rw [c1]
    refine X_ifnonnull (tgt := 28) (nx := 12) rfl rfl rfl (fun nn n1 => ?_) (fun n1 => ?_)
    · exact X_widen (by omega) (by omega) (fin F B C E (fun _ _ _ _ => rfl) (fun _ _ _ => rfl) (fun _ _ _ => rfl) (fun _ _ _ => rfl) c1 c2 c3)
    · cases n1
theorem c_gr3 {R : List Nat} {o1 o2 : Option AV} (hG : GJ σ K sk nm F B C E) (hK : KL σ K) (hW : ∀ t, t < 160 → thP σ K t = true → (sk t = true ∧ Wr t = none) ∨ (sk t = false ∧ ∃ (j kx : Nat), R[j]? = some kx ∧ nm kx = nm t ∧ Wr t = some (23, j))) (hinj : ∀ (i j s t : Nat), R[i]? = some s → R[j]? = some t → nm s = nm t → i = j) (h3 : RW3 σ sk nm R [] F B C E)
    (hq : ∀ (F' : CF) (B' : CB), (∀ a i k, ¬ (a = 23 ∧ k = 5) → F' a i k = F a i k) → (∀ a i, a ≠ 24 → B' a i = B a i) → RW3 σ sk nm R K F' B' C E → Q none (cH F' B' C Wr E r)) : X M_Pi_gatherRows (rmo M_Pi_gatherRows 320 1760) (Zm Q 320 1760) 133 [some (.inr (some (5, 0))), o1, o2] [] (cH F B C Wr E r) 320 1760 := by
  have k160 := hK.1
  refine X_run 2 (pc' := 135) (L' := [some (.inr (some (5, 0))), some (.inl (0)), o2]) (st' := []) rfl ?_
  refine X_eq (L' := [some (.inr (some (5, 0))), some (.inl (nI (0))), o2]) (congrArg (fun zz9 : Int32 => ([some (.inr (some (5, 0))), some (.inl zz9), o2] : List (Option AV))) (by first | rfl | exact congrArg nI (by omega) | (simp only [il_0, il_1, il_2, il_3, il_4, il_5, il_6, il_7, il_16, il_20, il_40, il_160, pk_mul, nI_add]; done) | (simp only [il_0, il_1, il_2, il_3, il_4, il_5, il_6, il_7, il_16, il_20, il_40, il_160, pk_mul, nI_add]; exact congrArg nI (by omega)))) rfl rfl ?_
  refine up_ind K.length (fun i => ∀ (F1 : CF) (B1 : CB) (o : Option AV), (∀ a i k, ¬ (a = 23 ∧ k = 5) → F1 a i k = F a i k) → (∀ a i, a ≠ 24 → B1 a i = B a i) → RW3 σ sk nm R (K.take i) F1 B1 C E → X M_Pi_gatherRows (rmo M_Pi_gatherRows 320 1760) (Zm Q 320 1760) 135 [some (.inr (some (5, 0))), some (.inl (nI i)), o] [] (cH F1 B1 C Wr E r) 320 1760) ?_ 0 (by omega) F B o2 (fun _ _ _ _ => rfl) (fun _ _ _ => rfl) h3
  intro i hi ih F1 B1 o hF1 hB1 h31
  have hG1 : GJ σ K sk nm F1 B1 C E := hG.fg ⟨fun a i k h1 h2 => hF1 a i k (by omega), hB1, fun _ _ => rfl, fun _ _ _ _ => rfl⟩ hG.2.2.2.2.2.2.2.2
  obtain ⟨j1, j2, j3, j4, j5, j6, j7, -, -⟩ := hG1
  have h5 := j1.1
  have h8 : E 8 0 = true := j1.at (by omega)
  refine X_run 2 (pc' := 137) (L' := [some (.inr (some (5, 0))), some (.inl (nI i)), o]) (st' := [.inr (some (5, 0)), .inl (nI i)]) rfl ?_
  refine XC_get (a := 5) (i := 0) (v := .inl (F1 5 0 4)) rfl f_Pi_25 ⟨rfl, rfl⟩ (by assumption) rfl rfl ?_
  refine X_eq (st' := [.inl (nI K.length), .inl (nI i)]) rfl (congrArg (fun zz9 => Sum.inl zz9 :: _) (j5.1)) rfl ?_
  refine X_ic_ge (tgt := 200) (nx := 143) rfl rfl rfl (fun n1 => ?_) (fun n1 => ?_)
  · have n1 := li_le (by omega) (by omega) n1
    have e : i = K.length := by omega
    rw [e, List.take_length] at h31
    exact X_vret rfl rfl (Nat.le_refl _) (Nat.le_refl _) (hq F1 B1 hF1 hB1 h31)
  · have n1 := li_nle (by omega) (by omega) n1
    obtain ⟨x, hx⟩ : ∃ x, K[i]? = some x := ⟨_, List.getElem?_eq_getElem n1⟩
    have hxl := List.mem_of_getElem? hx
    have tk : K.take (i + 1) = K.take i ++ [x] := by rw [List.take_add_one, hx]; rfl
    have hDx := j6 x hxl
    have hDx' := hDx
    obtain ⟨x0, x18, x19, xd, xn, xso, xsp, xtg, -, -, -, xkw, xs7, -, xtl⟩ := hDx'
    obtain ⟨t, et⟩ : ∃ t, tg σ x = t := ⟨_, rfl⟩
    have hth := (hK.at hxl).2.2
    rw [et] at hth xtg xtl
    obtain ⟨c9, t20, t21, t22, tn⟩ := j2.on xtl hth
    have c8 := j5.2 i x hx
    have skip : (∀ v, bq σ sk nm v x = false) → ∀ o : Option AV, X M_Pi_gatherRows (rmo M_Pi_gatherRows 320 1760) (Zm Q 320 1760) 194 [some (.inr (some (5, 0))), some (.inl (nI i)), o] [] (cH F1 B1 C Wr E r) 320 1760 := by
      intro hb o
      refine X_run 2 (pc' := 135) (L' := [some (.inr (some (5, 0))), some (.inl (nI i + 1)), o]) (st' := []) rfl ?_
      refine X_eq (L' := [some (.inr (some (5, 0))), some (.inl (nI (i + 1))), o]) (congrArg (fun zz9 : Int32 => ([some (.inr (some (5, 0))), some (.inl zz9), o] : List (Option AV))) (by first | rfl | exact congrArg nI (by omega) | (simp only [il_0, il_1, il_2, il_3, il_4, il_5, il_6, il_7, il_16, il_20, il_40, il_160, pk_mul, nI_add]; done) | (simp only [il_0, il_1, il_2, il_3, il_4, il_5, il_6, il_7, il_16, il_20, il_40, il_160, pk_mul, nI_add]; exact congrArg nI (by omega)))) rfl rfl ?_
      refine ih n1 F1 B1 o hF1 hB1 (fun j s hj => ?_)
      rw [tk, rbP_snoc]
      unfold rbS
      rw [hb]
      exact h31 j s hj
    refine X_run 2 (pc' := 145) (L' := [some (.inr (some (5, 0))), some (.inl (nI i)), o]) (st' := [.inr (some (5, 0)), .inr (some (5, 0))]) rfl ?_
    refine XC_get (a := 5) (i := 0) (v := .inr (some (8, 0))) rfl f_Pi_21 ⟨rfl, rfl⟩ (by assumption) rfl rfl ?_
    refine X_run 1 (pc' := 149) (L' := [some (.inr (some (5, 0))), some (.inl (nI i)), o]) (st' := [.inl (nI i), .inr (some (8, 0)), .inr (some (5, 0))]) rfl ?_
    refine XC_ald (a := 8) (i := 0) (j := i) (v := (C 8 i)) rfl ⟨rfl, by decide, by decide⟩ (by assumption) (by simp only [rLn]; omega) rfl rfl ?_
    rw [c8]
    refine XC_get (a := 18) (i := x) (v := .inl (F1 18 x 4)) rfl f_Pi_110 ⟨rfl, rfl⟩ (by assumption) rfl rfl ?_
    refine X_eq (st' := [.inl (nI t), .inr (some (5, 0))]) rfl (congrArg (fun zz9 => Sum.inl zz9 :: _) (xtg)) rfl ?_
    refine X_callV (vs := [.inl (nI t)]) (st := []) (mc := 0) (ms := 0) rfl ok_Pi_find v_Pi_140 (cH_obj rfl (by assumption)) rfl rfl (Nat.le_of_ble_eq_true rfl) (Nat.le_of_ble_eq_true rfl) (Nat.le_of_ble_eq_true rfl) (Nat.le_of_ble_eq_true rfl) (Nat.le_of_ble_eq_true rfl) (Nat.le_of_ble_eq_true rfl) rfl ?_
    refine c_Pi_find1 j1 j2.TH xtl (fun _ => ?_) (fun z => by rw [hth] at z; cases z)
    show X M_Pi_gatherRows _ _ 156 [some (.inr (some (5, 0))), some (.inl (nI i)), o] [.inr (some (20, t))] (cH F1 B1 C Wr E r) 320 1760
    refine X_run 2 (pc' := 158) (L' := [some (.inr (some (5, 0))), some (.inl (nI i)), some (.inr (some (20, t)))]) (st' := [.inr (some (5, 0))]) rfl ?_
    refine XC_get (a := 5) (i := 0) (v := .inr (some (8, 0))) rfl f_Pi_21 ⟨rfl, rfl⟩ (by assumption) rfl rfl ?_
    refine X_run 1 (pc' := 162) (L' := [some (.inr (some (5, 0))), some (.inl (nI i)), some (.inr (some (20, t)))]) (st' := [.inl (nI i), .inr (some (8, 0))]) rfl ?_
    refine XC_ald (a := 8) (i := 0) (j := i) (v := (C 8 i)) rfl ⟨rfl, by decide, by decide⟩ (by assumption) (by simp only [rLn]; omega) rfl rfl ?_
    rw [c8]
    refine XC_get (a := 18) (i := x) (v := .inl (F1 18 x 2)) rfl f_Pi_103 ⟨rfl, rfl⟩ (by assumption) rfl rfl ?_
    refine X_eq (st' := [.inl (nI (so σ x))]) rfl (congrArg (fun zz9 => Sum.inl zz9 :: _) (xso)) rfl ?_
    refine X_run 1 (pc' := 167) (L' := [some (.inr (some (5, 0))), some (.inl (nI i)), some (.inr (some (20, t)))]) (st' := [.inl (2), .inl (nI (so σ x))]) rfl ?_
    refine X_ic_ne (tgt := 194) (nx := 170) rfl rfl rfl (fun n2 => ?_) (fun n2 => ?_)
    · have n2 := li_ne (b := 2) n2
      exact skip (fun v => by simp [bq, n2]) _
    · have n2 := li_eq (b := 2) (by omega) (by omega) n2
      refine X_run 1 (pc' := 171) (L' := [some (.inr (some (5, 0))), some (.inl (nI i)), some (.inr (some (20, t)))]) (st' := [.inr (some (20, t))]) rfl ?_
      refine X_ifnull (tgt := 194) (nx := 174) rfl rfl rfl (fun n3 => ?_) (fun nn n3 => ?_)
      · cases n3
      · refine X_run 1 (pc' := 175) (L' := [some (.inr (some (5, 0))), some (.inl (nI i)), some (.inr (some (20, t)))]) (st' := [.inr (some (20, t))]) rfl ?_
        refine XC_get (a := 20) (i := t) (v := .inr (Wr t)) rfl f_Pi_179 ⟨rfl, rfl⟩ (by assumption) rfl rfl ?_
        rcases hW t xtl hth with ⟨s1, w1⟩ | ⟨s1, j, kx, hj, hnm, w1⟩
        · rw [w1]
          refine X_ifnull (tgt := 194) (nx := 181) rfl rfl rfl (fun n4 => ?_) (fun nn n4 => ?_)
          · exact skip (fun v => by simp [bq, et, s1]) _
          · cases n4
        · rw [w1]
          refine X_ifnull (tgt := 194) (nx := 181) rfl rfl rfl (fun n4 => ?_) (fun nn n4 => ?_)
          · cases n4
          · refine X_run 1 (pc' := 182) (L' := [some (.inr (some (5, 0))), some (.inl (nI i)), some (.inr (some (20, t)))]) (st' := [.inr (some (20, t))]) rfl ?_
            refine XC_get (a := 20) (i := t) (v := .inr (Wr t)) rfl f_Pi_179 ⟨rfl, rfl⟩ (by assumption) rfl rfl ?_
            rw [w1]
            refine X_run 1 (pc' := 186) (L' := [some (.inr (some (5, 0))), some (.inl (nI i)), some (.inr (some (20, t)))]) (st' := [.inr (some (5, 0)), .inr (some (23, j))]) rfl ?_
            refine XC_get (a := 5) (i := 0) (v := .inr (some (8, 0))) rfl f_Pi_21 ⟨rfl, rfl⟩ (by assumption) rfl rfl ?_
            refine X_run 1 (pc' := 190) (L' := [some (.inr (some (5, 0))), some (.inl (nI i)), some (.inr (some (20, t)))]) (st' := [.inl (nI i), .inr (some (8, 0)), .inr (some (23, j))]) rfl ?_
            refine XC_ald (a := 8) (i := 0) (j := i) (v := (C 8 i)) rfl ⟨rfl, by decide, by decide⟩ (by assumption) (by simp only [rLn]; omega) rfl rfl ?_
            rw [c8]
            obtain ⟨q1, q23, q24, q5, qB⟩ := h31 j kx hj
            refine X_callV (vs := [.inr (some (18, x))]) (st := []) (mc := 0) (ms := 0) rfl ok_Rw_checkBuy v_Pi_186 (cH_obj rfl (by assumption)) rfl rfl (Nat.le_of_ble_eq_true rfl) (Nat.le_of_ble_eq_true rfl) (Nat.le_of_ble_eq_true rfl) (Nat.le_of_ble_eq_true rfl) (Nat.le_of_ble_eq_true rfl) (Nat.le_of_ble_eq_true rfl) rfl ?_
            refine c_Rw_checkBuy (m := (rbP σ sk nm (nm kx) (K.take i)).2) hDx q23 q24 (fun e he => ⟨(qB e he).1, by have := (qB e he).2; omega⟩) (fun b f hb hf => ?_)
            have eb : b = (List.range 4).all (fun e => decide ((rbP σ sk nm (nm kx) (K.take i)).2 e ≤ kw σ x e)) := by
              rw [Bool.eq_iff_iff, hb, List.all_eq_true]
              simp
            have fo : ∀ a i k, ¬ (a = 23 ∧ i = j ∧ k = 5) → (if b then F1 else u3 F1 23 j 5 1) a i k = F1 a i k := fun a i k hh => by
              cases b
              · exact u3_ne hh
              · rfl
            have f5 : (if b then F1 else u3 F1 23 j 5 1) 23 j 5 = b2i ((rbP σ sk nm (nm kx) (K.take i)).1 || !b) := by
              cases b
              · rw [show (!false) = true from rfl, Bool.or_true]
                exact u3_eq _ _ _ _ _
              · rw [show (!true) = false from rfl, Bool.or_false]
                exact q5
            generalize (if b then F1 else u3 F1 23 j 5 1) = F2 at fo f5
            show X M_Pi_gatherRows _ _ 194 [some (.inr (some (5, 0))), some (.inl (nI i)), some (.inr (some (20, t)))] [] (cH F2 (uR B1 24 j f) C Wr E r) 320 1760
            refine X_run 2 (pc' := 135) (L' := [some (.inr (some (5, 0))), some (.inl (nI i + 1)), some (.inr (some (20, t)))]) (st' := []) rfl ?_
            refine X_eq (L' := [some (.inr (some (5, 0))), some (.inl (nI (i + 1))), some (.inr (some (20, t)))]) (congrArg (fun zz9 : Int32 => ([some (.inr (some (5, 0))), some (.inl zz9), some (.inr (some (20, t)))] : List (Option AV))) (by first | rfl | exact congrArg nI (by omega) | (simp only [il_0, il_1, il_2, il_3, il_4, il_5, il_6, il_7, il_16, il_20, il_40, il_160, pk_mul, nI_add]; done) | (simp only [il_0, il_1, il_2, il_3, il_4, il_5, il_6, il_7, il_16, il_20, il_40, il_160, pk_mul, nI_add]; exact congrArg nI (by omega)))) rfl rfl ?_
            refine ih n1 F2 _ _ (fun a i k hh => by rw [fo a i k (by omega), hF1 a i k hh]) (fun a i hh => by rw [uR_ne (by omega), hB1 a i hh]) (fun j' s hj' => ?_)
            obtain ⟨p1, p23, p24, p5, pB⟩ := h31 j' s hj'
            rw [tk, rbP_snoc]
            by_cases q : j' = j
            · rw [q, hj] at hj'
              cases hj'
              have hbq : bq σ sk nm (nm kx) x = true := by simp [bq, n2, et, s1, hnm]
              unfold rbS
              rw [hbq, q]
              refine ⟨q1, q23, q24, ?_, fun e he => ?_⟩
              · rw [f5, eb]
                rfl
              · rw [uR_eq, hf e he]
                refine ⟨rfl, ?_⟩
                have := (qB e he).2
                show tuS x _ e ≤ 41
                unfold tuS
                split <;> omega
            · have hbq : bq σ sk nm (nm s) x = false := by
                have : nm t ≠ nm s := fun z => q (hinj j' j s kx hj' hj (by rw [hnm, z]))
                simp [bq, et, this]
              unfold rbS
              rw [hbq]
              refine ⟨p1, p23, p24, by rw [fo _ _ _ (by omega)]; exact p5, fun e he => ?_⟩
              rw [uR_ne (by omega)]
              exact pB e he
theorem c_gr2 {R : List Nat} {o1 o2 : Option AV} (hG : GJ σ K sk nm F B C E) (hK : KL σ K) (hwS : ∀ t, t < 160 → thP σ K t = true → sk t = true → Wr t = none) (hkp : ∀ t, t ∈ odP σ K → sk t = false → ∃ (j kx : Nat), R[j]? = some kx ∧ nm kx = nm t ∧ C 13 (nm t) = some (20, kx)) (hwR : ∀ (j kx : Nat), R[j]? = some kx → Wr kx = some (23, j) ∧ E 20 kx = true) (hinj : ∀ (i j s t : Nat), R[i]? = some s → R[j]? = some t → nm s = nm t → i = j) (h3 : RW3 σ sk nm R [] F B C E) (h0 : ∀ (j kx : Nat), R[j]? = some kx → F 23 j 2 = 0 ∧ F 23 j 3 = 0 ∧ F 23 j 4 = 0)
    (hq : ∀ (F' : CF) (B' : CB) (Wr' : Nat → Option Nd), (∀ a i k, ¬ (a = 23 ∧ 2 ≤ k ∧ k ≤ 5) → F' a i k = F a i k) → (∀ a i, a ≠ 24 → B' a i = B a i) → (∀ (j kx : Nat), R[j]? = some kx → F' 23 j 2 = rcP sk nm (fun t => (tsP σ K t).2.1) (nm kx) (odP σ K) ∧ F' 23 j 3 = rcP sk nm (fun t => (tsP σ K t).2.2.1) (nm kx) (odP σ K) ∧ F' 23 j 4 = rcP sk nm (fun _ => 1) (nm kx) (odP σ K)) → RW3 σ sk nm R K F' B' C E → Q none (cH F' B' C Wr' E r)) : X M_Pi_gatherRows (rmo M_Pi_gatherRows 320 1760) (Zm Q 320 1760) 66 [some (.inr (some (5, 0))), o1, o2] [] (cH F B C Wr E r) 320 1760 := by
  have o160 := hG.2.2.1.2.1
  refine X_run 2 (pc' := 68) (L' := [some (.inr (some (5, 0))), some (.inl (0)), o2]) (st' := []) rfl ?_
  refine X_eq (L' := [some (.inr (some (5, 0))), some (.inl (nI (0))), o2]) (congrArg (fun zz9 : Int32 => ([some (.inr (some (5, 0))), some (.inl zz9), o2] : List (Option AV))) (by first | rfl | exact congrArg nI (by omega) | (simp only [il_0, il_1, il_2, il_3, il_4, il_5, il_6, il_7, il_16, il_20, il_40, il_160, pk_mul, nI_add]; done) | (simp only [il_0, il_1, il_2, il_3, il_4, il_5, il_6, il_7, il_16, il_20, il_40, il_160, pk_mul, nI_add]; exact congrArg nI (by omega)))) rfl rfl ?_
  refine up_ind (odP σ K).length (fun i => ∀ (F1 : CF) (W1 : Nat → Option Nd) (o : Option AV), (∀ a i k, ¬ (a = 23 ∧ 2 ≤ k ∧ k ≤ 4) → F1 a i k = F a i k) → (∀ (j kx : Nat), R[j]? = some kx → F1 23 j 2 = rcP sk nm (fun t => (tsP σ K t).2.1) (nm kx) ((odP σ K).take i) ∧ F1 23 j 3 = rcP sk nm (fun t => (tsP σ K t).2.2.1) (nm kx) ((odP σ K).take i) ∧ F1 23 j 4 = rcP sk nm (fun _ => 1) (nm kx) ((odP σ K).take i)) → (∀ t, t < 160 → thP σ K t = true → sk t = true → W1 t = none) → (∀ (j kx : Nat), R[j]? = some kx → W1 kx = some (23, j)) → (∀ t, t ∈ (odP σ K).take i → sk t = false → ∃ (j kx : Nat), R[j]? = some kx ∧ nm kx = nm t ∧ W1 t = some (23, j)) → X M_Pi_gatherRows (rmo M_Pi_gatherRows 320 1760) (Zm Q 320 1760) 68 [some (.inr (some (5, 0))), some (.inl (nI i)), o] [] (cH F1 B C W1 E r) 320 1760) ?_ 0 (by omega) F Wr o2 (fun _ _ _ _ => rfl) (fun j kx hj => h0 j kx hj) hwS (fun j kx hj => (hwR j kx hj).1) (fun t ht => by simp at ht)
  intro i hi ih F1 W1 o hF1 hS1 hw1 hw2 hw3
  have hG1 : GJ σ K sk nm F1 B C E := hG.fg ⟨fun a i k h1 h2 => hF1 a i k (by omega), fun _ _ _ => rfl, fun _ _ => rfl, fun _ _ _ _ => rfl⟩ hG.2.2.2.2.2.2.2.2
  have hG1' := hG1
  obtain ⟨j1, j2, j3, j4, j5, j6, j7, -, -⟩ := hG1
  have h5 := j1.1
  have h12 : E 12 0 = true := j1.at (by omega)
  have h13 : E 13 0 = true := j1.at (by omega)
  refine X_run 2 (pc' := 70) (L' := [some (.inr (some (5, 0))), some (.inl (nI i)), o]) (st' := [.inr (some (5, 0)), .inl (nI i)]) rfl ?_
  refine XC_get (a := 5) (i := 0) (v := .inl (F1 5 0 7)) rfl f_Pi_38 ⟨rfl, rfl⟩ (by assumption) rfl rfl ?_
  refine X_eq (st' := [.inl (nI (odP σ K).length), .inl (nI i)]) rfl (congrArg (fun zz9 => Sum.inl zz9 :: _) (j3.1)) rfl ?_
  refine X_ic_ge (tgt := 133) (nx := 76) rfl rfl rfl (fun n1 => ?_) (fun n1 => ?_)
  · have n1 := li_le (by omega) (by omega) n1
    have e : i = (odP σ K).length := by omega
    rw [e, List.take_length] at hS1 hw3
    refine c_gr3 (R := R) hG1' hK (fun t ht hth => ?_) hinj (fun j t hj => ?_) (fun F2 B2 g1 g2 g3 => hq F2 B2 W1 (fun a i k hh => by rw [g1 a i k (by omega), hF1 a i k (by omega)]) g2 (fun j kx hj => ?_) g3)
    · cases hs : sk t with
      | true => exact Or.inl ⟨rfl, hw1 t ht hth hs⟩
      | false => exact Or.inr ⟨rfl, hw3 t ((j4 t ht).mp hth) hs⟩
    · rw [hF1 23 j 5 (by omega)]
      exact h3 j t hj
    · rw [g1 _ _ _ (by omega), g1 _ _ _ (by omega), g1 _ _ _ (by omega)]
      exact hS1 j kx hj
  · have n1 := li_nle (by omega) (by omega) n1
    obtain ⟨t, ht⟩ : ∃ t, (odP σ K)[i]? = some t := ⟨_, List.getElem?_eq_getElem n1⟩
    have tO := List.mem_of_getElem? ht
    have tk : (odP σ K).take (i + 1) = (odP σ K).take i ++ [t] := by rw [List.take_add_one, ht]; rfl
    obtain ⟨c12, t6, t20, t160⟩ := j3.2.2.2 i t ht
    have hth := (j4 t t160).mpr tO
    obtain ⟨v2, ⟨w1, w2, w3, w4⟩, v3, v4⟩ := j7 t t160 hth
    refine X_run 1 (pc' := 77) (L' := [some (.inr (some (5, 0))), some (.inl (nI i)), o]) (st' := [.inr (some (5, 0))]) rfl ?_
    refine XC_get (a := 5) (i := 0) (v := .inr (some (13, 0))) rfl f_Pi_41 ⟨rfl, rfl⟩ (by assumption) rfl rfl ?_
    refine X_run 1 (pc' := 81) (L' := [some (.inr (some (5, 0))), some (.inl (nI i)), o]) (st' := [.inr (some (5, 0)), .inr (some (13, 0))]) rfl ?_
    refine XC_get (a := 5) (i := 0) (v := .inr (some (12, 0))) rfl f_Pi_35 ⟨rfl, rfl⟩ (by assumption) rfl rfl ?_
    refine X_run 1 (pc' := 85) (L' := [some (.inr (some (5, 0))), some (.inl (nI i)), o]) (st' := [.inl (nI i), .inr (some (12, 0)), .inr (some (13, 0))]) rfl ?_
    refine XC_ald (a := 12) (i := 0) (j := i) (v := (C 12 i)) rfl ⟨rfl, by decide, by decide⟩ (by assumption) (by simp only [rLn]; omega) rfl rfl ?_
    rw [c12]
    refine XC_get (a := 20) (i := t) (v := .inl (F1 20 t 3)) rfl f_Pi_160 ⟨rfl, rfl⟩ (by assumption) rfl rfl ?_
    refine X_eq (st' := [.inl (nI (nm t)), .inr (some (13, 0))]) rfl (congrArg (fun zz9 => Sum.inl zz9 :: _) (v3)) rfl ?_
    refine XC_ald (a := 13) (i := 0) (j := (nm t)) (v := (C 13 (nm t))) rfl ⟨rfl, by decide, by decide⟩ (by assumption) (by simp only [rLn]; omega) rfl rfl ?_
    refine X_run 2 (pc' := 92) (L' := [some (.inr (some (5, 0))), some (.inl (nI i)), some (.inr (C 13 (nm t)))]) (st' := [.inr (some (5, 0))]) rfl ?_
    refine XC_get (a := 5) (i := 0) (v := .inr (some (12, 0))) rfl f_Pi_35 ⟨rfl, rfl⟩ (by assumption) rfl rfl ?_
    refine X_run 1 (pc' := 96) (L' := [some (.inr (some (5, 0))), some (.inl (nI i)), some (.inr (C 13 (nm t)))]) (st' := [.inl (nI i), .inr (some (12, 0))]) rfl ?_
    refine XC_ald (a := 12) (i := 0) (j := i) (v := (C 12 i)) rfl ⟨rfl, by decide, by decide⟩ (by assumption) (by simp only [rLn]; omega) rfl rfl ?_
    rw [c12]
    refine XC_get (a := 20) (i := t) (v := .inl (F1 20 t 2)) rfl f_Pi_172 ⟨rfl, rfl⟩ (by assumption) rfl rfl ?_
    refine X_eq (st' := [.inl (b2i (sk t))]) rfl (congrArg (fun zz9 => Sum.inl zz9 :: _) (v2)) rfl ?_
    refine X_if_ne (tgt := 127) (nx := 103) rfl rfl rfl (fun n2 => ?_) (fun n2 => ?_)
    · rw [b2i_n0] at n2
      refine X_run 2 (pc' := 68) (L' := [some (.inr (some (5, 0))), some (.inl (nI i + 1)), some (.inr (C 13 (nm t)))]) (st' := []) rfl ?_
      refine X_eq (L' := [some (.inr (some (5, 0))), some (.inl (nI (i + 1))), some (.inr (C 13 (nm t)))]) (congrArg (fun zz9 : Int32 => ([some (.inr (some (5, 0))), some (.inl zz9), some (.inr (C 13 (nm t)))] : List (Option AV))) (by first | rfl | exact congrArg nI (by omega) | (simp only [il_0, il_1, il_2, il_3, il_4, il_5, il_6, il_7, il_16, il_20, il_40, il_160, pk_mul, nI_add]; done) | (simp only [il_0, il_1, il_2, il_3, il_4, il_5, il_6, il_7, il_16, il_20, il_40, il_160, pk_mul, nI_add]; exact congrArg nI (by omega)))) rfl rfl ?_
      refine ih n1 F1 W1 _ hF1 (fun j kx hj => ?_) hw1 hw2 (fun s hs hsk => ?_)
      · rw [tk, rcP_snoc, rcP_snoc, rcP_snoc, n2]
        exact hS1 j kx hj
      · rw [tk, List.mem_append, List.mem_singleton] at hs
        rcases hs with hs | hs
        · exact hw3 s hs hsk
        · rw [hs, n2] at hsk
          cases hsk
    · rw [b2i_0] at n2
      obtain ⟨j, kx, hj, hnm, c13⟩ := hkp t tO n2
      have hk20 := (hwR j kx hj).2
      have wk := hw2 j kx hj
      obtain ⟨-, e23, e24, -⟩ := h3 j kx hj
      rw [c13]
      refine X_run 1 (pc' := 104) (L' := [some (.inr (some (5, 0))), some (.inl (nI i)), some (.inr (some (20, kx)))]) (st' := [.inr (some (20, kx))]) rfl ?_
      refine X_ifnull (tgt := 127) (nx := 107) rfl rfl rfl (fun n3 => ?_) (fun nn n3 => ?_)
      · cases n3
      · refine X_run 1 (pc' := 108) (L' := [some (.inr (some (5, 0))), some (.inl (nI i)), some (.inr (some (20, kx)))]) (st' := [.inr (some (20, kx))]) rfl ?_
        refine XC_get (a := 20) (i := kx) (v := .inr (W1 kx)) rfl f_Pi_179 ⟨rfl, rfl⟩ (by assumption) rfl rfl ?_
        rw [wk]
        refine X_ifnull (tgt := 127) (nx := 114) rfl rfl rfl (fun n4 => ?_) (fun nn n4 => ?_)
        · cases n4
        · refine X_run 1 (pc' := 115) (L' := [some (.inr (some (5, 0))), some (.inl (nI i)), some (.inr (some (20, kx)))]) (st' := [.inr (some (20, kx))]) rfl ?_
          refine XC_get (a := 20) (i := kx) (v := .inr (W1 kx)) rfl f_Pi_179 ⟨rfl, rfl⟩ (by assumption) rfl rfl ?_
          rw [wk]
          refine X_run 1 (pc' := 119) (L' := [some (.inr (some (5, 0))), some (.inl (nI i)), some (.inr (some (20, kx)))]) (st' := [.inr (some (5, 0)), .inr (some (23, j))]) rfl ?_
          refine XC_get (a := 5) (i := 0) (v := .inr (some (12, 0))) rfl f_Pi_35 ⟨rfl, rfl⟩ (by assumption) rfl rfl ?_
          refine X_run 1 (pc' := 123) (L' := [some (.inr (some (5, 0))), some (.inl (nI i)), some (.inr (some (20, kx)))]) (st' := [.inl (nI i), .inr (some (12, 0)), .inr (some (23, j))]) rfl ?_
          refine XC_ald (a := 12) (i := 0) (j := i) (v := (C 12 i)) rfl ⟨rfl, by decide, by decide⟩ (by assumption) (by simp only [rLn]; omega) rfl rfl ?_
          rw [c12]
          refine X_callV (vs := [.inr (some (20, t))]) (st := []) (mc := 0) (ms := 0) rfl ok_Rw_include v_Pi_183 (cH_obj rfl (by assumption)) rfl rfl (Nat.le_of_ble_eq_true rfl) (Nat.le_of_ble_eq_true rfl) (Nat.le_of_ble_eq_true rfl) (Nat.le_of_ble_eq_true rfl) (Nat.le_of_ble_eq_true rfl) (Nat.le_of_ble_eq_true rfl) rfl ?_
          refine c_Rw_include t20 e23 (fun F2 g1 g2 => ?_)
          show X M_Pi_gatherRows _ _ 127 [some (.inr (some (5, 0))), some (.inl (nI i)), some (.inr (some (20, kx)))] [] (cH F2 B C (up1 W1 t (some (23, j))) E r) 320 1760
          refine X_run 2 (pc' := 68) (L' := [some (.inr (some (5, 0))), some (.inl (nI i + 1)), some (.inr (some (20, kx)))]) (st' := []) rfl ?_
          refine X_eq (L' := [some (.inr (some (5, 0))), some (.inl (nI (i + 1))), some (.inr (some (20, kx)))]) (congrArg (fun zz9 : Int32 => ([some (.inr (some (5, 0))), some (.inl zz9), some (.inr (some (20, kx)))] : List (Option AV))) (by first | rfl | exact congrArg nI (by omega) | (simp only [il_0, il_1, il_2, il_3, il_4, il_5, il_6, il_7, il_16, il_20, il_40, il_160, pk_mul, nI_add]; done) | (simp only [il_0, il_1, il_2, il_3, il_4, il_5, il_6, il_7, il_16, il_20, il_40, il_160, pk_mul, nI_add]; exact congrArg nI (by omega)))) rfl rfl ?_
          have key : ∀ (j' k' : Nat), R[j']? = some k' → (j' = j ∧ k' = kx) ∨ (j' ≠ j ∧ (nm t == nm k') = false) := fun j' k' hj' => by
            by_cases q : j' = j
            · rw [q, hj] at hj'
              cases hj'
              exact Or.inl ⟨q, rfl⟩
            · refine Or.inr ⟨q, ?_⟩
              have : nm t ≠ nm k' := fun z => q (hinj j' j k' kx hj' hj (by rw [hnm, z]))
              simpa using this
          refine ih n1 F2 _ _ (fun a i k hh => by rw [g1 a i k (by omega), hF1 a i k hh]) (fun j' k' hj' => ?_) (fun s hs hth' hsk => ?_) (fun j' k' hj' => ?_) (fun s hs hsk => ?_)
          · rw [tk, rcP_snoc, rcP_snoc, rcP_snoc, n2]
            have old := hS1 j' k' hj'
            rcases key j' k' hj' with ⟨q1, q2⟩ | ⟨q1, q2⟩
            · rw [q1, q2] at old ⊢
              rw [show (!false && nm t == nm kx) = true by rw [hnm]; simp]
              simp only [if_true]
              rw [g2.1, g2.2.1, g2.2.2, old.1, old.2.1, old.2.2, w2, w3]
              exact ⟨rfl, rfl, rfl⟩
            · rw [q2, g1 _ _ _ (by omega), g1 _ _ _ (by omega), g1 _ _ _ (by omega)]
              exact old
          · have st : s ≠ t := fun z => by rw [z, n2] at hsk; cases hsk
            simp only [up1, st, if_false]
            exact hw1 s hs hth' hsk
          · by_cases q : k' = t
            · have : j' = j := hinj j' j k' kx hj' hj (by rw [q, hnm])
              simp [up1, q, this]
            · simp only [up1, q, if_false]
              exact hw2 j' k' hj'
          · by_cases q : s = t
            · rw [q]
              exact ⟨j, kx, hj, hnm, by simp [up1]⟩
            · rw [tk, List.mem_append, List.mem_singleton] at hs
              simp only [up1, q, if_false]
              exact hw3 s (hs.resolve_right q) hsk
def kpQ (σ : Sg) (K : List Nat) (sk : Nat → Bool) (nm : Nat → Nat) (t : Nat) : Bool := !sk t && (K.find? (kq σ sk nm (nm t)) == some t)
theorem c_Pi_gatherRows (hG : GJ σ K sk nm F B C E) (hK : KL σ K) (hwN : ∀ t, t < 160 → thP σ K t = true → Wr t = none)
    (hq : ∀ (F' : CF) (B' : CB) (C' : CC) (Wr' : Nat → Option Nd) (E' : Nat → Nat → Bool), FG F B C E F' B' C' E' → RX C' E' → F' 5 0 10 = nI ((odP σ K).filter (kpQ σ K sk nm)).length → (∀ (j kx : Nat), ((odP σ K).filter (kpQ σ K sk nm))[j]? = some kx → C' 14 j = some (23, j) ∧ E' 23 j = true ∧ F' 23 j 0 = nI kx ∧ F' 23 j 1 = nI (nm kx) ∧ F' 23 j 2 = rcP sk nm (fun t => (tsP σ K t).2.1) (nm kx) (odP σ K) ∧ F' 23 j 3 = rcP sk nm (fun t => (tsP σ K t).2.2.1) (nm kx) (odP σ K) ∧ F' 23 j 4 = rcP sk nm (fun _ => 1) (nm kx) (odP σ K) ∧ F' 23 j 5 = b2i (rbP σ sk nm (nm kx) K).1) → Q none (cH F' B' C' Wr' E' r)) : X M_Pi_gatherRows (rmo M_Pi_gatherRows 320 1760) (Zm Q 320 1760) 0 (ini M_Pi_gatherRows [.inr (some (5, 0))]) [] (cH F B C Wr E r) 0 0 := by
  have o160 := hG.2.2.1.2.1
  have h5 := hG.1.1
  obtain ⟨O, eO⟩ : ∃ O, O = odP σ K := ⟨_, rfl⟩
  have oO : O.length ≤ 160 := by rw [eO]; exact o160
  have find : ∀ t, t ∈ O → sk t = false → ∃ kx, K.find? (kq σ sk nm (nm t)) = some kx ∧ kx ∈ O ∧ nm kx = nm t ∧ kpQ σ K sk nm kx = true := fun t ht hs => by
    have t160 : t < 160 := by
      rw [eO] at ht
      obtain ⟨k, hk⟩ := mem_idx ht
      exact (hG.2.2.1.2.2.2 k t hk).2.2.2
    have hp := hK.put ((hG.2.2.2.1 t t160).mpr (by rw [← eO]; exact ht))
    cases hf : K.find? (kq σ sk nm (nm t)) with
    | none =>
      have := List.find?_eq_none.mp hf t hp.1
      simp [kq, hp.2, hs] at this
    | some kx =>
      have hm := List.mem_of_find?_eq_some hf
      have hz := List.find?_some hf
      simp only [kq, Bool.and_eq_true, beq_iff_eq, Bool.not_eq_true'] at hz
      obtain ⟨⟨z1, z2⟩, z3⟩ := hz
      have k160 := (hG.2.2.2.2.2.1 kx hm).1
      have ht' := (hK.at hm).2.2
      rw [(hK.at hm).2.1 z1] at ht'
      refine ⟨kx, rfl, by rw [eO]; exact (hG.2.2.2.1 kx k160).mp ht', z3, ?_⟩
      unfold kpQ
      rw [z2, z3, hf]
      simp
  show X M_Pi_gatherRows _ _ 0 [some (.inr (some (5, 0))), none, none] [] (cH F B C Wr E r) 0 0
  refine X_run 2 (pc' := 2) (L' := [some (.inr (some (5, 0))), none, none]) (st' := [.inl (0), .inr (some (5, 0))]) rfl ?_
  refine XC_put (k := 10) (a := 5) (i := 0) rfl f_Pi_50 rfl rfl rfl ⟨rfl, rfl⟩ ⟨rfl, rfl⟩ (by assumption) (fun _ => ⟨rfl, rfl⟩) rfl ?_
  refine X_run 2 (pc' := 7) (L' := [some (.inr (some (5, 0))), some (.inl (0)), none]) (st' := []) rfl ?_
  refine X_eq (L' := [some (.inr (some (5, 0))), some (.inl (nI (0))), none]) (congrArg (fun zz9 : Int32 => ([some (.inr (some (5, 0))), some (.inl zz9), none] : List (Option AV))) (by first | rfl | exact congrArg nI (by omega) | (simp only [il_0, il_1, il_2, il_3, il_4, il_5, il_6, il_7, il_16, il_20, il_40, il_160, pk_mul, nI_add]; done) | (simp only [il_0, il_1, il_2, il_3, il_4, il_5, il_6, il_7, il_16, il_20, il_40, il_160, pk_mul, nI_add]; exact congrArg nI (by omega)))) rfl rfl ?_
  refine up_ind O.length (fun i => ∀ (F1 : CF) (B1 : CB) (C1 : CC) (W1 : Nat → Option Nd) (E1 : Nat → Nat → Bool), FG F B C E F1 B1 C1 E1 → RX C1 E1 → F1 5 0 10 = nI ((O.take i).filter (kpQ σ K sk nm)).length → (∀ (j t : Nat), ((O.take i).filter (kpQ σ K sk nm))[j]? = some t → C1 14 j = some (23, j) ∧ E1 23 j = true ∧ E1 24 j = true ∧ (F1 23 j 0 = nI t ∧ F1 23 j 1 = nI (nm t) ∧ F1 23 j 2 = 0 ∧ F1 23 j 3 = 0 ∧ F1 23 j 4 = 0 ∧ F1 23 j 5 = 0) ∧ (∀ e, e < 4 → B1 24 j e = 0) ∧ W1 t = some (23, j)) → (∀ t, t < 160 → thP σ K t = true → t ∉ (O.take i).filter (kpQ σ K sk nm) → W1 t = none) → X M_Pi_gatherRows (rmo M_Pi_gatherRows 320 1760) (Zm Q 320 1760) 7 [some (.inr (some (5, 0))), some (.inl (nI i)), none] [] (cH F1 B1 C1 W1 E1 r) (2 * i) (11 * i)) ?_ 0 (by omega) _ B C Wr E ⟨fun a i k h1 h2 => u3_ne h2, fun _ _ _ => rfl, fun _ _ => rfl, fun _ _ _ _ => rfl⟩ hG.2.2.2.2.2.2.2.2 (u3_eq _ _ _ _ _) (fun j t hj => by simp at hj) (fun t ht hth _ => hwN t ht hth)
  intro i hi ih F1 B1 C1 W1 E1 hFG hRX hn hrow hwo
  have i160 : i ≤ 160 := by rw [eO] at hi; omega
  have hG1 := hG.fg hFG hRX
  have hG1' := hG1
  obtain ⟨j1, j2, j3, j4, j5, j6, j7, j8, -⟩ := hG1
  rw [← eO] at j3 j4
  have q5 := j1.1
  have h12 : E1 12 0 = true := j1.at (by omega)
  have h13 : E1 13 0 = true := j1.at (by omega)
  refine X_run 2 (pc' := 9) (L' := [some (.inr (some (5, 0))), some (.inl (nI i)), none]) (st' := [.inr (some (5, 0)), .inl (nI i)]) rfl ?_
  refine XC_get (a := 5) (i := 0) (v := .inl (F1 5 0 7)) rfl f_Pi_38 ⟨rfl, rfl⟩ (by assumption) rfl rfl ?_
  refine X_eq (st' := [.inl (nI O.length), .inl (nI i)]) rfl (congrArg (fun zz9 => Sum.inl zz9 :: _) (j3.1)) rfl ?_
  refine X_ic_ge (tgt := 66) (nx := 15) rfl rfl rfl (fun n1 => ?_) (fun n1 => ?_)
  · have n1 := li_le (by omega) (by omega) n1
    have e : i = O.length := by omega
    rw [e, List.take_length] at hn hrow hwo
    refine X_widen (c' := 320) (sl' := 1760) (by omega) (by omega) ?_
    have hinj : ∀ (i j s t : Nat), (O.filter (kpQ σ K sk nm))[i]? = some s → (O.filter (kpQ σ K sk nm))[j]? = some t → nm s = nm t → i = j := fun i j s t hs ht hst => by
      have m1 := (List.mem_filter.mp (List.mem_of_getElem? hs)).2
      have m2 := (List.mem_filter.mp (List.mem_of_getElem? ht)).2
      unfold kpQ at m1 m2
      simp only [Bool.and_eq_true, beq_iff_eq] at m1 m2
      have : s = t := by
        have := m1.2
        rw [hst, m2.2] at this
        cases this
        rfl
      rw [this] at hs
      exact nod_inj (j3.2.2.1.filter _) hs ht
    refine c_gr2 (R := O.filter (kpQ σ K sk nm)) hG1' hK (fun t ht hth hs => ?_) (fun t ht hs => ?_) (fun j kx hj => ?_) hinj (fun j t hj => ?_) (fun j kx hj => ?_) (fun F2 B2 W2 g1 g2 g3 g4 => ?_)
    · refine hwo t ht hth (fun z => ?_)
      have := (List.mem_filter.mp z).2
      simp [kpQ, hs] at this
    · rw [← eO] at ht
      obtain ⟨kx, f1, f2, f3, f4⟩ := find t ht hs
      obtain ⟨j, hj⟩ := mem_idx (List.mem_filter.mpr ⟨f2, f4⟩)
      obtain ⟨k, hk⟩ := mem_idx ht
      have t160 := (j3.2.2.2 k t hk).2.2.2
      exact ⟨j, kx, hj, f3, j8 _ _ (j7 t t160 ((j4 t t160).mpr ht)).2.2.2 f1⟩
    · refine ⟨(hrow j kx hj).2.2.2.2.2, ?_⟩
      obtain ⟨k, hk⟩ := mem_idx (List.mem_filter.mp (List.mem_of_getElem? hj)).1
      exact (j3.2.2.2 k kx hk).2.2.1
    · obtain ⟨p1, p2, p3, p4, p5, p6⟩ := hrow j t hj
      exact ⟨p1, p2, p3, p4.2.2.2.2.2, fun e he => ⟨p5 e he, Nat.zero_le 41⟩⟩
    · obtain ⟨p1, p2, p3, p4, p5, p6⟩ := hrow j kx hj
      exact ⟨p4.2.2.1, p4.2.2.2.1, p4.2.2.2.2.1⟩
    · rw [← eO] at g3 hq
      refine hq F2 B2 C1 W2 E1 (hFG.trans ⟨fun a i k h1 h2 => g1 a i k (by omega), g2, fun _ _ => rfl, fun _ _ _ _ => rfl⟩) hRX (by rw [g1 _ _ _ (by omega)]; exact hn) (fun j kx hj => ?_)
      obtain ⟨p1, p2, p3, p4, p5, p6⟩ := hrow j kx hj
      obtain ⟨s1, s2, s3⟩ := g3 j kx hj
      exact ⟨p1, p2, by rw [g1 _ _ _ (by omega)]; exact p4.1, by rw [g1 _ _ _ (by omega)]; exact p4.2.1, s1, s2, s3, (g4 j kx hj).2.2.2.1⟩
  · have n1 := li_nle (by omega) (by omega) n1
    obtain ⟨t, ht⟩ : ∃ t, O[i]? = some t := ⟨_, List.getElem?_eq_getElem n1⟩
    have tO := List.mem_of_getElem? ht
    have tk : O.take (i + 1) = O.take i ++ [t] := by rw [List.take_add_one, ht]; rfl
    obtain ⟨c12, t6, t20, t160⟩ := j3.2.2.2 i t ht
    have hth := (j4 t t160).mpr tO
    obtain ⟨v2, ⟨w1, w2, w3, w4⟩, v3, v4⟩ := j7 t t160 hth
    obtain ⟨-, -, -, -, t0⟩ := j2.on t160 hth
    have skip : kpQ σ K sk nm t = false → X M_Pi_gatherRows (rmo M_Pi_gatherRows 320 1760) (Zm Q 320 1760) 60 [some (.inr (some (5, 0))), some (.inl (nI i)), none] [] (cH F1 B1 C1 W1 E1 r) (2 * i) (11 * i) := by
      intro hb
      refine X_run 2 (pc' := 7) (L' := [some (.inr (some (5, 0))), some (.inl (nI i + 1)), none]) (st' := []) rfl ?_
      refine X_eq (L' := [some (.inr (some (5, 0))), some (.inl (nI (i + 1))), none]) (congrArg (fun zz9 : Int32 => ([some (.inr (some (5, 0))), some (.inl zz9), none] : List (Option AV))) (by first | rfl | exact congrArg nI (by omega) | (simp only [il_0, il_1, il_2, il_3, il_4, il_5, il_6, il_7, il_16, il_20, il_40, il_160, pk_mul, nI_add]; done) | (simp only [il_0, il_1, il_2, il_3, il_4, il_5, il_6, il_7, il_16, il_20, il_40, il_160, pk_mul, nI_add]; exact congrArg nI (by omega)))) rfl rfl ?_
      have ef : (O.take (i + 1)).filter (kpQ σ K sk nm) = (O.take i).filter (kpQ σ K sk nm) := by rw [tk, List.filter_append]; simp [hb]
      exact X_widen (by omega) (by omega) (ih n1 F1 B1 C1 W1 E1 hFG hRX (by rw [ef]; exact hn) (by rw [ef]; exact hrow) (by rw [ef]; exact hwo))
    refine X_run 1 (pc' := 16) (L' := [some (.inr (some (5, 0))), some (.inl (nI i)), none]) (st' := [.inr (some (5, 0))]) rfl ?_
    refine XC_get (a := 5) (i := 0) (v := .inr (some (12, 0))) rfl f_Pi_35 ⟨rfl, rfl⟩ (by assumption) rfl rfl ?_
    refine X_run 1 (pc' := 20) (L' := [some (.inr (some (5, 0))), some (.inl (nI i)), none]) (st' := [.inl (nI i), .inr (some (12, 0))]) rfl ?_
    refine XC_ald (a := 12) (i := 0) (j := i) (v := (C1 12 i)) rfl ⟨rfl, by decide, by decide⟩ (by assumption) (by simp only [rLn]; omega) rfl rfl ?_
    rw [c12]
    refine XC_get (a := 20) (i := t) (v := .inl (F1 20 t 2)) rfl f_Pi_172 ⟨rfl, rfl⟩ (by assumption) rfl rfl ?_
    refine X_eq (st' := [.inl (b2i (sk t))]) rfl (congrArg (fun zz9 => Sum.inl zz9 :: _) (v2)) rfl ?_
    refine X_if_ne (tgt := 60) (nx := 27) rfl rfl rfl (fun n2 => ?_) (fun n2 => ?_)
    · rw [b2i_n0] at n2
      exact skip (by simp [kpQ, n2])
    · rw [b2i_0] at n2
      obtain ⟨kx, f1, f2, f3, f4⟩ := find t tO n2
      refine X_run 1 (pc' := 28) (L' := [some (.inr (some (5, 0))), some (.inl (nI i)), none]) (st' := [.inr (some (5, 0))]) rfl ?_
      refine XC_get (a := 5) (i := 0) (v := .inr (some (13, 0))) rfl f_Pi_41 ⟨rfl, rfl⟩ (by assumption) rfl rfl ?_
      refine X_run 1 (pc' := 32) (L' := [some (.inr (some (5, 0))), some (.inl (nI i)), none]) (st' := [.inr (some (5, 0)), .inr (some (13, 0))]) rfl ?_
      refine XC_get (a := 5) (i := 0) (v := .inr (some (12, 0))) rfl f_Pi_35 ⟨rfl, rfl⟩ (by assumption) rfl rfl ?_
      refine X_run 1 (pc' := 36) (L' := [some (.inr (some (5, 0))), some (.inl (nI i)), none]) (st' := [.inl (nI i), .inr (some (12, 0)), .inr (some (13, 0))]) rfl ?_
      refine XC_ald (a := 12) (i := 0) (j := i) (v := (C1 12 i)) rfl ⟨rfl, by decide, by decide⟩ (by assumption) (by simp only [rLn]; omega) rfl rfl ?_
      rw [c12]
      refine XC_get (a := 20) (i := t) (v := .inl (F1 20 t 3)) rfl f_Pi_160 ⟨rfl, rfl⟩ (by assumption) rfl rfl ?_
      refine X_eq (st' := [.inl (nI (nm t)), .inr (some (13, 0))]) rfl (congrArg (fun zz9 => Sum.inl zz9 :: _) (v3)) rfl ?_
      refine XC_ald (a := 13) (i := 0) (j := (nm t)) (v := (C1 13 (nm t))) rfl ⟨rfl, by decide, by decide⟩ (by assumption) (by simp only [rLn]; omega) rfl rfl ?_
      rw [j8 _ _ v4 f1]
      refine X_run 1 (pc' := 42) (L' := [some (.inr (some (5, 0))), some (.inl (nI i)), none]) (st' := [.inr (some (5, 0)), .inr (some (20, kx))]) rfl ?_
      refine XC_get (a := 5) (i := 0) (v := .inr (some (12, 0))) rfl f_Pi_35 ⟨rfl, rfl⟩ (by assumption) rfl rfl ?_
      refine X_run 1 (pc' := 46) (L' := [some (.inr (some (5, 0))), some (.inl (nI i)), none]) (st' := [.inl (nI i), .inr (some (12, 0)), .inr (some (20, kx))]) rfl ?_
      refine XC_ald (a := 12) (i := 0) (j := i) (v := (C1 12 i)) rfl ⟨rfl, by decide, by decide⟩ (by assumption) (by simp only [rLn]; omega) rfl rfl ?_
      rw [c12]
      refine X_acne (tgt := 60) (nx := 50) rfl rfl rfl (fun n3 => ?_) (fun n3 => ?_)
      · have kt : kx ≠ t := fun z => n3 (by rw [z])
        exact skip (by simp [kpQ, f1, kt])
      · have kt : kx = t := by simpa using n3
        have hb : kpQ σ K sk nm t = true := by rw [← kt]; exact f4
        have ef : (O.take (i + 1)).filter (kpQ σ K sk nm) = (O.take i).filter (kpQ σ K sk nm) ++ [t] := by rw [tk, List.filter_append]; simp [hb]
        obtain ⟨N, hN⟩ : ∃ N, N = ((O.take i).filter (kpQ σ K sk nm)).length := ⟨_, rfl⟩
        have N160 : N < 160 := by
          have h1 : ((O.take i).filter (kpQ σ K sk nm)).length ≤ (O.take i).length := List.length_filter_le _ _
          rw [List.length_take] at h1
          omega
        rw [← hN] at hn
        refine X_run 2 (pc' := 52) (L' := [some (.inr (some (5, 0))), some (.inl (nI i)), none]) (st' := [.inr (some (5, 0)), .inr (some (5, 0))]) rfl ?_
        refine XC_get (a := 5) (i := 0) (v := .inr (some (12, 0))) rfl f_Pi_35 ⟨rfl, rfl⟩ (by assumption) rfl rfl ?_
        refine X_run 1 (pc' := 56) (L' := [some (.inr (some (5, 0))), some (.inl (nI i)), none]) (st' := [.inl (nI i), .inr (some (12, 0)), .inr (some (5, 0))]) rfl ?_
        refine XC_ald (a := 12) (i := 0) (j := i) (v := (C1 12 i)) rfl ⟨rfl, by decide, by decide⟩ (by assumption) (by simp only [rLn]; omega) rfl rfl ?_
        rw [c12]
        refine X_callV (vs := [.inr (some (20, t))]) (st := []) (mc := 2) (ms := 11) rfl ok_Pi_openRow v_Pi_175 (cH_obj rfl (by assumption)) rfl rfl (Nat.le_of_ble_eq_true rfl) (Nat.le_of_ble_eq_true rfl) (Nat.le_of_ble_eq_true rfl) (Nat.le_of_ble_eq_true rfl) (by show 2 * i + 2 ≤ 320; omega) (by show 11 * i + 11 ≤ 1760; omega) rfl ?_
        refine c_Pi_openRow j1 hRX hn N160 t20 (fun F2 B2 C2 E2 g1 g2 g3 g4 c14 e23 e24 f10 gf gb => ?_)
        show X M_Pi_gatherRows _ _ 60 [some (.inr (some (5, 0))), some (.inl (nI i)), none] [] (cH F2 B2 C2 (up1 W1 t (some (23, N))) E2 r) (2 * i + 2) (11 * i + 11)
        refine X_run 2 (pc' := 7) (L' := [some (.inr (some (5, 0))), some (.inl (nI i + 1)), none]) (st' := []) rfl ?_
        refine X_eq (L' := [some (.inr (some (5, 0))), some (.inl (nI (i + 1))), none]) (congrArg (fun zz9 : Int32 => ([some (.inr (some (5, 0))), some (.inl zz9), none] : List (Option AV))) (by first | rfl | exact congrArg nI (by omega) | (simp only [il_0, il_1, il_2, il_3, il_4, il_5, il_6, il_7, il_16, il_20, il_40, il_160, pk_mul, nI_add]; done) | (simp only [il_0, il_1, il_2, il_3, il_4, il_5, il_6, il_7, il_16, il_20, il_40, il_160, pk_mul, nI_add]; exact congrArg nI (by omega)))) rfl rfl ?_
        have tnf : t ∉ (O.take i).filter (kpQ σ K sk nm) := fun z => by
          obtain ⟨k, hk⟩ := mem_idx (List.mem_filter.mp z).1
          rw [List.getElem?_take] at hk
          split at hk
          · have := nod_inj j3.2.2.1 hk ht
            omega
          · cases hk
        refine X_widen (by omega) (by omega) (ih n1 F2 B2 C2 _ E2 (hFG.trans ⟨fun a i k h1 h2 => g1 a i k (by omega) h2, fun a i h1 => g2 a i (by omega), fun a h1 => funext fun k => g3 a k (by omega), fun a i h1 h2 => g4 a i (by omega)⟩) (fun m hm => ?_) (by rw [ef, List.length_append, ← hN]; exact f10) (fun j s hj => ?_) (fun s hs hsth hns => ?_))
        · by_cases q : m = N
          · rw [q]
            exact Or.inr ⟨c14, e23, e24⟩
          · rw [g3 14 m (by omega), g4 23 m (by omega), g4 24 m (by omega)]
            exact hRX m hm
        · rw [ef] at hj
          by_cases q : j < N
          · rw [List.getElem?_append_left (by omega)] at hj
            obtain ⟨p1, p2, p3, p4, p5, p6⟩ := hrow j s hj
            have st : s ≠ t := fun z => tnf (by rw [← z]; exact List.mem_of_getElem? hj)
            rw [g3 14 j (by omega), g4 23 j (by omega), g4 24 j (by omega), g1 23 j 0 (by omega) (by omega), g1 23 j 1 (by omega) (by omega), g1 23 j 2 (by omega) (by omega), g1 23 j 3 (by omega) (by omega), g1 23 j 4 (by omega) (by omega), g1 23 j 5 (by omega) (by omega), g2 24 j (by omega)]
            exact ⟨p1, p2, p3, p4, p5, by simp only [up1, st, if_false]; exact p6⟩
          · rw [List.getElem?_append_right (by omega), ← hN] at hj
            by_cases q2 : j = N
            · rw [q2, Nat.sub_self] at hj
              cases hj
              rw [q2]
              exact ⟨c14, e23, e24, ⟨by rw [gf.1, t0], by rw [gf.2.1, v3], gf.2.2⟩, gb, by simp [up1]⟩
            · rw [List.getElem?_eq_none (by simp; omega)] at hj
              cases hj
        · rw [ef, List.mem_append, List.mem_singleton] at hns
          have st : s ≠ t := fun z => hns (Or.inr z)
          simp only [up1, st, if_false]
          exact hwo s hs hsth (fun z => hns (Or.inl z))
end

