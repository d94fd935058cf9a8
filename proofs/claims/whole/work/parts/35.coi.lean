/-! the component's picture: things are laid -/
/-- what has been gone through says of a thing: name, count, bought, touched, what its backs know -/
abbrev TS : Type := Int32 × Int32 × Int32 × (Nat → Nat) × (Nat → Nat)
def tuS (x : Nat) (m : Nat → Nat) : Nat → Nat := fun e => if e = x / 40 then max (m e) (x % 40 + 1) else m e
def tsS (σ : Sg) (t : Nat) (s : TS) (x : Nat) : TS := if tg σ x = t then
    (if so σ x = 0 then (nu σ x, vl σ x, 0, (fun _ => 0), fun _ => 0) else if so σ x = 1 then (s.1, s.2.1 + vl σ x, s.2.2.1, tuS x s.2.2.2.1, s.2.2.2.2) else if so σ x = 2 then (s.1, s.2.1, s.2.2.1 + vl σ x, tuS x s.2.2.2.1, s.2.2.2.2)
     else if so σ x = 4 then (s.1, s.2.1, s.2.2.1, s.2.2.2.1, fun e => max (s.2.2.2.2 e) (kw σ x e)) else if so σ x = 5 then (s.1, s.2.1, s.2.2.1, tuS x s.2.2.2.1, s.2.2.2.2) else if so σ x = 6 then (vl σ x, s.2.1, s.2.2.1, tuS x s.2.2.2.1, s.2.2.2.2) else s) else s
def tsP (σ : Sg) (P : List Nat) (t : Nat) : TS := P.foldl (tsS σ t) (-1, 0, 0, (fun _ => 0), fun _ => 0)
def thP (σ : Sg) (P : List Nat) (t : Nat) : Bool := P.any (fun x => so σ x == 0 && tg σ x == t)
def odN (σ : Sg) (O : List Nat) (x : Nat) : List Nat := if so σ x = 0 then O ++ [x] else if so σ x = 5 then mvL O (tg σ x) (vl σ x) else O
def odP (σ : Sg) (P : List Nat) : List Nat := P.foldl (odN σ) []
theorem tsP_snoc (σ : Sg) (P : List Nat) (x t : Nat) : tsP σ (P ++ [x]) t = tsS σ t (tsP σ P t) x := by
  unfold tsP
  rw [List.foldl_append]
  rfl
theorem odP_snoc (σ : Sg) (P : List Nat) (x : Nat) : odP σ (P ++ [x]) = odN σ (odP σ P) x := by
  unfold odP
  rw [List.foldl_append]
  rfl
theorem thP_snoc (σ : Sg) (P : List Nat) (x t : Nat) : thP σ (P ++ [x]) t = (thP σ P t || (so σ x == 0 && tg σ x == t)) := by
  unfold thP
  rw [List.any_append]
  simp
theorem odP_len (σ : Sg) (P : List Nat) : (odP σ P).length ≤ P.length := by
  have key : ∀ (P O : List Nat), (P.foldl (odN σ) O).length ≤ O.length + P.length := by
    intro P
    induction P with
    | nil => intro O; simp
    | cons x P ih =>
      intro O
      rw [List.foldl_cons]
      refine Nat.le_trans (ih _) ?_
      have : (odN σ O x).length ≤ O.length + 1 := by
        unfold odN
        split
        · simp
        · split
          · unfold mvL mvP
            rw [List.length_insertIdx]
            have := List.length_eraseIdx_le O (O.idxOf (tg σ x))
            split <;> omega
          · omega
      simp only [List.length_cons]
      omega
  have := key P []
  simpa [odP] using this
/-- which things have cells, and which are there -/
def TX (th : Nat → Bool) (F : CF) (C : CC) (E : Nat → Nat → Bool) : Prop := ∀ t, t < 160 → (C 9 t = none ∧ th t = false ∧ E 20 t = false ∧ E 21 t = false ∧ E 22 t = false) ∨ (C 9 t = some (20, t) ∧ E 20 t = true ∧ E 21 t = true ∧ E 22 t = true ∧ F 20 t 0 = nI t ∧ F 20 t 1 = b2i (th t))
theorem TX.TH {th : Nat → Bool} {F : CF} {C : CC} {E : Nat → Nat → Bool} (h : TX th F C E) : TH th F C E := fun t ht => by
  rcases h t ht with ⟨a, b, -⟩ | ⟨a, b, -, -, -, c⟩
  · exact Or.inl ⟨a, b⟩
  · exact Or.inr ⟨a, b, c⟩
theorem TX.on {th : Nat → Bool} {F : CF} {C : CC} {E : Nat → Nat → Bool} (h : TX th F C E) {t : Nat} (ht : t < 160) (hh : th t = true) : C 9 t = some (20, t) ∧ E 20 t = true ∧ E 21 t = true ∧ E 22 t = true ∧ F 20 t 0 = nI t := by
  rcases h t ht with ⟨-, b, -⟩ | ⟨a, b, c, d, e, -⟩
  · rw [hh] at b
    cases b
  · exact ⟨a, b, c, d, e⟩
def TVal (s : TS) (t : Nat) (F : CF) (B : CB) : Prop := F 20 t 3 = s.1 ∧ F 20 t 4 = s.2.1 ∧ F 20 t 5 = s.2.2.1 ∧ ∀ e, e < 4 → B 21 t e = nI (s.2.2.2.1 e) ∧ s.2.2.2.1 e ≤ 41 ∧ B 22 t e = nI (s.2.2.2.2 e) ∧ s.2.2.2.2 e ≤ 41
def TR (σ : Sg) (P : List Nat) (F : CF) (B : CB) (C : CC) (Wr : Nat → Option Nd) (E : Nat → Nat → Bool) : Prop := PE E ∧ TX (thP σ P) F C E ∧ OO (odP σ P) F C E ∧ (∀ t, t < 160 → (thP σ P t = true ↔ t ∈ odP σ P)) ∧ ∀ t, t < 160 → thP σ P t = true → F 20 t 2 = 0 ∧ Wr t = none ∧ TVal (tsP σ P t) t F B
/-- what the laying leaves as it was -/
def FL (F : CF) (B : CB) (C : CC) (E : Nat → Nat → Bool) (F' : CF) (B' : CB) (C' : CC) (E' : Nat → Nat → Bool) : Prop := (∀ a i k, a ≠ 20 → ¬ (a = 5 ∧ k = 7) → F' a i k = F a i k) ∧ (∀ a i, a ≠ 21 → a ≠ 22 → B' a i = B a i) ∧ (∀ a, a ≠ 9 → a ≠ 12 → C' a = C a) ∧ (∀ a i, a ≠ 20 → a ≠ 21 → a ≠ 22 → E' a i = E a i) ∧ ∀ a i, E a i = true → E' a i = true
theorem FL.rfl {F : CF} {B : CB} {C : CC} {E : Nat → Nat → Bool} : FL F B C E F B C E := ⟨fun _ _ _ _ _ => Eq.refl _, fun _ _ _ _ => Eq.refl _, fun _ _ _ => Eq.refl _, fun _ _ _ _ _ => Eq.refl _, fun _ _ h => h⟩
theorem FL.trans {F F' F'' : CF} {B B' B'' : CB} {C C' C'' : CC} {E E' E'' : Nat → Nat → Bool} (h : FL F B C E F' B' C' E') (g : FL F' B' C' E' F'' B'' C'' E'') : FL F B C E F'' B'' C'' E'' :=
  ⟨fun a i k h1 h2 => (g.1 a i k h1 h2).trans (h.1 a i k h1 h2), fun a i h1 h2 => (g.2.1 a i h1 h2).trans (h.2.1 a i h1 h2), fun a h1 h2 => (g.2.2.1 a h1 h2).trans (h.2.2.1 a h1 h2), fun a i h1 h2 h3 => (g.2.2.2.1 a i h1 h2 h3).trans (h.2.2.2.1 a i h1 h2 h3), fun a i he => g.2.2.2.2 a i (h.2.2.2.2 a i he)⟩
theorem DE.fl {σ : Sg} {F F' : CF} {B B' : CB} {C C' : CC} {E E' : Nat → Nat → Bool} {x : Nat} (h : DE σ F B E x) (g : FL F B C E F' B' C' E') : DE σ F' B' E' x := by
  obtain ⟨a1, a2, a3, a4, a5, a6, a7, a8, a9, a10, a11, a12, a13⟩ := h
  have f : ∀ k, F' 18 x k = F 18 x k := fun k => g.1 18 x k (by decide) (by omega)
  have b : B' 19 x = B 19 x := g.2.1 19 x (by decide) (by decide)
  refine ⟨a1, g.2.2.2.2 _ _ a2, g.2.2.2.2 _ _ a3, ?_⟩
  rw [f, f, f, f, f, f, f, b]
  exact ⟨a4, a5, a6, a7, a8, a9, a10, a11, a12, a13⟩
theorem PE.of {E E' : Nat → Nat → Bool} (h : PE E) (he : ∀ a i, a ≠ 20 → a ≠ 21 → a ≠ 22 → a ≠ 23 → a ≠ 24 → E' a i = E a i) : PE E' := by
  refine ⟨by rw [he 5 0 (by decide) (by decide) (by decide) (by decide) (by decide)]; exact h.1, by rw [he 6 0 (by decide) (by decide) (by decide) (by decide) (by decide)]; exact h.2.1, by rw [he 7 0 (by decide) (by decide) (by decide) (by decide) (by decide)]; exact h.2.2.1, fun a ha i => ?_⟩
  rw [he a i (by omega) (by omega) (by omega) (by omega) (by omega)]
  exact h.2.2.2 a ha i
/-- a thing is changed -/
theorem TR.step {σ : Sg} {P : List Nat} {F F' : CF} {B B' : CB} {C C' : CC} {Wr : Nat → Option Nd} {E : Nat → Nat → Bool} {x t : Nat} (hR : TR σ P F B C Wr E) (hx0 : so σ x ≠ 0) (ht : tg σ x = t) (t160 : t < 160) (hth : thP σ P t = true)
    (hF : ∀ a i k, ¬ (a = 20 ∧ i = t ∧ 3 ≤ k ∧ k ≤ 5) → ¬ (a = 20 ∧ k = 6) → F' a i k = F a i k) (hB : ∀ a i, ¬ ((a = 21 ∨ a = 22) ∧ i = t) → B' a i = B a i) (hC : ∀ a, a ≠ 12 → C' a = C a) (hO : OO (odP σ (P ++ [x])) F' C' E) (hv : TVal (tsP σ (P ++ [x]) t) t F' B') : TR σ (P ++ [x]) F' B' C' Wr E := by
  obtain ⟨r1, r2, r3, r4, r5⟩ := hR
  have e : thP σ (P ++ [x]) = thP σ P := by
    funext z
    rw [thP_snoc, show (so σ x == 0) = false by simpa using hx0]
    simp
  have hm : ∀ z, z ∈ odP σ (P ++ [x]) ↔ z ∈ odP σ P := fun z => by
    rw [odP_snoc]
    unfold odN
    rw [if_neg hx0]
    split
    · rw [ht]
      exact mvL_mem r3.2.2.1 ((r4 t t160).mp hth)
    · exact Iff.rfl
  refine ⟨r1, ?_, hO, fun z hz => by rw [e, hm z]; exact r4 z hz, fun z hz hzt => ?_⟩
  · rw [e]
    intro z hz
    rw [hC 9 (by decide), hF 20 z 0 (by omega) (by omega), hF 20 z 1 (by omega) (by omega)]
    exact r2 z hz
  · rw [e] at hzt
    obtain ⟨v1, v2, v3⟩ := r5 z hz hzt
    rw [hF 20 z 2 (by omega) (by omega)]
    refine ⟨v1, v2, ?_⟩
    by_cases q : z = t
    · rw [q]
      exact hv
    · have e2 : tsP σ (P ++ [x]) z = tsP σ P z := by
        rw [tsP_snoc]
        unfold tsS
        rw [if_neg (by rw [ht]; exact fun w => q w.symm)]
      rw [e2]
      obtain ⟨w1, w2, w3, w4⟩ := v3
      refine ⟨by rw [hF 20 z 3 (by omega) (by omega)]; exact w1, by rw [hF 20 z 4 (by omega) (by omega)]; exact w2, by rw [hF 20 z 5 (by omega) (by omega)]; exact w3, fun e he => ?_⟩
      rw [hB 21 z (by omega), hB 22 z (by omega)]
      exact w4 e he
section
variable {F : CF} {B : CB} {C : CC} {Wr : Nat → Option Nd} {E : Nat → Nat → Bool} {r : AH} {Q : Option AV → AH → Prop} {h : AH} {σ : Sg} {see : Nat → Nat}
theorem c_Pi_change {P : List Nat} {x : Nat} (hR : TR σ P F B C Wr E) (hD : DE σ F B E x) (s0 : so σ x ≠ 0) (s7 : so σ x ≠ 7) (hth : thP σ P (tg σ x) = true) (h5b : so σ x = 5 → vl σ x = -1 ∨ ∃ k, k < 160 ∧ vl σ x = nI k ∧ k ≠ tg σ x) (hq : ∀ (F' : CF) (B' : CB) (C' : CC), TR σ (P ++ [x]) F' B' C' Wr E → FL F B C E F' B' C' E → Q none (cH F' B' C' Wr E r)) : X M_Pi_change (rmo M_Pi_change 0 0) (Zm Q 0 0) 0 (ini M_Pi_change [.inr (some (5, 0)), .inr (some (18, x))]) [] (cH F B C Wr E r) 0 0 := by
  have hP := hR.1
  have h5 := hP.1
  have hD' := hD
  obtain ⟨x0, x18, x19, xd, xn, xso, xsp, xtg, xam, -, xnm, xkw, xs7, -, xtl⟩ := hD
  obtain ⟨t, et⟩ : ∃ t, tg σ x = t := ⟨_, rfl⟩
  rw [et] at hth xtg xtl h5b
  obtain ⟨c9, t20, t21, t22, tn⟩ := hR.2.1.on xtl hth
  obtain ⟨v2, vw, w1, w2, w3, w4⟩ := hR.2.2.2.2 t xtl hth
  have hO := hR.2.2.1
  obtain ⟨p, hp⟩ := mem_idx ((hR.2.2.2.1 t xtl).mp hth)
  have w4a : ∀ e, e < 4 → B 21 t e = nI ((tsP σ P t).2.2.2.1 e) ∧ (tsP σ P t).2.2.2.1 e < 1000 := fun e he => ⟨(w4 e he).1, by have := (w4 e he).2.1; omega⟩
  have w4b : ∀ e, e < 4 → B 22 t e = nI ((tsP σ P t).2.2.2.2 e) ∧ (tsP σ P t).2.2.2.2 e < 1000 := fun e he => ⟨(w4 e he).2.2.1, by have := (w4 e he).2.2.2; omega⟩
  have tuB : ∀ e, e < 4 → tuS x (tsP σ P t).2.2.2.1 e ≤ 41 := fun e he => by
    have := (w4 e he).2.1
    unfold tuS
    split <;> omega
  show X M_Pi_change _ _ 0 [some (.inr (some (5, 0))), some (.inr (some (18, x))), none] [] (cH F B C Wr E r) 0 0
  refine X_run 2 (pc' := 2) (L' := [some (.inr (some (5, 0))), some (.inr (some (18, x))), none]) (st' := [.inr (some (18, x)), .inr (some (5, 0))]) rfl ?_
  refine XC_get (a := 18) (i := x) (v := .inl (F 18 x 4)) rfl f_Pi_110 ⟨rfl, rfl⟩ (by assumption) rfl rfl ?_
  refine X_eq (st' := [.inl (nI t), .inr (some (5, 0))]) rfl (congrArg (fun zz9 => Sum.inl zz9 :: _) (xtg)) rfl ?_
  refine X_callV (vs := [.inl (nI t)]) (st := []) (mc := 0) (ms := 0) rfl ok_Pi_find v_Pi_140 (cH_obj rfl (by assumption)) rfl rfl (Nat.le_of_ble_eq_true rfl) (Nat.le_of_ble_eq_true rfl) (Nat.le_of_ble_eq_true rfl) (Nat.le_of_ble_eq_true rfl) (Nat.le_of_ble_eq_true rfl) (Nat.le_of_ble_eq_true rfl) rfl ?_
  refine c_Pi_find1 hP hR.2.1.TH xtl (fun _ => ?_) (fun z => by rw [hth] at z; cases z)
  show X M_Pi_change _ _ 8 [some (.inr (some (5, 0))), some (.inr (some (18, x))), none] [.inr (some (20, t))] (cH F B C Wr E r) 0 0
  refine X_run 2 (pc' := 10) (L' := [some (.inr (some (5, 0))), some (.inr (some (18, x))), some (.inr (some (20, t)))]) (st' := [.inr (some (20, t))]) rfl ?_
  refine X_ifnull (tgt := 21) (nx := 13) rfl rfl rfl (fun n1 => ?_) (fun nn n1 => ?_)
  · cases n1
  · refine X_run 1 (pc' := 14) (L' := [some (.inr (some (5, 0))), some (.inr (some (18, x))), some (.inr (some (20, t)))]) (st' := [.inr (some (18, x))]) rfl ?_
    refine XC_get (a := 18) (i := x) (v := .inl (F 18 x 2)) rfl f_Pi_103 ⟨rfl, rfl⟩ (by assumption) rfl rfl ?_
    refine X_eq (st' := [.inl (nI (so σ x))]) rfl (congrArg (fun zz9 => Sum.inl zz9 :: _) (xso)) rfl ?_
    refine X_run 1 (pc' := 18) (L' := [some (.inr (some (5, 0))), some (.inr (some (18, x))), some (.inr (some (20, t)))]) (st' := [.inl (3), .inl (nI (so σ x))]) rfl ?_
    refine X_ic_ne (tgt := 22) (nx := 21) rfl rfl rfl (fun n2 => ?_) (fun n2 => ?_)
    · have n2 := li_ne (b := 3) n2
      refine X_run 1 (pc' := 23) (L' := [some (.inr (some (5, 0))), some (.inr (some (18, x))), some (.inr (some (20, t)))]) (st' := [.inr (some (18, x))]) rfl ?_
      refine XC_get (a := 18) (i := x) (v := .inl (F 18 x 2)) rfl f_Pi_103 ⟨rfl, rfl⟩ (by assumption) rfl rfl ?_
      refine X_eq (st' := [.inl (nI (so σ x))]) rfl (congrArg (fun zz9 => Sum.inl zz9 :: _) (xso)) rfl ?_
      refine X_run 1 (pc' := 27) (L' := [some (.inr (some (5, 0))), some (.inr (some (18, x))), some (.inr (some (20, t)))]) (st' := [.inl (4), .inl (nI (so σ x))]) rfl ?_
      refine X_ic_ne (tgt := 36) (nx := 30) rfl rfl rfl (fun n3 => ?_) (fun n3 => ?_)
      · have n3 := li_ne (b := 4) n3
        refine X_run 2 (pc' := 38) (L' := [some (.inr (some (5, 0))), some (.inr (some (18, x))), some (.inr (some (20, t)))]) (st' := [.inr (some (20, t)), .inr (some (18, x))]) rfl ?_
        refine XC_get (a := 20) (i := t) (v := .inr (some (21, t))) rfl f_Pi_147 ⟨rfl, rfl⟩ (by assumption) rfl rfl ?_
        refine X_callV (vs := [.inr (some (21, t))]) (st := []) (mc := 0) (ms := 0) rfl ok_De_includeIn v_Pi_150 (cH_obj rfl (by assumption)) rfl rfl (Nat.le_of_ble_eq_true rfl) (Nat.le_of_ble_eq_true rfl) (Nat.le_of_ble_eq_true rfl) (Nat.le_of_ble_eq_true rfl) (Nat.le_of_ble_eq_true rfl) (Nat.le_of_ble_eq_true rfl) rfl ?_
        refine c_De_includeIn hD' ⟨rfl, rfl⟩ t21 rfl w4a (fun f hf => ?_)
        show X M_Pi_change _ _ 44 [some (.inr (some (5, 0))), some (.inr (some (18, x))), some (.inr (some (20, t)))] [] (cH F (uR B 21 t f) C Wr E r) 0 0
        have b21 : ∀ e, e < 4 → (uR B 21 t f) 21 t e = nI (tuS x (tsP σ P t).2.2.2.1 e) := fun e he => by rw [uR_eq, hf e he]; rfl
        have b22 : ∀ e, e < 4 → (uR B 21 t f) 22 t e = nI ((tsP σ P t).2.2.2.2 e) := fun e he => by rw [uR_ne (by omega)]; exact (w4 e he).2.2.1
        have hBo : ∀ a i, ¬ ((a = 21 ∨ a = 22) ∧ i = t) → (uR B 21 t f) a i = B a i := fun a i hh => uR_ne (by omega)
        have odE : so σ x ≠ 5 → odP σ (P ++ [x]) = odP σ P := fun z => by
          rw [odP_snoc]
          unfold odN
          rw [if_neg s0, if_neg z]
        refine X_run 1 (pc' := 45) (L' := [some (.inr (some (5, 0))), some (.inr (some (18, x))), some (.inr (some (20, t)))]) (st' := [.inr (some (18, x))]) rfl ?_
        refine XC_get (a := 18) (i := x) (v := .inl (F 18 x 2)) rfl f_Pi_103 ⟨rfl, rfl⟩ (by assumption) rfl rfl ?_
        refine X_eq (st' := [.inl (nI (so σ x))]) rfl (congrArg (fun zz9 => Sum.inl zz9 :: _) (xso)) rfl ?_
        refine X_sw_1_6 (t0 := 88) (t1 := 104) (t2 := 143) (t3 := 143) (t4 := 131) (t5 := 120) (tout := 143) rfl rfl rfl rfl rfl rfl rfl rfl (fun hw => ?_) (fun hw => ?_) (fun hw => ?_) (fun hw => ?_) (fun hw => ?_) (fun hw => ?_) (fun hw0 hw1 hw2 hw3 hw4 hw5 => ?_)
        · have hw := li_eq (b := 1) (by omega) (by omega) hw
          refine X_run 2 (pc' := 90) (L' := [some (.inr (some (5, 0))), some (.inr (some (18, x))), some (.inr (some (20, t)))]) (st' := [.inr (some (20, t)), .inr (some (20, t))]) rfl ?_
          refine XC_get (a := 20) (i := t) (v := .inl (F 20 t 4)) rfl f_Pi_154 ⟨rfl, rfl⟩ (by assumption) rfl rfl ?_
          refine X_eq (st' := [.inl (F 20 t 4), .inr (some (20, t))]) rfl (congrArg (fun zz9 => Sum.inl zz9 :: _) (rfl)) rfl ?_
          refine X_run 1 (pc' := 94) (L' := [some (.inr (some (5, 0))), some (.inr (some (18, x))), some (.inr (some (20, t)))]) (st' := [.inr (some (18, x)), .inl (F 20 t 4), .inr (some (20, t))]) rfl ?_
          refine XC_get (a := 18) (i := x) (v := .inl (F 18 x 5)) rfl f_Pi_130 ⟨rfl, rfl⟩ (by assumption) rfl rfl ?_
          refine X_eq (st' := [.inl (vl σ x), .inl (F 20 t 4), .inr (some (20, t))]) rfl (congrArg (fun zz9 => Sum.inl zz9 :: _) (xam (by omega))) rfl ?_
          refine X_run 1 (pc' := 98) (L' := [some (.inr (some (5, 0))), some (.inr (some (18, x))), some (.inr (some (20, t)))]) (st' := [.inl ((F 20 t 4) + (vl σ x)), .inr (some (20, t))]) rfl ?_
          refine XC_put (k := 4) (a := 20) (i := t) rfl f_Pi_154 rfl rfl rfl ⟨rfl, rfl⟩ ⟨rfl, rfl⟩ (by assumption) (fun _ => ⟨rfl, rfl⟩) rfl ?_
          refine X_run 1 (pc' := 143) (L' := [some (.inr (some (5, 0))), some (.inr (some (18, x))), some (.inr (some (20, t)))]) (st' := []) rfl ?_
          refine X_vret rfl rfl (Nat.le_refl _) (Nat.le_refl _) (hq _ _ _ (hR.step s0 et xtl hth (fun a i k h1 h2 => u3_ne (by omega)) hBo (fun _ _ => rfl) ?_ ?_) ⟨fun a i k h1 h2 => u3_ne (by omega), fun a i h1 h2 => uR_ne (by omega), fun _ _ _ => rfl, fun _ _ _ _ _ => rfl, fun _ _ z => z⟩)
          · rw [odE (by omega)]
            refine ⟨by rw [u3_ne (by omega)]; exact hO.1, hO.2.1, hO.2.2.1, fun k z hz => ?_⟩
            rw [u3_ne (by omega)]
            exact hO.2.2.2 k z hz
          · rw [tsP_snoc]
            unfold tsS
            rw [if_pos et, if_neg s0, if_pos hw]
            exact ⟨by rw [u3_ne (by omega)]; exact w1, by rw [u3_eq, w2], by rw [u3_ne (by omega)]; exact w3, fun e he => ⟨b21 e he, tuB e he, b22 e he, (w4 e he).2.2.2⟩⟩
        · have hw := li_eq (b := 2) (by omega) (by omega) hw
          refine X_run 2 (pc' := 106) (L' := [some (.inr (some (5, 0))), some (.inr (some (18, x))), some (.inr (some (20, t)))]) (st' := [.inr (some (20, t)), .inr (some (20, t))]) rfl ?_
          refine XC_get (a := 20) (i := t) (v := .inl (F 20 t 5)) rfl f_Pi_157 ⟨rfl, rfl⟩ (by assumption) rfl rfl ?_
          refine X_eq (st' := [.inl (F 20 t 5), .inr (some (20, t))]) rfl (congrArg (fun zz9 => Sum.inl zz9 :: _) (rfl)) rfl ?_
          refine X_run 1 (pc' := 110) (L' := [some (.inr (some (5, 0))), some (.inr (some (18, x))), some (.inr (some (20, t)))]) (st' := [.inr (some (18, x)), .inl (F 20 t 5), .inr (some (20, t))]) rfl ?_
          refine XC_get (a := 18) (i := x) (v := .inl (F 18 x 5)) rfl f_Pi_130 ⟨rfl, rfl⟩ (by assumption) rfl rfl ?_
          refine X_eq (st' := [.inl (vl σ x), .inl (F 20 t 5), .inr (some (20, t))]) rfl (congrArg (fun zz9 => Sum.inl zz9 :: _) (xam (by omega))) rfl ?_
          refine X_run 1 (pc' := 114) (L' := [some (.inr (some (5, 0))), some (.inr (some (18, x))), some (.inr (some (20, t)))]) (st' := [.inl ((F 20 t 5) + (vl σ x)), .inr (some (20, t))]) rfl ?_
          refine XC_put (k := 5) (a := 20) (i := t) rfl f_Pi_157 rfl rfl rfl ⟨rfl, rfl⟩ ⟨rfl, rfl⟩ (by assumption) (fun _ => ⟨rfl, rfl⟩) rfl ?_
          refine X_run 1 (pc' := 143) (L' := [some (.inr (some (5, 0))), some (.inr (some (18, x))), some (.inr (some (20, t)))]) (st' := []) rfl ?_
          refine X_vret rfl rfl (Nat.le_refl _) (Nat.le_refl _) (hq _ _ _ (hR.step s0 et xtl hth (fun a i k h1 h2 => u3_ne (by omega)) hBo (fun _ _ => rfl) ?_ ?_) ⟨fun a i k h1 h2 => u3_ne (by omega), fun a i h1 h2 => uR_ne (by omega), fun _ _ _ => rfl, fun _ _ _ _ _ => rfl, fun _ _ z => z⟩)
          · rw [odE (by omega)]
            refine ⟨by rw [u3_ne (by omega)]; exact hO.1, hO.2.1, hO.2.2.1, fun k z hz => ?_⟩
            rw [u3_ne (by omega)]
            exact hO.2.2.2 k z hz
          · rw [tsP_snoc]
            unfold tsS
            rw [if_pos et, if_neg s0, if_neg (by omega), if_pos hw]
            exact ⟨by rw [u3_ne (by omega)]; exact w1, by rw [u3_ne (by omega)]; exact w2, by rw [u3_eq, w3], fun e he => ⟨b21 e he, tuB e he, b22 e he, (w4 e he).2.2.2⟩⟩
        · have hw := li_eq (b := 3) (by omega) (by omega) hw
          exact absurd hw n2
        · have hw := li_eq (b := 4) (by omega) (by omega) hw
          exact absurd hw n3
        · have hw := li_eq (b := 5) (by omega) (by omega) hw
          refine X_run 3 (pc' := 134) (L' := [some (.inr (some (5, 0))), some (.inr (some (18, x))), some (.inr (some (20, t)))]) (st' := [.inr (some (18, x)), .inr (some (20, t)), .inr (some (5, 0))]) rfl ?_
          refine XC_get (a := 18) (i := x) (v := .inl (F 18 x 5)) rfl f_Pi_130 ⟨rfl, rfl⟩ (by assumption) rfl rfl ?_
          refine X_eq (st' := [.inl (vl σ x), .inr (some (20, t)), .inr (some (5, 0))]) rfl (congrArg (fun zz9 => Sum.inl zz9 :: _) (xam (by omega))) rfl ?_
          refine X_callV (vs := [.inr (some (20, t)), .inl (vl σ x)]) (st := []) (mc := 0) (ms := 0) rfl ok_Pi_shift v_Pi_161 (cH_obj rfl (by assumption)) rfl rfl (Nat.le_of_ble_eq_true rfl) (Nat.le_of_ble_eq_true rfl) (Nat.le_of_ble_eq_true rfl) (Nat.le_of_ble_eq_true rfl) (Nat.le_of_ble_eq_true rfl) (Nat.le_of_ble_eq_true rfl) rfl ?_
          refine c_Pi_shift (th := thP σ P) hP hO hR.2.1.TH hR.2.2.2.1 hp (h5b hw) (fun F' C' y1 y2 y3 => ?_)
          show X M_Pi_change _ _ 140 [some (.inr (some (5, 0))), some (.inr (some (18, x))), some (.inr (some (20, t)))] [] (cH F' (uR B 21 t f) C' Wr E r) 0 0
          refine X_run 1 (pc' := 143) (L' := [some (.inr (some (5, 0))), some (.inr (some (18, x))), some (.inr (some (20, t)))]) (st' := []) rfl ?_
          refine X_vret rfl rfl (Nat.le_refl _) (Nat.le_refl _) (hq _ _ _ (hR.step s0 et xtl hth (fun a i k h1 h2 => y1 a i k h2) hBo y2 ?_ ?_) ⟨fun a i k h1 h2 => y1 a i k (by omega), fun a i h1 h2 => uR_ne (by omega), fun a h1 h2 => y2 a h2, fun _ _ _ _ _ => rfl, fun _ _ z => z⟩)
          · rw [odP_snoc]
            unfold odN
            rw [if_neg s0, if_pos hw, et]
            exact y3
          · rw [tsP_snoc]
            unfold tsS
            rw [if_pos et, if_neg s0, if_neg (by omega), if_neg (by omega), if_neg (by omega), if_pos hw]
            exact ⟨by rw [y1 _ _ _ (by omega)]; exact w1, by rw [y1 _ _ _ (by omega)]; exact w2, by rw [y1 _ _ _ (by omega)]; exact w3, fun e he => ⟨b21 e he, tuB e he, b22 e he, (w4 e he).2.2.2⟩⟩
        · have hw := li_eq (b := 6) (by omega) (by omega) hw
          refine X_run 2 (pc' := 122) (L' := [some (.inr (some (5, 0))), some (.inr (some (18, x))), some (.inr (some (20, t)))]) (st' := [.inr (some (18, x)), .inr (some (20, t))]) rfl ?_
          refine XC_get (a := 18) (i := x) (v := .inl (F 18 x 6)) rfl f_Pi_127 ⟨rfl, rfl⟩ (by assumption) rfl rfl ?_
          refine X_eq (st' := [.inl (vl σ x), .inr (some (20, t))]) rfl (congrArg (fun zz9 => Sum.inl zz9 :: _) (xnm hw)) rfl ?_
          refine XC_put (k := 3) (a := 20) (i := t) rfl f_Pi_160 rfl rfl rfl ⟨rfl, rfl⟩ ⟨rfl, rfl⟩ (by assumption) (fun _ => ⟨rfl, rfl⟩) rfl ?_
          refine X_run 1 (pc' := 143) (L' := [some (.inr (some (5, 0))), some (.inr (some (18, x))), some (.inr (some (20, t)))]) (st' := []) rfl ?_
          refine X_vret rfl rfl (Nat.le_refl _) (Nat.le_refl _) (hq _ _ _ (hR.step s0 et xtl hth (fun a i k h1 h2 => u3_ne (by omega)) hBo (fun _ _ => rfl) ?_ ?_) ⟨fun a i k h1 h2 => u3_ne (by omega), fun a i h1 h2 => uR_ne (by omega), fun _ _ _ => rfl, fun _ _ _ _ _ => rfl, fun _ _ z => z⟩)
          · rw [odE (by omega)]
            refine ⟨by rw [u3_ne (by omega)]; exact hO.1, hO.2.1, hO.2.2.1, fun k z hz => ?_⟩
            rw [u3_ne (by omega)]
            exact hO.2.2.2 k z hz
          · rw [tsP_snoc]
            unfold tsS
            rw [if_pos et, if_neg s0, if_neg (by omega), if_neg (by omega), if_neg (by omega), if_neg (by omega), if_pos hw]
            exact ⟨by rw [u3_eq], by rw [u3_ne (by omega)]; exact w2, by rw [u3_ne (by omega)]; exact w3, fun e he => ⟨b21 e he, tuB e he, b22 e he, (w4 e he).2.2.2⟩⟩
        · exfalso
          rcases (show so σ x = 1 ∨ so σ x = 2 ∨ so σ x = 5 ∨ so σ x = 6 by omega) with z | z | z | z
          · exact hw0 (by rw [z])
          · exact hw1 (by rw [z])
          · exact hw4 (by rw [z])
          · exact hw5 (by rw [z])
      · have n3 := li_eq (b := 4) (by omega) (by omega) n3
        refine X_run 2 (pc' := 32) (L' := [some (.inr (some (5, 0))), some (.inr (some (18, x))), some (.inr (some (20, t)))]) (st' := [.inr (some (18, x)), .inr (some (20, t))]) rfl ?_
        refine X_callV (vs := [.inr (some (18, x))]) (st := []) (mc := 0) (ms := 0) rfl ok_Th_noteBack v_Pi_144 (cH_obj rfl (by assumption)) rfl rfl (Nat.le_of_ble_eq_true rfl) (Nat.le_of_ble_eq_true rfl) (Nat.le_of_ble_eq_true rfl) (Nat.le_of_ble_eq_true rfl) (Nat.le_of_ble_eq_true rfl) (Nat.le_of_ble_eq_true rfl) rfl ?_
        refine c_Th_noteBack hD' t20 t22 w4b (fun f hf => ?_)
        show X M_Pi_change _ _ 35 [some (.inr (some (5, 0))), some (.inr (some (18, x))), some (.inr (some (20, t)))] [] (cH F (uR B 22 t f) C Wr E r) 0 0
        refine X_vret rfl rfl (Nat.le_refl _) (Nat.le_refl _) (hq _ _ _ (hR.step s0 et xtl hth (fun _ _ _ _ _ => rfl) (fun a i h1 => uR_ne (by omega)) (fun _ _ => rfl) ?_ ?_) ⟨fun _ _ _ _ _ => rfl, fun a i h1 h2 => uR_ne (by omega), fun _ _ _ => rfl, fun _ _ _ _ _ => rfl, fun _ _ z => z⟩)
        · rw [odP_snoc]
          unfold odN
          rw [if_neg s0, if_neg (by omega)]
          exact hO
        · rw [tsP_snoc]
          unfold tsS
          rw [if_pos et, if_neg s0, if_neg (by omega), if_neg (by omega), if_pos n3]
          refine ⟨w1, w2, w3, fun e he => ⟨by rw [uR_ne (by omega)]; exact (w4 e he).1, (w4 e he).2.1, by rw [uR_eq, hf e he], ?_⟩⟩
          have z1 := (w4 e he).2.2.2
          have z2 := (xkw e he).2
          show max _ _ ≤ 41
          omega
    · have n2 := li_eq (b := 3) (by omega) (by omega) n2
      refine X_vret rfl rfl (Nat.le_refl _) (Nat.le_refl _) (hq _ _ _ (hR.step s0 et xtl hth (fun _ _ _ _ _ => rfl) (fun _ _ _ => rfl) (fun _ _ => rfl) ?_ ?_) FL.rfl)
      · rw [odP_snoc]
        unfold odN
        rw [if_neg s0, if_neg (by omega)]
        exact hO
      · rw [tsP_snoc]
        unfold tsS
        rw [if_pos et, if_neg s0, if_neg (by omega), if_neg (by omega), if_neg (by omega), if_neg (by omega), if_neg (by omega)]
        exact ⟨w1, w2, w3, w4⟩
end

