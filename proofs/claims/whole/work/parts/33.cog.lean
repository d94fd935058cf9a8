/-! the component's picture: small methods, marks, picks -/
section
variable {F : CF} {B : CB} {C : CC} {Wr : Nat → Option Nd} {E : Nat → Nat → Bool} {r : AH} {Q : Option AV → AH → Prop} {h : AH} {σ : Sg} {see : Nat → Nat}
/-- the picture's own cells are there -/
def PE (E : Nat → Nat → Bool) : Prop := E 5 0 = true ∧ E 6 0 = true ∧ E 7 0 = true ∧ ∀ a, a = 8 ∨ a = 9 ∨ a = 12 ∨ a = 13 ∨ a = 14 → ∀ i, E a i = true ↔ i = 0
theorem PE.at {E : Nat → Nat → Bool} (h : PE E) {a : Nat} (ha : a = 8 ∨ a = 9 ∨ a = 12 ∨ a = 13 ∨ a = 14) : E a 0 = true := (h.2.2.2 a ha 0).mpr rfl
theorem c_Pi_isDrawn {a i : Nat} {m : Nat → Nat} (hP : PE E) (hk : rKd a = 1 ∧ rTg a = 0) (hE : E a i = true) (hl : rLn a = 4) (hm : ∀ e, e < 4 → B a i e = nI (m e) ∧ m e < 1000) (hs : ∀ e, e < 4 → B 6 0 e = nI (see e) ∧ see e < 1000) (hq : ∀ b : Bool, (b = true ↔ ∀ e, e < 4 → m e = see e) → Q (some (.inl (b2i b))) (cH F B C Wr E r)) : X M_Pi_isDrawn (rmo M_Pi_isDrawn 0 0) (Zm Q 0 0) 0 (ini M_Pi_isDrawn [.inr (some (5, 0)), .inr (some (a, i))]) [] (cH F B C Wr E r) 0 0 := by
  have h5 := hP.1
  have h6 := hP.2.1
  show X M_Pi_isDrawn _ _ 0 [some (.inr (some (5, 0))), some (.inr (some (a, i))), none] [] (cH F B C Wr E r) 0 0
  refine X_run 2 (pc' := 2) (L' := [some (.inr (some (5, 0))), some (.inr (some (a, i))), some (.inl (0))]) (st' := []) rfl ?_
  refine X_eq (L' := [some (.inr (some (5, 0))), some (.inr (some (a, i))), some (.inl (nI (0)))]) (congrArg (fun zz9 : Int32 => ([some (.inr (some (5, 0))), some (.inr (some (a, i))), some (.inl zz9)] : List (Option AV))) (by first | rfl | exact congrArg nI (by omega) | (simp only [il_0, il_1, il_2, il_3, il_4, il_5, il_6, il_7, il_16, il_20, il_40, il_160, pk_mul, nI_add]; done) | (simp only [il_0, il_1, il_2, il_3, il_4, il_5, il_6, il_7, il_16, il_20, il_40, il_160, pk_mul, nI_add]; exact congrArg nI (by omega)))) rfl rfl ?_
  refine up_ind 4 (fun k => (∀ e, e < k → m e = see e) → X M_Pi_isDrawn (rmo M_Pi_isDrawn 0 0) (Zm Q 0 0) 2 [some (.inr (some (5, 0))), some (.inr (some (a, i))), some (.inl (nI k))] [] (cH F B C Wr E r) 0 0) ?_ 0 (by omega) (fun e he => by omega)
  intro k hk4 ih hf
  refine X_run 2 (pc' := 4) (L' := [some (.inr (some (5, 0))), some (.inr (some (a, i))), some (.inl (nI k))]) (st' := [.inl (4), .inl (nI k)]) rfl ?_
  refine X_ic_ge (tgt := 27) (nx := 7) rfl rfl rfl (fun h1 => ?_) (fun h1 => ?_)
  · have h1 := li_le (a := 4) (by omega) (by omega) h1
    refine X_run 1 (pc' := 28) (L' := [some (.inr (some (5, 0))), some (.inr (some (a, i))), some (.inl (nI k))]) (st' := [.inl (1)]) rfl ?_
    exact X_iret rfl rfl rfl (Nat.le_refl _) (Nat.le_refl _) (hq true ⟨fun _ e he => hf e (by omega), fun _ => rfl⟩)
  · have h1 := li_nle (a := 4) (by omega) (by omega) h1
    have hm2 := hm k h1
    have hs2 := hs k h1
    refine X_run 2 (pc' := 9) (L' := [some (.inr (some (5, 0))), some (.inr (some (a, i))), some (.inl (nI k))]) (st' := [.inl (nI k), .inr (some (a, i))]) rfl ?_
    refine XC_ild (a := a) (i := i) (j := k) rfl hk (by assumption) (by rw [hl]; omega) rfl ?_
    refine X_eq (st' := [.inl (nI (m k))]) rfl (congrArg (fun zz9 => Sum.inl zz9 :: _) (hm2.1)) rfl ?_
    refine X_run 1 (pc' := 11) (L' := [some (.inr (some (5, 0))), some (.inr (some (a, i))), some (.inl (nI k))]) (st' := [.inr (some (5, 0)), .inl (nI (m k))]) rfl ?_
    refine XC_get (a := 5) (i := 0) (v := .inr (some (6, 0))) rfl f_Pi_9 ⟨rfl, rfl⟩ (by assumption) rfl rfl ?_
    refine X_run 1 (pc' := 15) (L' := [some (.inr (some (5, 0))), some (.inr (some (a, i))), some (.inl (nI k))]) (st' := [.inl (nI k), .inr (some (6, 0)), .inl (nI (m k))]) rfl ?_
    refine XC_ild (a := 6) (i := 0) (j := k) rfl ⟨rfl, rfl⟩ (by assumption) (by simp only [rLn]; omega) rfl ?_
    refine X_eq (st' := [.inl (nI (see k)), .inl (nI (m k))]) rfl (congrArg (fun zz9 => Sum.inl zz9 :: _) (hs2.1)) rfl ?_
    refine X_ic_eq (tgt := 21) (nx := 19) rfl rfl rfl (fun h2 => ?_) (fun h2 => ?_)
    · have h2 := li_eq (by omega) (by omega) h2
      refine X_run 2 (pc' := 2) (L' := [some (.inr (some (5, 0))), some (.inr (some (a, i))), some (.inl (nI k + 1))]) (st' := []) rfl ?_
      refine X_eq (L' := [some (.inr (some (5, 0))), some (.inr (some (a, i))), some (.inl (nI (k + 1)))]) (congrArg (fun zz9 : Int32 => ([some (.inr (some (5, 0))), some (.inr (some (a, i))), some (.inl zz9)] : List (Option AV))) (by first | rfl | exact congrArg nI (by omega) | (simp only [il_0, il_1, il_2, il_3, il_4, il_5, il_6, il_7, il_16, il_20, il_40, il_160, pk_mul, nI_add]; done) | (simp only [il_0, il_1, il_2, il_3, il_4, il_5, il_6, il_7, il_16, il_20, il_40, il_160, pk_mul, nI_add]; exact congrArg nI (by omega)))) rfl rfl ?_
      refine ih h1 (fun e he => ?_)
      by_cases q : e = k
      · rw [q]
        exact h2
      · exact hf e (by omega)
    · have h2 := li_ne h2
      refine X_run 1 (pc' := 20) (L' := [some (.inr (some (5, 0))), some (.inr (some (a, i))), some (.inl (nI k))]) (st' := [.inl (0)]) rfl ?_
      exact X_iret rfl rfl rfl (Nat.le_refl _) (Nat.le_refl _) (hq false ⟨fun z => (by cases z), fun z => absurd (z k h1) h2⟩)
theorem c_Pi_holds {x : Nat} (hP : PE E) (hx : DE σ F B E x) (hs : ∀ e, e < 4 → B 6 0 e = nI (see e) ∧ see e < 1000) (hq : Q (some (.inl (b2i (inV see x)))) (cH F B C Wr E r)) : X M_Pi_holds (rmo M_Pi_holds 0 0) (Zm Q 0 0) 0 (ini M_Pi_holds [.inr (some (5, 0)), .inr (some (18, x))]) [] (cH F B C Wr E r) 0 0 := by
  have h5 := hP.1
  have h6 := hP.2.1
  obtain ⟨hx0, h18, h19, hd, hn, -⟩ := hx
  have hx4 : x / 40 < 4 := by omega
  have hs2 := hs _ hx4
  show X M_Pi_holds _ _ 0 [some (.inr (some (5, 0))), some (.inr (some (18, x)))] [] (cH F B C Wr E r) 0 0
  refine X_run 1 (pc' := 1) (L' := [some (.inr (some (5, 0))), some (.inr (some (18, x)))]) (st' := [.inr (some (18, x))]) rfl ?_
  refine XC_get (a := 18) (i := x) (v := .inl (F 18 x 1)) rfl f_Pi_89 ⟨rfl, rfl⟩ (by assumption) rfl rfl ?_
  refine X_eq (st' := [.inl (nI (x % 40))]) rfl (congrArg (fun zz9 => Sum.inl zz9 :: _) (hn)) rfl ?_
  refine X_run 1 (pc' := 5) (L' := [some (.inr (some (5, 0))), some (.inr (some (18, x)))]) (st' := [.inr (some (5, 0)), .inl (nI (x % 40))]) rfl ?_
  refine XC_get (a := 5) (i := 0) (v := .inr (some (6, 0))) rfl f_Pi_9 ⟨rfl, rfl⟩ (by assumption) rfl rfl ?_
  refine X_run 1 (pc' := 9) (L' := [some (.inr (some (5, 0))), some (.inr (some (18, x)))]) (st' := [.inr (some (18, x)), .inr (some (6, 0)), .inl (nI (x % 40))]) rfl ?_
  refine XC_get (a := 18) (i := x) (v := .inl (F 18 x 0)) rfl f_Pi_92 ⟨rfl, rfl⟩ (by assumption) rfl rfl ?_
  refine X_eq (st' := [.inl (nI (x / 40)), .inr (some (6, 0)), .inl (nI (x % 40))]) rfl (congrArg (fun zz9 => Sum.inl zz9 :: _) (hd)) rfl ?_
  refine XC_ild (a := 6) (i := 0) (j := (x / 40)) rfl ⟨rfl, rfl⟩ (by assumption) (by simp only [rLn]; omega) rfl ?_
  refine X_eq (st' := [.inl (nI (see (x / 40))), .inl (nI (x % 40))]) rfl (congrArg (fun zz9 => Sum.inl zz9 :: _) (hs2.1)) rfl ?_
  refine X_ic_ge (tgt := 20) (nx := 16) rfl rfl rfl (fun h1 => ?_) (fun h1 => ?_)
  · have h1 := li_le (by omega) (by omega) h1
    refine X_run 1 (pc' := 21) (L' := [some (.inr (some (5, 0))), some (.inr (some (18, x)))]) (st' := [.inl (0)]) rfl ?_
    exact X_iret rfl rfl rfl (Nat.le_refl _) (Nat.le_refl _) (qf (decide_eq_false (by omega)) hq)
  · have h1 := li_nle (by omega) (by omega) h1
    refine X_run 2 (pc' := 21) (L' := [some (.inr (some (5, 0))), some (.inr (some (18, x)))]) (st' := [.inl (1)]) rfl ?_
    exact X_iret rfl rfl rfl (Nat.le_refl _) (Nat.le_refl _) (qt (decide_eq_true h1) hq)
/-- which things are there -/
def TH (th : Nat → Bool) (F : CF) (C : CC) (E : Nat → Nat → Bool) : Prop := ∀ t, t < 160 → (C 9 t = none ∧ th t = false) ∨ (C 9 t = some (20, t) ∧ E 20 t = true ∧ F 20 t 1 = b2i (th t))
theorem c_Pi_find {th : Nat → Bool} {t : Int32} (hP : PE E) (hT : TH th F C E) (hq : ∀ v : Option Nd, ((∃ k, k < 160 ∧ t = nI k ∧ th k = true ∧ v = some (20, k)) ∨ (v = none ∧ ∀ k, k < 160 → t = nI k → th k = false)) → Q (some (.inr v)) (cH F B C Wr E r)) : X M_Pi_find (rmo M_Pi_find 0 0) (Zm Q 0 0) 0 (ini M_Pi_find [.inr (some (5, 0)), .inl t]) [] (cH F B C Wr E r) 0 0 := by
  have h5 := hP.1
  have h9 : E 9 0 = true := hP.at (by omega)
  show X M_Pi_find _ _ 0 [some (.inr (some (5, 0))), some (.inl (t))] [] (cH F B C Wr E r) 0 0
  refine X_run 1 (pc' := 1) (L' := [some (.inr (some (5, 0))), some (.inl (t))]) (st' := [.inl (t)]) rfl ?_
  refine X_if_lt (tgt := 20) (nx := 4) rfl rfl rfl (fun a1 => ?_) (fun a1 => ?_)
  · refine X_run 1 (pc' := 21) (L' := [some (.inr (some (5, 0))), some (.inl (t))]) (st' := [.inr none]) rfl ?_
    exact X_aret rfl rfl (Or.inl ⟨_, rfl⟩) (Nat.le_refl _) (Nat.le_refl _) (hq none (Or.inr ⟨rfl, fun k hk e1 => by rw [e1] at a1; exact absurd a1 (nI_n0 (by omega))⟩))
  · obtain ⟨k, hk, ek⟩ := nI_lt0 a1
    refine X_run 2 (pc' := 8) (L' := [some (.inr (some (5, 0))), some (.inl (t))]) (st' := [.inl (160), .inl (t)]) rfl ?_
    refine X_ic_ge (tgt := 20) (nx := 11) rfl rfl rfl (fun a2 => ?_) (fun a2 => ?_)
    · rw [ek] at a2
      have a2 := li_le (a := 160) (by omega) hk a2
      refine X_run 1 (pc' := 21) (L' := [some (.inr (some (5, 0))), some (.inl (t))]) (st' := [.inr none]) rfl ?_
      exact X_aret rfl rfl (Or.inl ⟨_, rfl⟩) (Nat.le_refl _) (Nat.le_refl _) (hq none (Or.inr ⟨rfl, fun k' hk' e1 => by rw [ek] at e1; have := li_eq hk (by omega) e1; omega⟩))
    · rw [ek] at a2
      have a2 := li_nle (a := 160) (by omega) hk a2
      have uniq : ∀ k', k' < 160 → t = nI k' → k' = k := fun k' hk' e1 => by
        rw [ek] at e1
        exact (li_eq hk (by omega) e1).symm
      refine X_eq (L' := [some (.inr (some (5, 0))), some (.inl (nI k))]) (congrArg (fun zz9 : Int32 => ([some (.inr (some (5, 0))), some (.inl zz9)] : List (Option AV))) (ek)) rfl rfl ?_
      refine X_run 1 (pc' := 12) (L' := [some (.inr (some (5, 0))), some (.inl (nI k))]) (st' := [.inr (some (5, 0))]) rfl ?_
      refine XC_get (a := 5) (i := 0) (v := .inr (some (9, 0))) rfl f_Pi_31 ⟨rfl, rfl⟩ (by assumption) rfl rfl ?_
      refine X_run 1 (pc' := 16) (L' := [some (.inr (some (5, 0))), some (.inl (nI k))]) (st' := [.inl (nI k), .inr (some (9, 0))]) rfl ?_
      refine XC_ald (a := 9) (i := 0) (j := k) (v := (C 9 k)) rfl ⟨rfl, by decide, by decide⟩ (by assumption) (by simp only [rLn]; omega) rfl rfl ?_
      rcases hT k a2 with ⟨c1, c2⟩ | ⟨c1, c2, c3⟩
      · rw [c1]
        refine X_ifnonnull (tgt := 22) (nx := 20) rfl rfl rfl (fun nn a3 => ?_) (fun a3 => ?_)
        · cases a3
        · refine X_run 1 (pc' := 21) (L' := [some (.inr (some (5, 0))), some (.inl (nI k))]) (st' := [.inr none]) rfl ?_
          exact X_aret rfl rfl (Or.inl ⟨_, rfl⟩) (Nat.le_refl _) (Nat.le_refl _) (hq none (Or.inr ⟨rfl, fun k' hk' e1 => by rw [uniq k' hk' e1]; exact c2⟩))
      · rw [c1]
        refine X_ifnonnull (tgt := 22) (nx := 20) rfl rfl rfl (fun nn a3 => ?_) (fun a3 => ?_)
        · refine X_run 1 (pc' := 23) (L' := [some (.inr (some (5, 0))), some (.inl (nI k))]) (st' := [.inr (some (5, 0))]) rfl ?_
          refine XC_get (a := 5) (i := 0) (v := .inr (some (9, 0))) rfl f_Pi_31 ⟨rfl, rfl⟩ (by assumption) rfl rfl ?_
          refine X_run 1 (pc' := 27) (L' := [some (.inr (some (5, 0))), some (.inl (nI k))]) (st' := [.inl (nI k), .inr (some (9, 0))]) rfl ?_
          refine XC_ald (a := 9) (i := 0) (j := k) (v := (C 9 k)) rfl ⟨rfl, by decide, by decide⟩ (by assumption) (by simp only [rLn]; omega) rfl rfl ?_
          rw [c1]
          refine XC_get (a := 20) (i := k) (v := .inl (F 20 k 1)) rfl f_Pi_86 ⟨rfl, rfl⟩ (by assumption) rfl rfl ?_
          refine X_eq (st' := [.inl (b2i (th k))]) rfl (congrArg (fun zz9 => Sum.inl zz9 :: _) (c3)) rfl ?_
          refine X_if_eq (tgt := 43) (nx := 34) rfl rfl rfl (fun a4 => ?_) (fun a4 => ?_)
          · rw [b2i_0] at a4
            refine X_run 1 (pc' := 44) (L' := [some (.inr (some (5, 0))), some (.inl (nI k))]) (st' := [.inr none]) rfl ?_
            exact X_aret rfl rfl (Or.inl ⟨_, rfl⟩) (Nat.le_refl _) (Nat.le_refl _) (hq none (Or.inr ⟨rfl, fun k' hk' e1 => by rw [uniq k' hk' e1]; exact a4⟩))
          · rw [b2i_n0] at a4
            refine X_run 1 (pc' := 35) (L' := [some (.inr (some (5, 0))), some (.inl (nI k))]) (st' := [.inr (some (5, 0))]) rfl ?_
            refine XC_get (a := 5) (i := 0) (v := .inr (some (9, 0))) rfl f_Pi_31 ⟨rfl, rfl⟩ (by assumption) rfl rfl ?_
            refine X_run 1 (pc' := 39) (L' := [some (.inr (some (5, 0))), some (.inl (nI k))]) (st' := [.inl (nI k), .inr (some (9, 0))]) rfl ?_
            refine XC_ald (a := 9) (i := 0) (j := k) (v := (C 9 k)) rfl ⟨rfl, by decide, by decide⟩ (by assumption) (by simp only [rLn]; omega) rfl rfl ?_
            rw [c1]
            refine X_run 1 (pc' := 44) (L' := [some (.inr (some (5, 0))), some (.inl (nI k))]) (st' := [.inr (some (20, k))]) rfl ?_
            exact X_aret rfl rfl (Or.inl ⟨_, rfl⟩) (Nat.le_refl _) (Nat.le_refl _) (hq _ (Or.inl ⟨k, a2, ek, a4, rfl⟩))
        · cases a3
theorem c_Pi_find1 {th : Nat → Bool} {k : Nat} (hP : PE E) (hT : TH th F C E) (hk : k < 160) (hq1 : th k = true → Q (some (.inr (some (20, k)))) (cH F B C Wr E r)) (hq0 : th k = false → Q (some (.inr none)) (cH F B C Wr E r)) : X M_Pi_find (rmo M_Pi_find 0 0) (Zm Q 0 0) 0 (ini M_Pi_find [.inr (some (5, 0)), .inl (nI k)]) [] (cH F B C Wr E r) 0 0 := by
  refine c_Pi_find hP hT (fun v hv => ?_)
  rcases hv with ⟨k', hk', e1, e2, e3⟩ | ⟨e1, e2⟩
  · have := li_eq (by omega) (by omega) e1
    subst this
    rw [e3]
    exact hq1 e2
  · rw [e1]
    exact hq0 (e2 k hk rfl)
def unP (σ : Sg) (see : Nat → Nat) (l : List Nat) (x : Nat) : Bool := l.any (fun y => inV see y && so σ y == 7 && 40 * (y / 40) + tg σ y == x)
theorem c_Pi_markUndone (hP : PE E) (hL : LG σ F B C E) (hs : ∀ e, e < 4 → B 6 0 e = nI (see e) ∧ see e < 1000) (hu : ∀ x, x ∈ ln σ → so σ x = 7 → tg σ x < 40) (hq : ∀ f : Nat → Int32, (∀ x, x < 160 → f x = b2i (unP σ see (ln σ) x)) → Q none (cH F (uR B 7 0 f) C Wr E r)) : X M_Pi_markUndone (rmo M_Pi_markUndone 0 0) (Zm Q 0 0) 0 (ini M_Pi_markUndone [.inr (some (5, 0)), .inr (some (2, 0))]) [] (cH F B C Wr E r) 0 0 := by
  have h5 := hP.1
  have h7 := hP.2.2.1
  obtain ⟨h2, h3, h4, hsz, hlen, hC4, hC3, hDE, -⟩ := hL
  have h40 : E 4 0 = true := (h4 0).mpr rfl
  show X M_Pi_markUndone _ _ 0 [some (.inr (some (5, 0))), some (.inr (some (2, 0))), none, none] [] (cH F B C Wr E r) 0 0
  refine X_run 2 (pc' := 2) (L' := [some (.inr (some (5, 0))), some (.inr (some (2, 0))), some (.inl (0)), none]) (st' := []) rfl ?_
  refine X_eq (L' := [some (.inr (some (5, 0))), some (.inr (some (2, 0))), some (.inl (nI (0))), none]) (congrArg (fun zz9 : Int32 => ([some (.inr (some (5, 0))), some (.inr (some (2, 0))), some (.inl zz9), none] : List (Option AV))) (by first | rfl | exact congrArg nI (by omega) | (simp only [il_0, il_1, il_2, il_3, il_4, il_5, il_6, il_7, il_16, il_20, il_40, il_160, pk_mul, nI_add]; done) | (simp only [il_0, il_1, il_2, il_3, il_4, il_5, il_6, il_7, il_16, il_20, il_40, il_160, pk_mul, nI_add]; exact congrArg nI (by omega)))) rfl rfl ?_
  refine up_ind 160 (fun k => ∀ f : Nat → Int32, (∀ j, j < k → f j = 0) → X M_Pi_markUndone (rmo M_Pi_markUndone 0 0) (Zm Q 0 0) 2 [some (.inr (some (5, 0))), some (.inr (some (2, 0))), some (.inl (nI k)), none] [] (cH F (uR B 7 0 f) C Wr E r) 0 0) ?_ 0 (by omega) (B 7 0) (fun j hj => by omega) |> fun hh => ?_
  · rw [uR_self] at hh
    exact hh
  intro k hk ih f hf
  refine X_run 2 (pc' := 6) (L' := [some (.inr (some (5, 0))), some (.inr (some (2, 0))), some (.inl (nI k)), none]) (st' := [.inl (160), .inl (nI k)]) rfl ?_
  refine X_ic_ge (tgt := 22) (nx := 9) rfl rfl rfl (fun h1 => ?_) (fun h1 => ?_)
  · have h1 := li_le (a := 160) (by omega) (by omega) h1
    refine X_run 2 (pc' := 24) (L' := [some (.inr (some (5, 0))), some (.inr (some (2, 0))), some (.inl (0)), none]) (st' := []) rfl ?_
    refine X_eq (L' := [some (.inr (some (5, 0))), some (.inr (some (2, 0))), some (.inl (nI (0))), none]) (congrArg (fun zz9 : Int32 => ([some (.inr (some (5, 0))), some (.inr (some (2, 0))), some (.inl zz9), none] : List (Option AV))) (by first | rfl | exact congrArg nI (by omega) | (simp only [il_0, il_1, il_2, il_3, il_4, il_5, il_6, il_7, il_16, il_20, il_40, il_160, pk_mul, nI_add]; done) | (simp only [il_0, il_1, il_2, il_3, il_4, il_5, il_6, il_7, il_16, il_20, il_40, il_160, pk_mul, nI_add]; exact congrArg nI (by omega)))) rfl rfl ?_
    refine up_ind (ln σ).length (fun i => ∀ (f : Nat → Int32) (o : Option AV), (∀ x, x < 160 → f x = b2i (unP σ see ((ln σ).take i) x)) → X M_Pi_markUndone (rmo M_Pi_markUndone 0 0) (Zm Q 0 0) 24 [some (.inr (some (5, 0))), some (.inr (some (2, 0))), some (.inl (nI i)), o] [] (cH F (uR B 7 0 f) C Wr E r) 0 0) ?_ 0 (by omega) f none (fun x hx => by rw [hf x (by omega)]; rfl)
    intro i hi ihi f o hf
    have hs' : ∀ e, e < 4 → (uR B 7 0 f) 6 0 e = nI (see e) ∧ see e < 1000 := fun e he => by rw [uR_ne (by omega)]; exact hs e he
    refine X_run 2 (pc' := 26) (L' := [some (.inr (some (5, 0))), some (.inr (some (2, 0))), some (.inl (nI i)), o]) (st' := [.inr (some (2, 0)), .inl (nI i)]) rfl ?_
    refine XC_get (a := 2) (i := 0) (v := .inl (F 2 0 2)) rfl f_Pi_95 ⟨rfl, rfl⟩ (by assumption) rfl rfl ?_
    refine X_eq (st' := [.inl (nI (ln σ).length), .inl (nI i)]) rfl (congrArg (fun zz9 => Sum.inl zz9 :: _) (hsz)) rfl ?_
    refine X_ic_ge (tgt := 79) (nx := 32) rfl rfl rfl (fun h2' => ?_) (fun h2' => ?_)
    · have h2' := li_le (by omega) (by omega) h2'
      have e : i = (ln σ).length := by omega
      exact X_vret rfl rfl (Nat.le_refl _) (Nat.le_refl _) (hq f (fun x hx => by rw [hf x hx, e, List.take_length]))
    · have h2' := li_nle (by omega) (by omega) h2'
      obtain ⟨x, hx⟩ : ∃ x, (ln σ)[i]? = some x := ⟨_, List.getElem?_eq_getElem h2'⟩
      have hxl := List.mem_of_getElem? hx
      have hD := hDE x hxl
      obtain ⟨x0, x18, x19, xd, xn, xso, xsp, xtg, -, -, -, xkw, xs7, -, xtl⟩ := hD
      have hD' : DE σ F (uR B 7 0 f) E x := hDE x hxl
      have tk : (ln σ).take (i + 1) = (ln σ).take i ++ [x] := by rw [List.take_add_one, hx]; rfl
      have up : ∀ z, unP σ see ((ln σ).take (i + 1)) z = (unP σ see ((ln σ).take i) z || (inV see x && so σ x == 7 && 40 * (x / 40) + tg σ x == z)) := fun z => by
        unfold unP
        rw [tk, List.any_append]
        simp
      refine X_run 1 (pc' := 33) (L' := [some (.inr (some (5, 0))), some (.inr (some (2, 0))), some (.inl (nI i)), o]) (st' := [.inr (some (2, 0))]) rfl ?_
      refine XC_get (a := 2) (i := 0) (v := .inr (some (4, 0))) rfl f_Pi_100 ⟨rfl, rfl⟩ (by assumption) rfl rfl ?_
      refine X_run 1 (pc' := 37) (L' := [some (.inr (some (5, 0))), some (.inr (some (2, 0))), some (.inl (nI i)), o]) (st' := [.inl (nI i), .inr (some (4, 0))]) rfl ?_
      refine XC_ald (a := 4) (i := 0) (j := i) (v := (C 4 i)) rfl ⟨rfl, by decide, by decide⟩ (by assumption) (by simp only [rLn]; omega) rfl rfl ?_
      rw [hC4 i x hx]
      refine X_run 2 (pc' := 40) (L' := [some (.inr (some (5, 0))), some (.inr (some (2, 0))), some (.inl (nI i)), some (.inr (some (18, x)))]) (st' := [.inr (some (18, x))]) rfl ?_
      refine XC_get (a := 18) (i := x) (v := .inl (F 18 x 2)) rfl f_Pi_103 ⟨rfl, rfl⟩ (by assumption) rfl rfl ?_
      refine X_eq (st' := [.inl (nI (so σ x))]) rfl (congrArg (fun zz9 => Sum.inl zz9 :: _) (xso)) rfl ?_
      refine X_run 1 (pc' := 45) (L' := [some (.inr (some (5, 0))), some (.inr (some (2, 0))), some (.inl (nI i)), some (.inr (some (18, x)))]) (st' := [.inl (7), .inl (nI (so σ x))]) rfl ?_
      refine X_ic_ne (tgt := 73) (nx := 48) rfl rfl rfl (fun h3' => ?_) (fun h3' => ?_)
      · have h3' := li_ne (b := 7) h3'
        refine X_run 2 (pc' := 24) (L' := [some (.inr (some (5, 0))), some (.inr (some (2, 0))), some (.inl (nI i + 1)), some (.inr (some (18, x)))]) (st' := []) rfl ?_
        refine X_eq (L' := [some (.inr (some (5, 0))), some (.inr (some (2, 0))), some (.inl (nI (i + 1))), some (.inr (some (18, x)))]) (congrArg (fun zz9 : Int32 => ([some (.inr (some (5, 0))), some (.inr (some (2, 0))), some (.inl zz9), some (.inr (some (18, x)))] : List (Option AV))) (by first | rfl | exact congrArg nI (by omega) | (simp only [il_0, il_1, il_2, il_3, il_4, il_5, il_6, il_7, il_16, il_20, il_40, il_160, pk_mul, nI_add]; done) | (simp only [il_0, il_1, il_2, il_3, il_4, il_5, il_6, il_7, il_16, il_20, il_40, il_160, pk_mul, nI_add]; exact congrArg nI (by omega)))) rfl rfl ?_
        refine ihi h2' f _ (fun z hz => ?_)
        rw [hf z hz, up z, show (so σ x == 7) = false by simpa using h3']
        simp
      · have h3' := li_eq (b := 7) (by omega) (by omega) h3'
        refine X_run 2 (pc' := 50) (L' := [some (.inr (some (5, 0))), some (.inr (some (2, 0))), some (.inl (nI i)), some (.inr (some (18, x)))]) (st' := [.inr (some (18, x)), .inr (some (5, 0))]) rfl ?_
        refine X_callV (vs := [.inr (some (18, x))]) (st := []) (mc := 0) (ms := 0) rfl ok_Pi_holds v_Pi_106 (cH_obj rfl (by assumption)) rfl rfl (Nat.le_of_ble_eq_true rfl) (Nat.le_of_ble_eq_true rfl) (Nat.le_of_ble_eq_true rfl) (Nat.le_of_ble_eq_true rfl) (Nat.le_of_ble_eq_true rfl) (Nat.le_of_ble_eq_true rfl) rfl ?_
        refine c_Pi_holds hP hD' hs' ?_
        show X M_Pi_markUndone _ _ 53 [some (.inr (some (5, 0))), some (.inr (some (2, 0))), some (.inl (nI i)), some (.inr (some (18, x)))] [.inl (b2i (inV see x))] (cH F (uR B 7 0 f) C Wr E r) 0 0
        refine X_if_eq (tgt := 73) (nx := 56) rfl rfl rfl (fun h4' => ?_) (fun h4' => ?_)
        · rw [b2i_0] at h4'
          refine X_run 2 (pc' := 24) (L' := [some (.inr (some (5, 0))), some (.inr (some (2, 0))), some (.inl (nI i + 1)), some (.inr (some (18, x)))]) (st' := []) rfl ?_
          refine X_eq (L' := [some (.inr (some (5, 0))), some (.inr (some (2, 0))), some (.inl (nI (i + 1))), some (.inr (some (18, x)))]) (congrArg (fun zz9 : Int32 => ([some (.inr (some (5, 0))), some (.inr (some (2, 0))), some (.inl zz9), some (.inr (some (18, x)))] : List (Option AV))) (by first | rfl | exact congrArg nI (by omega) | (simp only [il_0, il_1, il_2, il_3, il_4, il_5, il_6, il_7, il_16, il_20, il_40, il_160, pk_mul, nI_add]; done) | (simp only [il_0, il_1, il_2, il_3, il_4, il_5, il_6, il_7, il_16, il_20, il_40, il_160, pk_mul, nI_add]; exact congrArg nI (by omega)))) rfl rfl ?_
          refine ihi h2' f _ (fun z hz => ?_)
          rw [hf z hz, up z, h4']
          simp
        · rw [b2i_n0] at h4'
          have t40 := hu x hxl h3'
          refine X_run 1 (pc' := 57) (L' := [some (.inr (some (5, 0))), some (.inr (some (2, 0))), some (.inl (nI i)), some (.inr (some (18, x)))]) (st' := [.inr (some (5, 0))]) rfl ?_
          refine XC_get (a := 5) (i := 0) (v := .inr (some (7, 0))) rfl f_Pi_15 ⟨rfl, rfl⟩ (by assumption) rfl rfl ?_
          refine X_run 1 (pc' := 61) (L' := [some (.inr (some (5, 0))), some (.inr (some (2, 0))), some (.inl (nI i)), some (.inr (some (18, x)))]) (st' := [.inr (some (18, x)), .inr (some (7, 0))]) rfl ?_
          refine XC_get (a := 18) (i := x) (v := .inl (F 18 x 0)) rfl f_Pi_92 ⟨rfl, rfl⟩ (by assumption) rfl rfl ?_
          refine X_eq (st' := [.inl (nI (x / 40)), .inr (some (7, 0))]) rfl (congrArg (fun zz9 => Sum.inl zz9 :: _) (xd)) rfl ?_
          refine X_run 1 (pc' := 65) (L' := [some (.inr (some (5, 0))), some (.inr (some (2, 0))), some (.inl (nI i)), some (.inr (some (18, x)))]) (st' := [.inr (some (18, x)), .inl (nI (x / 40)), .inr (some (7, 0))]) rfl ?_
          refine XC_get (a := 18) (i := x) (v := .inl (F 18 x 4)) rfl f_Pi_110 ⟨rfl, rfl⟩ (by assumption) rfl rfl ?_
          refine X_eq (st' := [.inl (nI (tg σ x)), .inl (nI (x / 40)), .inr (some (7, 0))]) rfl (congrArg (fun zz9 => Sum.inl zz9 :: _) (xtg)) rfl ?_
          refine X_callS (vs := [.inl (nI (x / 40)), .inl (nI (tg σ x))]) (st := [.inr (some (7, 0))]) (mc := 0) (ms := 0) rfl ok_Pl_numberOf s_Pi_113 rfl rfl (Nat.le_of_ble_eq_true rfl) (Nat.le_of_ble_eq_true rfl) (Nat.le_of_ble_eq_true rfl) (Nat.le_of_ble_eq_true rfl) (Nat.le_of_ble_eq_true rfl) (Nat.le_of_ble_eq_true rfl) rfl ?_
          refine c_Pl_numberOf ?_
          show X M_Pi_markUndone _ _ 71 [some (.inr (some (5, 0))), some (.inr (some (2, 0))), some (.inl (nI i)), some (.inr (some (18, x)))] [.inl (nI (40 * (x / 40) + tg σ x)), .inr (some (7, 0))] (cH F (uR B 7 0 f) C Wr E r) 0 0
          refine X_run 1 (pc' := 72) (L' := [some (.inr (some (5, 0))), some (.inr (some (2, 0))), some (.inl (nI i)), some (.inr (some (18, x)))]) (st' := [.inl (1), .inl (nI (40 * (x / 40) + tg σ x)), .inr (some (7, 0))]) rfl ?_
          refine XC_zst (a := 7) (i := 0) (j := (40 * (x / 40) + tg σ x)) rfl ⟨rfl, rfl⟩ (by assumption) (by simp only [rLn]; omega) (by decide) rfl ?_
          rw [uR_u3]
          refine X_run 2 (pc' := 24) (L' := [some (.inr (some (5, 0))), some (.inr (some (2, 0))), some (.inl (nI i + 1)), some (.inr (some (18, x)))]) (st' := []) rfl ?_
          refine X_eq (L' := [some (.inr (some (5, 0))), some (.inr (some (2, 0))), some (.inl (nI (i + 1))), some (.inr (some (18, x)))]) (congrArg (fun zz9 : Int32 => ([some (.inr (some (5, 0))), some (.inr (some (2, 0))), some (.inl zz9), some (.inr (some (18, x)))] : List (Option AV))) (by first | rfl | exact congrArg nI (by omega) | (simp only [il_0, il_1, il_2, il_3, il_4, il_5, il_6, il_7, il_16, il_20, il_40, il_160, pk_mul, nI_add]; done) | (simp only [il_0, il_1, il_2, il_3, il_4, il_5, il_6, il_7, il_16, il_20, il_40, il_160, pk_mul, nI_add]; exact congrArg nI (by omega)))) rfl rfl ?_
          refine ihi h2' _ _ (fun z hz => ?_)
          rw [up z, h4', h3']
          by_cases q : z = 40 * (x / 40) + tg σ x
          · simp [upd, q, b2i]
          · have q2 : ¬ (40 * (x / 40) + tg σ x = z) := fun w => q w.symm
            simp only [upd, q, if_false]
            rw [hf z hz, show (40 * (x / 40) + tg σ x == z) = false by simpa using q2]
            simp
  · have h1 := li_nle (a := 160) (by omega) (by omega) h1
    refine X_run 1 (pc' := 10) (L' := [some (.inr (some (5, 0))), some (.inr (some (2, 0))), some (.inl (nI k)), none]) (st' := [.inr (some (5, 0))]) rfl ?_
    refine XC_get (a := 5) (i := 0) (v := .inr (some (7, 0))) rfl f_Pi_15 ⟨rfl, rfl⟩ (by assumption) rfl rfl ?_
    refine X_run 2 (pc' := 15) (L' := [some (.inr (some (5, 0))), some (.inr (some (2, 0))), some (.inl (nI k)), none]) (st' := [.inl (0), .inl (nI k), .inr (some (7, 0))]) rfl ?_
    refine XC_zst (a := 7) (i := 0) (j := k) rfl ⟨rfl, rfl⟩ (by assumption) (by simp only [rLn]; omega) (by decide) rfl ?_
    rw [uR_u3]
    refine X_run 2 (pc' := 2) (L' := [some (.inr (some (5, 0))), some (.inr (some (2, 0))), some (.inl (nI k + 1)), none]) (st' := []) rfl ?_
    refine X_eq (L' := [some (.inr (some (5, 0))), some (.inr (some (2, 0))), some (.inl (nI (k + 1))), none]) (congrArg (fun zz9 : Int32 => ([some (.inr (some (5, 0))), some (.inr (some (2, 0))), some (.inl zz9), none] : List (Option AV))) (by first | rfl | exact congrArg nI (by omega) | (simp only [il_0, il_1, il_2, il_3, il_4, il_5, il_6, il_7, il_16, il_20, il_40, il_160, pk_mul, nI_add]; done) | (simp only [il_0, il_1, il_2, il_3, il_4, il_5, il_6, il_7, il_16, il_20, il_40, il_160, pk_mul, nI_add]; exact congrArg nI (by omega)))) rfl rfl ?_
    refine ih h1 _ (fun j hj => ?_)
    by_cases q : j = k
    · simp [upd, q]
    · simp only [upd, q, if_false]
      exact hf j (by omega)
/-- the deeds that are looked at -/
def pkF (σ : Sg) (see : Nat → Nat) (u : Nat → Bool) (x : Nat) : Bool := so σ x != 7 && inV see x && !u x && !u (tg σ x)
theorem c_Pi_pickLooked {u : Nat → Bool} (hP : PE E) (hL : LG σ F B C E) (hs : ∀ e, e < 4 → B 6 0 e = nI (see e) ∧ see e < 1000) (hu : ∀ x, x < 160 → B 7 0 x = b2i (u x)) (hq : ∀ C' : CC, (∀ a, a ≠ 8 → C' a = C a) → (∀ k x, ((ln σ).filter (pkF σ see u))[k]? = some x → C' 8 k = some (18, x)) → Q none (cH (u3 F 5 0 4 (nI ((ln σ).filter (pkF σ see u)).length)) B C' Wr E r)) : X M_Pi_pickLooked (rmo M_Pi_pickLooked 0 0) (Zm Q 0 0) 0 (ini M_Pi_pickLooked [.inr (some (5, 0)), .inr (some (2, 0))]) [] (cH F B C Wr E r) 0 0 := by
  have h5 := hP.1
  have h7 := hP.2.2.1
  have h80 : E 8 0 = true := hP.at (by omega)
  obtain ⟨h2, h3, h4, hsz, hlen, hC4, hC3, hDE, -⟩ := hL
  have h40 : E 4 0 = true := (h4 0).mpr rfl
  show X M_Pi_pickLooked _ _ 0 [some (.inr (some (5, 0))), some (.inr (some (2, 0))), none, none] [] (cH F B C Wr E r) 0 0
  refine X_run 2 (pc' := 2) (L' := [some (.inr (some (5, 0))), some (.inr (some (2, 0))), none, none]) (st' := [.inl (0), .inr (some (5, 0))]) rfl ?_
  refine XC_put (k := 4) (a := 5) (i := 0) rfl f_Pi_25 rfl rfl rfl ⟨rfl, rfl⟩ ⟨rfl, rfl⟩ (by assumption) (fun _ => ⟨rfl, rfl⟩) rfl ?_
  refine X_run 2 (pc' := 7) (L' := [some (.inr (some (5, 0))), some (.inr (some (2, 0))), some (.inl (0)), none]) (st' := []) rfl ?_
  refine X_eq (L' := [some (.inr (some (5, 0))), some (.inr (some (2, 0))), some (.inl (nI (0))), none]) (congrArg (fun zz9 : Int32 => ([some (.inr (some (5, 0))), some (.inr (some (2, 0))), some (.inl zz9), none] : List (Option AV))) (by first | rfl | exact congrArg nI (by omega) | (simp only [il_0, il_1, il_2, il_3, il_4, il_5, il_6, il_7, il_16, il_20, il_40, il_160, pk_mul, nI_add]; done) | (simp only [il_0, il_1, il_2, il_3, il_4, il_5, il_6, il_7, il_16, il_20, il_40, il_160, pk_mul, nI_add]; exact congrArg nI (by omega)))) rfl rfl ?_
  have u3u3 : ∀ (G : CF) (x y : Int32), u3 (u3 G 5 0 4 x) 5 0 4 y = u3 G 5 0 4 y := fun G x y => by
    funext a i k
    by_cases q : a = 5 ∧ i = 0 ∧ k = 4
    · rw [q.1, q.2.1, q.2.2, u3_eq, u3_eq]
    · rw [u3_ne q, u3_ne q, u3_ne q]
  refine up_ind (ln σ).length (fun i => ∀ (C1 : CC) (o : Option AV), (∀ a, a ≠ 8 → C1 a = C a) → (∀ k x, (((ln σ).take i).filter (pkF σ see u))[k]? = some x → C1 8 k = some (18, x)) → X M_Pi_pickLooked (rmo M_Pi_pickLooked 0 0) (Zm Q 0 0) 7 [some (.inr (some (5, 0))), some (.inr (some (2, 0))), some (.inl (nI i)), o] [] (cH (u3 F 5 0 4 (nI (((ln σ).take i).filter (pkF σ see u)).length)) B C1 Wr E r) 0 0) ?_ 0 (by omega) C none (fun _ _ => rfl) (fun k x hk => by simp at hk)
  intro i hi ihi C1 o hC1 hC2
  obtain ⟨N, hN⟩ : ∃ N, N = (((ln σ).take i).filter (pkF σ see u)).length := ⟨_, rfl⟩
  have N160 : N ≤ i := by
    rw [hN]
    exact Nat.le_trans (List.length_filter_le _ _) (by rw [List.length_take]; omega)
  rw [← hN]
  refine X_run 2 (pc' := 9) (L' := [some (.inr (some (5, 0))), some (.inr (some (2, 0))), some (.inl (nI i)), o]) (st' := [.inr (some (2, 0)), .inl (nI i)]) rfl ?_
  refine XC_get (a := 2) (i := 0) (v := .inl ((u3 F 5 0 4 (nI N)) 2 0 2)) rfl f_Pi_95 ⟨rfl, rfl⟩ (by assumption) rfl rfl ?_
  refine X_eq (st' := [.inl (nI (ln σ).length), .inl (nI i)]) rfl (congrArg (fun zz9 => Sum.inl zz9 :: _) (hsz)) rfl ?_
  refine X_ic_ge (tgt := 96) (nx := 15) rfl rfl rfl (fun h2' => ?_) (fun h2' => ?_)
  · have h2' := li_le (by omega) (by omega) h2'
    have e : i = (ln σ).length := by omega
    refine X_vret rfl rfl (Nat.le_refl _) (Nat.le_refl _) ?_
    rw [hN, e, List.take_length]
    rw [e, List.take_length] at hC2
    exact hq C1 hC1 hC2
  · have h2' := li_nle (by omega) (by omega) h2'
    obtain ⟨x, hx⟩ : ∃ x, (ln σ)[i]? = some x := ⟨_, List.getElem?_eq_getElem h2'⟩
    have hxl := List.mem_of_getElem? hx
    have hD := hDE x hxl
    obtain ⟨x0, x18, x19, xd, xn, xso, xsp, xtg, -, -, -, xkw, xs7, -, xtl⟩ := hD
    have hD' : DE σ (u3 F 5 0 4 (nI N)) B E x := hDE x hxl
    have tk : (ln σ).take (i + 1) = (ln σ).take i ++ [x] := by rw [List.take_add_one, hx]; rfl
    have skip : pkF σ see u x = false → ∀ o : Option AV, X M_Pi_pickLooked (rmo M_Pi_pickLooked 0 0) (Zm Q 0 0) 90 [some (.inr (some (5, 0))), some (.inr (some (2, 0))), some (.inl (nI i)), o] [] (cH (u3 F 5 0 4 (nI N)) B C1 Wr E r) 0 0 := by
      intro hp o
      have ef : ((ln σ).take (i + 1)).filter (pkF σ see u) = ((ln σ).take i).filter (pkF σ see u) := by rw [tk, List.filter_append]; simp [hp]
      refine X_run 2 (pc' := 7) (L' := [some (.inr (some (5, 0))), some (.inr (some (2, 0))), some (.inl (nI i + 1)), o]) (st' := []) rfl ?_
      refine X_eq (L' := [some (.inr (some (5, 0))), some (.inr (some (2, 0))), some (.inl (nI (i + 1))), o]) (congrArg (fun zz9 : Int32 => ([some (.inr (some (5, 0))), some (.inr (some (2, 0))), some (.inl zz9), o] : List (Option AV))) (by first | rfl | exact congrArg nI (by omega) | (simp only [il_0, il_1, il_2, il_3, il_4, il_5, il_6, il_7, il_16, il_20, il_40, il_160, pk_mul, nI_add]; done) | (simp only [il_0, il_1, il_2, il_3, il_4, il_5, il_6, il_7, il_16, il_20, il_40, il_160, pk_mul, nI_add]; exact congrArg nI (by omega)))) rfl rfl ?_
      have := ihi h2' C1 o hC1 (by rw [ef]; exact hC2)
      rw [ef, ← hN] at this
      exact this
    refine X_run 1 (pc' := 16) (L' := [some (.inr (some (5, 0))), some (.inr (some (2, 0))), some (.inl (nI i)), o]) (st' := [.inr (some (2, 0))]) rfl ?_
    refine XC_get (a := 2) (i := 0) (v := .inr (some (4, 0))) rfl f_Pi_100 ⟨rfl, rfl⟩ (by assumption) rfl rfl ?_
    refine X_run 1 (pc' := 20) (L' := [some (.inr (some (5, 0))), some (.inr (some (2, 0))), some (.inl (nI i)), o]) (st' := [.inl (nI i), .inr (some (4, 0))]) rfl ?_
    refine XC_ald (a := 4) (i := 0) (j := i) (v := (C1 4 i)) rfl ⟨rfl, by decide, by decide⟩ (by assumption) (by simp only [rLn]; omega) rfl rfl ?_
    rw [hC1 4 (by omega), hC4 i x hx]
    refine X_run 2 (pc' := 23) (L' := [some (.inr (some (5, 0))), some (.inr (some (2, 0))), some (.inl (nI i)), some (.inr (some (18, x)))]) (st' := [.inr (some (18, x))]) rfl ?_
    refine XC_get (a := 18) (i := x) (v := .inl ((u3 F 5 0 4 (nI N)) 18 x 2)) rfl f_Pi_103 ⟨rfl, rfl⟩ (by assumption) rfl rfl ?_
    refine X_eq (st' := [.inl (nI (so σ x))]) rfl (congrArg (fun zz9 => Sum.inl zz9 :: _) (xso)) rfl ?_
    refine X_run 1 (pc' := 28) (L' := [some (.inr (some (5, 0))), some (.inr (some (2, 0))), some (.inl (nI i)), some (.inr (some (18, x)))]) (st' := [.inl (7), .inl (nI (so σ x))]) rfl ?_
    refine X_ic_eq (tgt := 90) (nx := 31) rfl rfl rfl (fun h3' => ?_) (fun h3' => ?_)
    · have h3' := li_eq (b := 7) (by omega) (by omega) h3'
      exact skip (by simp [pkF, h3']) _
    · have h3' := li_ne (b := 7) h3'
      refine X_run 2 (pc' := 33) (L' := [some (.inr (some (5, 0))), some (.inr (some (2, 0))), some (.inl (nI i)), some (.inr (some (18, x)))]) (st' := [.inr (some (18, x)), .inr (some (5, 0))]) rfl ?_
      refine X_callV (vs := [.inr (some (18, x))]) (st := []) (mc := 0) (ms := 0) rfl ok_Pi_holds v_Pi_106 (cH_obj rfl (by assumption)) rfl rfl (Nat.le_of_ble_eq_true rfl) (Nat.le_of_ble_eq_true rfl) (Nat.le_of_ble_eq_true rfl) (Nat.le_of_ble_eq_true rfl) (Nat.le_of_ble_eq_true rfl) (Nat.le_of_ble_eq_true rfl) rfl ?_
      refine c_Pi_holds hP hD' hs ?_
      show X M_Pi_pickLooked _ _ 36 [some (.inr (some (5, 0))), some (.inr (some (2, 0))), some (.inl (nI i)), some (.inr (some (18, x)))] [.inl (b2i (inV see x))] (cH (u3 F 5 0 4 (nI N)) B C1 Wr E r) 0 0
      refine X_if_eq (tgt := 90) (nx := 39) rfl rfl rfl (fun h4' => ?_) (fun h4' => ?_)
      · rw [b2i_0] at h4'
        exact skip (by simp [pkF, h4']) _
      · rw [b2i_n0] at h4'
        refine X_run 1 (pc' := 40) (L' := [some (.inr (some (5, 0))), some (.inr (some (2, 0))), some (.inl (nI i)), some (.inr (some (18, x)))]) (st' := [.inr (some (5, 0))]) rfl ?_
        refine XC_get (a := 5) (i := 0) (v := .inr (some (7, 0))) rfl f_Pi_15 ⟨rfl, rfl⟩ (by assumption) rfl rfl ?_
        refine X_run 1 (pc' := 44) (L' := [some (.inr (some (5, 0))), some (.inr (some (2, 0))), some (.inl (nI i)), some (.inr (some (18, x)))]) (st' := [.inr (some (18, x)), .inr (some (7, 0))]) rfl ?_
        refine XC_get (a := 18) (i := x) (v := .inl ((u3 F 5 0 4 (nI N)) 18 x 0)) rfl f_Pi_92 ⟨rfl, rfl⟩ (by assumption) rfl rfl ?_
        refine X_eq (st' := [.inl (nI (x / 40)), .inr (some (7, 0))]) rfl (congrArg (fun zz9 => Sum.inl zz9 :: _) (xd)) rfl ?_
        refine X_run 1 (pc' := 48) (L' := [some (.inr (some (5, 0))), some (.inr (some (2, 0))), some (.inl (nI i)), some (.inr (some (18, x)))]) (st' := [.inr (some (18, x)), .inl (nI (x / 40)), .inr (some (7, 0))]) rfl ?_
        refine XC_get (a := 18) (i := x) (v := .inl ((u3 F 5 0 4 (nI N)) 18 x 1)) rfl f_Pi_89 ⟨rfl, rfl⟩ (by assumption) rfl rfl ?_
        refine X_eq (st' := [.inl (nI (x % 40)), .inl (nI (x / 40)), .inr (some (7, 0))]) rfl (congrArg (fun zz9 => Sum.inl zz9 :: _) (xn)) rfl ?_
        refine X_callS (vs := [.inl (nI (x / 40)), .inl (nI (x % 40))]) (st := [.inr (some (7, 0))]) (mc := 0) (ms := 0) rfl ok_Pl_numberOf s_Pi_113 rfl rfl (Nat.le_of_ble_eq_true rfl) (Nat.le_of_ble_eq_true rfl) (Nat.le_of_ble_eq_true rfl) (Nat.le_of_ble_eq_true rfl) (Nat.le_of_ble_eq_true rfl) (Nat.le_of_ble_eq_true rfl) rfl ?_
        refine c_Pl_numberOf ?_
        show X M_Pi_pickLooked _ _ 54 [some (.inr (some (5, 0))), some (.inr (some (2, 0))), some (.inl (nI i)), some (.inr (some (18, x)))] [.inl (nI (40 * (x / 40) + x % 40)), .inr (some (7, 0))] (cH (u3 F 5 0 4 (nI N)) B C1 Wr E r) 0 0
        refine X_eq (st' := [.inl (nI (x)), .inr (some (7, 0))]) rfl (congrArg (fun zz9 => Sum.inl zz9 :: _) (by first | rfl | exact congrArg nI (by omega) | (simp only [il_0, il_1, il_2, il_3, il_4, il_5, il_6, il_7, il_16, il_20, il_40, il_160, pk_mul, nI_add]; done) | (simp only [il_0, il_1, il_2, il_3, il_4, il_5, il_6, il_7, il_16, il_20, il_40, il_160, pk_mul, nI_add]; exact congrArg nI (by omega)))) rfl ?_
        refine XC_zld (a := 7) (i := 0) (j := (x)) rfl ⟨rfl, rfl⟩ (by assumption) (by simp only [rLn]; omega) rfl ?_
        refine X_eq (st' := [.inl (b2i (u x))]) rfl (congrArg (fun zz9 => Sum.inl zz9 :: _) (hu x x0)) rfl ?_
        refine X_if_ne (tgt := 90) (nx := 58) rfl rfl rfl (fun h6 => ?_) (fun h6 => ?_)
        · rw [b2i_n0] at h6
          exact skip (by simp [pkF, h6]) _
        · rw [b2i_0] at h6
          refine X_run 1 (pc' := 59) (L' := [some (.inr (some (5, 0))), some (.inr (some (2, 0))), some (.inl (nI i)), some (.inr (some (18, x)))]) (st' := [.inr (some (5, 0))]) rfl ?_
          refine XC_get (a := 5) (i := 0) (v := .inr (some (7, 0))) rfl f_Pi_15 ⟨rfl, rfl⟩ (by assumption) rfl rfl ?_
          refine X_run 1 (pc' := 63) (L' := [some (.inr (some (5, 0))), some (.inr (some (2, 0))), some (.inl (nI i)), some (.inr (some (18, x)))]) (st' := [.inr (some (18, x)), .inr (some (7, 0))]) rfl ?_
          refine XC_get (a := 18) (i := x) (v := .inl ((u3 F 5 0 4 (nI N)) 18 x 4)) rfl f_Pi_110 ⟨rfl, rfl⟩ (by assumption) rfl rfl ?_
          refine X_eq (st' := [.inl (nI (tg σ x)), .inr (some (7, 0))]) rfl (congrArg (fun zz9 => Sum.inl zz9 :: _) (xtg)) rfl ?_
          refine XC_zld (a := 7) (i := 0) (j := (tg σ x)) rfl ⟨rfl, rfl⟩ (by assumption) (by simp only [rLn]; omega) rfl ?_
          refine X_eq (st' := [.inl (b2i (u (tg σ x)))]) rfl (congrArg (fun zz9 => Sum.inl zz9 :: _) (hu _ xtl)) rfl ?_
          refine X_if_ne (tgt := 90) (nx := 70) rfl rfl rfl (fun h8 => ?_) (fun h8 => ?_)
          · rw [b2i_n0] at h8
            exact skip (by simp [pkF, h8]) _
          · rw [b2i_0] at h8
            have hp : pkF σ see u x = true := by simp [pkF, h3', h4', h6, h8]
            have ef : ((ln σ).take (i + 1)).filter (pkF σ see u) = ((ln σ).take i).filter (pkF σ see u) ++ [x] := by rw [tk, List.filter_append]; simp [hp]
            refine X_run 1 (pc' := 71) (L' := [some (.inr (some (5, 0))), some (.inr (some (2, 0))), some (.inl (nI i)), some (.inr (some (18, x)))]) (st' := [.inr (some (5, 0))]) rfl ?_
            refine XC_get (a := 5) (i := 0) (v := .inr (some (8, 0))) rfl f_Pi_21 ⟨rfl, rfl⟩ (by assumption) rfl rfl ?_
            refine X_run 1 (pc' := 75) (L' := [some (.inr (some (5, 0))), some (.inr (some (2, 0))), some (.inl (nI i)), some (.inr (some (18, x)))]) (st' := [.inr (some (5, 0)), .inr (some (8, 0))]) rfl ?_
            refine XC_get (a := 5) (i := 0) (v := .inl ((u3 F 5 0 4 (nI N)) 5 0 4)) rfl f_Pi_25 ⟨rfl, rfl⟩ (by assumption) rfl rfl ?_
            refine X_eq (st' := [.inl (nI N), .inr (some (8, 0))]) rfl (congrArg (fun zz9 => Sum.inl zz9 :: _) (u3_eq _ _ _ _ _)) rfl ?_
            refine X_run 1 (pc' := 79) (L' := [some (.inr (some (5, 0))), some (.inr (some (2, 0))), some (.inl (nI i)), some (.inr (some (18, x)))]) (st' := [.inr (some (18, x)), .inl (nI N), .inr (some (8, 0))]) rfl ?_
            refine XC_ast (a := 8) (j := N) (a2 := 18) (i2 := x) rfl ⟨rfl, by decide⟩ (hP.2.2.2 8 (by omega)) (by simp only [rLn]; omega) rfl (by assumption) rfl rfl rfl ?_
            refine X_run 2 (pc' := 82) (L' := [some (.inr (some (5, 0))), some (.inr (some (2, 0))), some (.inl (nI i)), some (.inr (some (18, x)))]) (st' := [.inr (some (5, 0)), .inr (some (5, 0))]) rfl ?_
            refine XC_get (a := 5) (i := 0) (v := .inl ((u3 F 5 0 4 (nI N)) 5 0 4)) rfl f_Pi_25 ⟨rfl, rfl⟩ (by assumption) rfl rfl ?_
            refine X_eq (st' := [.inl (nI N), .inr (some (5, 0))]) rfl (congrArg (fun zz9 => Sum.inl zz9 :: _) (u3_eq _ _ _ _ _)) rfl ?_
            refine X_run 2 (pc' := 87) (L' := [some (.inr (some (5, 0))), some (.inr (some (2, 0))), some (.inl (nI i)), some (.inr (some (18, x)))]) (st' := [.inl ((nI N) + 1), .inr (some (5, 0))]) rfl ?_
            refine X_eq (st' := [.inl (nI (N + 1)), .inr (some (5, 0))]) rfl (congrArg (fun zz9 => Sum.inl zz9 :: _) (by first | rfl | exact congrArg nI (by omega) | (simp only [il_0, il_1, il_2, il_3, il_4, il_5, il_6, il_7, il_16, il_20, il_40, il_160, pk_mul, nI_add]; done) | (simp only [il_0, il_1, il_2, il_3, il_4, il_5, il_6, il_7, il_16, il_20, il_40, il_160, pk_mul, nI_add]; exact congrArg nI (by omega)))) rfl ?_
            refine XC_put (k := 4) (a := 5) (i := 0) rfl f_Pi_25 rfl rfl rfl ⟨rfl, rfl⟩ ⟨rfl, rfl⟩ (by assumption) (fun _ => ⟨rfl, rfl⟩) rfl ?_
            rw [u3u3]
            refine X_run 2 (pc' := 7) (L' := [some (.inr (some (5, 0))), some (.inr (some (2, 0))), some (.inl (nI i + 1)), some (.inr (some (18, x)))]) (st' := []) rfl ?_
            refine X_eq (L' := [some (.inr (some (5, 0))), some (.inr (some (2, 0))), some (.inl (nI (i + 1))), some (.inr (some (18, x)))]) (congrArg (fun zz9 : Int32 => ([some (.inr (some (5, 0))), some (.inr (some (2, 0))), some (.inl zz9), some (.inr (some (18, x)))] : List (Option AV))) (by first | rfl | exact congrArg nI (by omega) | (simp only [il_0, il_1, il_2, il_3, il_4, il_5, il_6, il_7, il_16, il_20, il_40, il_160, pk_mul, nI_add]; done) | (simp only [il_0, il_1, il_2, il_3, il_4, il_5, il_6, il_7, il_16, il_20, il_40, il_160, pk_mul, nI_add]; exact congrArg nI (by omega)))) rfl rfl ?_
            have := ihi h2' (u2 C1 8 N (some (18, x))) (some (.inr (some (18, x)))) (fun a ha => ?_) (fun k y hy => ?_)
            · rw [ef, List.length_append, ← hN] at this
              exact this
            · funext z
              rw [u2_ne (by omega), hC1 a ha]
            · rw [ef] at hy
              by_cases q : k < N
              · rw [List.getElem?_append_left (by omega)] at hy
                rw [u2_ne (by omega)]
                exact hC2 k y hy
              · rw [List.getElem?_append_right (by omega), ← hN] at hy
                by_cases q2 : k = N
                · rw [q2, Nat.sub_self] at hy
                  cases hy
                  rw [q2, u2_eq]
                · rw [List.getElem?_eq_none (by simp; omega)] at hy
                  cases hy
end

