/-! the model's questions about deeds in a view -/
theorem up_ind (N : Nat) (P : Nat → Prop) (h : ∀ i, i ≤ N → (i < N → P (i + 1)) → P i) : ∀ i, i ≤ N → P i := by
  have key : ∀ n i, i + n = N → P i := by
    intro n
    induction n with
    | zero => intro i hi; exact h i (by omega) (fun q => by omega)
    | succ n ih => intro i hi; exact h i (by omega) (fun _ => ih (i + 1) (by omega))
  intro i hi
  exact key (N - i) i (by omega)
theorem dn_ind (P : Nat → Prop) (h : ∀ i, (0 < i → P (i - 1)) → P i) : ∀ i, P i := by
  intro i
  induction i with
  | zero => exact h 0 (fun q => by omega)
  | succ n ih => exact h (n + 1) (fun _ => ih)
theorem li_le {a b : Nat} (ha : a < 2 ^ 31) (hb : b < 2 ^ 31) (h : nI a ≤ nI b) : a ≤ b := (nI_leI ha hb).mp h
theorem li_nle {a b : Nat} (ha : a < 2 ^ 31) (hb : b < 2 ^ 31) (h : ¬ nI a ≤ nI b) : b < a := Nat.not_le.mp (fun q => h ((nI_leI ha hb).mpr q))
theorem li_lt {a b : Nat} (ha : a < 2 ^ 31) (hb : b < 2 ^ 31) (h : nI a < nI b) : a < b := (nI_ltI ha hb).mp h
theorem li_nlt {a b : Nat} (ha : a < 2 ^ 31) (hb : b < 2 ^ 31) (h : ¬ nI a < nI b) : b ≤ a := Nat.not_lt.mp (fun q => h ((nI_ltI ha hb).mpr q))
theorem li_eq {a b : Nat} (ha : a < 2 ^ 31) (hb : b < 2 ^ 31) (h : nI a = nI b) : a = b := (nI_eq ha hb).mp h
theorem li_ne {a b : Nat} (h : ¬ nI a = nI b) : a ≠ b := fun q => h (by rw [q])
section
variable {g : AH} {I : Nat → Int32} {A : Nat → Nat → Int32} {Q : Option AV → AH → Prop} {σ : Sg} {see : Nat → Nat} {u t : Nat → Bool}
theorem c_Mo_greater {h : AH} {a b : Nat} (ha : a < 2 ^ 31) (hb : b < 2 ^ 31) (hq : Q (some (.inl (nI (max a b)))) h) : X M_Mo_greater (rmo M_Mo_greater 0 0) (Zm Q 0 0) 0 (ini M_Mo_greater [.inl (nI a), .inl (nI b)]) [] h 0 0 := by
  show X M_Mo_greater _ _ 0 [some (.inl (nI a)), some (.inl (nI b))] [] h 0 0
  refine X_run 2 (pc' := 2) (L' := [some (.inl (nI a)), some (.inl (nI b))]) (st' := [.inl (nI b), .inl (nI a)]) rfl ?_
  refine X_ic_le (tgt := 9) (nx := 5) rfl rfl rfl (fun h1 => ?_) (fun h1 => ?_)
  · refine X_run 1 (pc' := 10) (L' := [some (.inl (nI a)), some (.inl (nI b))]) (st' := [.inl (nI b)]) rfl ?_
    exact X_iret rfl rfl rfl (Nat.le_refl _) (Nat.le_refl _) (qi (congrArg nI (Nat.max_eq_right (li_le ha hb h1)).symm) hq)
  · refine X_run 2 (pc' := 10) (L' := [some (.inl (nI a)), some (.inl (nI b))]) (st' := [.inl (nI a)]) rfl ?_
    exact X_iret rfl rfl rfl (Nat.le_refl _) (Nat.le_refl _) (qi (congrArg nI (Nat.max_eq_left (Nat.le_of_lt (li_nle ha hb h1))).symm) hq)
theorem c_Mo_isIn {x : Nat} (hS : MS see A) (hx : x < 160) (hq : Q (some (.inl (b2i (inV see x)))) (mH g I A)) : X M_Mo_isIn (rmo M_Mo_isIn 0 0) (Zm Q 0 0) 0 (ini M_Mo_isIn [mo, .inl (nI x)]) [] (mH g I A) 0 0 := by
  have hs := hS (x / 40) (by omega)
  show X M_Mo_isIn _ _ 0 [some (.inr (some (10, 0))), some (.inl (nI x))] [] (mH g I A) 0 0
  refine X_run 2 (pc' := 3) (L' := [some (.inr (some (10, 0))), some (.inl (nI x))]) (st' := [.inl (40), .inl (nI x)]) rfl ?_
  refine X_rem rfl (by decide) rfl ?_
  refine X_eq (st' := [.inl (nI (x % 40))]) rfl (congrArg (fun z => Sum.inl z :: _) (pk_rem (d := 40) (by omega) (by decide) (by decide))) rfl ?_
  refine X_run 1 (pc' := 5) (L' := [some (.inr (some (10, 0))), some (.inl (nI x))]) (st' := [.inr (some (10, 0)), .inl (nI (x % 40))]) rfl ?_
  refine XM_get (v := .inr (some (11, 12))) rfl f_Mo_41 rfl rfl ?_
  refine X_run 2 (pc' := 11) (L' := [some (.inr (some (10, 0))), some (.inl (nI x))]) (st' := [.inl (40), .inl (nI x), .inr (some (11, 12)), .inl (nI (x % 40))]) rfl ?_
  refine X_div rfl (by decide) rfl ?_
  refine X_eq (st' := [.inl (nI (x / 40)), .inr (some (11, 12)), .inl (nI (x % 40))]) rfl (congrArg (fun z => Sum.inl z :: _) (pk_div (d := 40) (by omega) (by decide) (by decide))) rfl ?_
  refine XM_ald (k := 12) (i := (x / 40)) rfl (by decide) (by simp only [mln]; omega) rfl ?_
  refine X_eq (st' := [.inl (nI (see (x / 40))), .inl (nI (x % 40))]) rfl (congrArg (fun z => Sum.inl z :: _) hs.1) rfl ?_
  refine X_ic_ge (tgt := 20) (nx := 16) rfl rfl rfl (fun h1 => ?_) (fun h1 => ?_)
  · refine X_run 1 (pc' := 21) (L' := [some (.inr (some (10, 0))), some (.inl (nI x))]) (st' := [.inl (0)]) rfl ?_
    exact X_iret rfl rfl rfl (Nat.le_refl _) (Nat.le_refl _) (qf (decide_eq_false (Nat.not_lt.mpr (li_le (by omega) (by omega) h1))) hq)
  · refine X_run 2 (pc' := 21) (L' := [some (.inr (some (10, 0))), some (.inl (nI x))]) (st' := [.inl (1)]) rfl ?_
    exact X_iret rfl rfl rfl (Nat.le_refl _) (Nat.le_refl _) (qt (decide_eq_true (li_nle (by omega) (by omega) h1)) hq)
theorem c_Mo_isAhead {x y : Nat} (hD : MD σ A) (hx : x < 160) (hy : y < 160) (hq : Q (some (.inl (b2i (ahd σ x y)))) (mH g I A)) : X M_Mo_isAhead (rmo M_Mo_isAhead 0 0) (Zm Q 0 0) 0 (ini M_Mo_isAhead [mo, .inl (nI x), .inl (nI y)]) [] (mH g I A) 0 0 := by
  have ex := (hD.2 x hx).2.1
  have ey := (hD.2 y hy).2.1
  have bx := (hD.1.2.2 x).2.1
  have bY := (hD.1.2.2 y).2.1
  show X M_Mo_isAhead _ _ 0 [some (.inr (some (10, 0))), some (.inl (nI x)), some (.inl (nI y))] [] (mH g I A) 0 0
  refine X_run 1 (pc' := 1) (L' := [some (.inr (some (10, 0))), some (.inl (nI x)), some (.inl (nI y))]) (st' := [.inr (some (10, 0))]) rfl ?_
  refine XM_get (v := .inr (some (11, 4))) rfl f_Mo_16 rfl rfl ?_
  refine X_run 1 (pc' := 5) (L' := [some (.inr (some (10, 0))), some (.inl (nI x)), some (.inl (nI y))]) (st' := [.inl (nI x), .inr (some (11, 4))]) rfl ?_
  refine XM_ald (k := 4) (i := x) rfl (by decide) (by simp only [mln]; omega) rfl ?_
  refine X_eq (st' := [.inl (nI (sp σ x))]) rfl (congrArg (fun z => Sum.inl z :: _) ex) rfl ?_
  refine X_run 1 (pc' := 7) (L' := [some (.inr (some (10, 0))), some (.inl (nI x)), some (.inl (nI y))]) (st' := [.inr (some (10, 0)), .inl (nI (sp σ x))]) rfl ?_
  refine XM_get (v := .inr (some (11, 4))) rfl f_Mo_16 rfl rfl ?_
  refine X_run 1 (pc' := 11) (L' := [some (.inr (some (10, 0))), some (.inl (nI x)), some (.inl (nI y))]) (st' := [.inl (nI y), .inr (some (11, 4)), .inl (nI (sp σ x))]) rfl ?_
  refine XM_ald (k := 4) (i := y) rfl (by decide) (by simp only [mln]; omega) rfl ?_
  refine X_eq (st' := [.inl (nI (sp σ y)), .inl (nI (sp σ x))]) rfl (congrArg (fun z => Sum.inl z :: _) ey) rfl ?_
  refine X_ic_lt (tgt := 41) (nx := 15) rfl rfl rfl (fun h1 => ?_) (fun h1 => ?_)
  · have h1 := li_lt (by omega) (by omega) h1
    refine X_run 2 (pc' := 46) (L' := [some (.inr (some (10, 0))), some (.inl (nI x)), some (.inl (nI y))]) (st' := [.inl (1)]) rfl ?_
    exact X_iret rfl rfl rfl (Nat.le_refl _) (Nat.le_refl _) (qt (by simp [ahd, h1]) hq)
  · have h1 := li_nlt (by omega) (by omega) h1
    refine X_run 1 (pc' := 16) (L' := [some (.inr (some (10, 0))), some (.inl (nI x)), some (.inl (nI y))]) (st' := [.inr (some (10, 0))]) rfl ?_
    refine XM_get (v := .inr (some (11, 4))) rfl f_Mo_16 rfl rfl ?_
    refine X_run 1 (pc' := 20) (L' := [some (.inr (some (10, 0))), some (.inl (nI x)), some (.inl (nI y))]) (st' := [.inl (nI x), .inr (some (11, 4))]) rfl ?_
    refine XM_ald (k := 4) (i := x) rfl (by decide) (by simp only [mln]; omega) rfl ?_
    refine X_eq (st' := [.inl (nI (sp σ x))]) rfl (congrArg (fun z => Sum.inl z :: _) ex) rfl ?_
    refine X_run 1 (pc' := 22) (L' := [some (.inr (some (10, 0))), some (.inl (nI x)), some (.inl (nI y))]) (st' := [.inr (some (10, 0)), .inl (nI (sp σ x))]) rfl ?_
    refine XM_get (v := .inr (some (11, 4))) rfl f_Mo_16 rfl rfl ?_
    refine X_run 1 (pc' := 26) (L' := [some (.inr (some (10, 0))), some (.inl (nI x)), some (.inl (nI y))]) (st' := [.inl (nI y), .inr (some (11, 4)), .inl (nI (sp σ x))]) rfl ?_
    refine XM_ald (k := 4) (i := y) rfl (by decide) (by simp only [mln]; omega) rfl ?_
    refine X_eq (st' := [.inl (nI (sp σ y)), .inl (nI (sp σ x))]) rfl (congrArg (fun z => Sum.inl z :: _) ey) rfl ?_
    refine X_ic_ne (tgt := 45) (nx := 30) rfl rfl rfl (fun h2 => ?_) (fun h2 => ?_)
    · have h2 := li_ne h2
      refine X_run 1 (pc' := 46) (L' := [some (.inr (some (10, 0))), some (.inl (nI x)), some (.inl (nI y))]) (st' := [.inl (0)]) rfl ?_
      exact X_iret rfl rfl rfl (Nat.le_refl _) (Nat.le_refl _) (qf (by simp [ahd, h2]; omega) hq)
    · have h2 := li_eq (by omega) (by omega) h2
      refine X_run 2 (pc' := 33) (L' := [some (.inr (some (10, 0))), some (.inl (nI x)), some (.inl (nI y))]) (st' := [.inl (40), .inl (nI x)]) rfl ?_
      refine X_div rfl (by decide) rfl ?_
      refine X_eq (st' := [.inl (nI (x / 40))]) rfl (congrArg (fun z => Sum.inl z :: _) (pk_div (d := 40) (by omega) (by decide) (by decide))) rfl ?_
      refine X_run 2 (pc' := 37) (L' := [some (.inr (some (10, 0))), some (.inl (nI x)), some (.inl (nI y))]) (st' := [.inl (40), .inl (nI y), .inl (nI (x / 40))]) rfl ?_
      refine X_div rfl (by decide) rfl ?_
      refine X_eq (st' := [.inl (nI (y / 40)), .inl (nI (x / 40))]) rfl (congrArg (fun z => Sum.inl z :: _) (pk_div (d := 40) (by omega) (by decide) (by decide))) rfl ?_
      refine X_ic_ge (tgt := 45) (nx := 41) rfl rfl rfl (fun h3 => ?_) (fun h3 => ?_)
      · have h3 := li_le (by omega) (by omega) h3
        refine X_run 1 (pc' := 46) (L' := [some (.inr (some (10, 0))), some (.inl (nI x)), some (.inl (nI y))]) (st' := [.inl (0)]) rfl ?_
        exact X_iret rfl rfl rfl (Nat.le_refl _) (Nat.le_refl _) (qf (by simp [ahd, h2]; omega) hq)
      · have h3 := li_nle (by omega) (by omega) h3
        refine X_run 2 (pc' := 46) (L' := [some (.inr (some (10, 0))), some (.inl (nI x)), some (.inl (nI y))]) (st' := [.inl (1)]) rfl ?_
        exact X_iret rfl rfl rfl (Nat.le_refl _) (Nat.le_refl _) (qt (by simp [ahd, h2, h3]) hq)
theorem c_Mo_knows {x y : Nat} (hD : MD σ A) (hx : x < 160) (hy : y < 160) (hq : Q (some (.inl (b2i (knw σ x y)))) (mH g I A)) : X M_Mo_knows (rmo M_Mo_knows 0 0) (Zm Q 0 0) 0 (ini M_Mo_knows [mo, .inl (nI x), .inl (nI y)]) [] (mH g I A) 0 0 := by
  have ek := (hD.2 x hx).2.2.2.2.2 (y / 40) (by omega)
  have bk := (hD.1.2.2 x).2.2.2 (y / 40)
  show X M_Mo_knows _ _ 0 [some (.inr (some (10, 0))), some (.inl (nI x)), some (.inl (nI y))] [] (mH g I A) 0 0
  refine X_run 2 (pc' := 3) (L' := [some (.inr (some (10, 0))), some (.inl (nI x)), some (.inl (nI y))]) (st' := [.inl (40), .inl (nI y)]) rfl ?_
  refine X_rem rfl (by decide) rfl ?_
  refine X_eq (st' := [.inl (nI (y % 40))]) rfl (congrArg (fun z => Sum.inl z :: _) (pk_rem (d := 40) (by omega) (by decide) (by decide))) rfl ?_
  refine X_run 1 (pc' := 5) (L' := [some (.inr (some (10, 0))), some (.inl (nI x)), some (.inl (nI y))]) (st' := [.inr (some (10, 0)), .inl (nI (y % 40))]) rfl ?_
  refine XM_get (v := .inr (some (11, 8))) rfl f_Mo_28 rfl rfl ?_
  refine X_run 5 (pc' := 14) (L' := [some (.inr (some (10, 0))), some (.inl (nI x)), some (.inl (nI y))]) (st' := [.inl (40), .inl (nI y), .inl (4 * (nI x)), .inr (some (11, 8)), .inl (nI (y % 40))]) rfl ?_
  refine X_div rfl (by decide) rfl ?_
  refine X_eq (st' := [.inl (nI (y / 40)), .inl (4 * (nI x)), .inr (some (11, 8)), .inl (nI (y % 40))]) rfl (congrArg (fun z => Sum.inl z :: _) (pk_div (d := 40) (by omega) (by decide) (by decide))) rfl ?_
  refine X_run 1 (pc' := 16) (L' := [some (.inr (some (10, 0))), some (.inl (nI x)), some (.inl (nI y))]) (st' := [.inl ((4 * (nI x)) + (nI (y / 40))), .inr (some (11, 8)), .inl (nI (y % 40))]) rfl ?_
  refine X_eq (st' := [.inl (nI (4 * x + y / 40)), .inr (some (11, 8)), .inl (nI (y % 40))]) rfl (congrArg (fun z => Sum.inl z :: _) (by first | rfl | (simp only [il_0, il_1, il_2, il_3, il_4, il_5, il_6, il_7, il_16, il_20, il_40, il_160, pk_mul, nI_add]; done) | (simp only [il_0, il_1, il_2, il_3, il_4, il_5, il_6, il_7, il_16, il_20, il_40, il_160, pk_mul, nI_add]; exact congrArg nI (by omega)))) rfl ?_
  refine XM_ald (k := 8) (i := (4 * x + y / 40)) rfl (by decide) (by simp only [mln]; omega) rfl ?_
  refine X_eq (st' := [.inl (nI (kn σ x (y / 40))), .inl (nI (y % 40))]) rfl (congrArg (fun z => Sum.inl z :: _) ek) rfl ?_
  refine X_ic_ge (tgt := 24) (nx := 20) rfl rfl rfl (fun h1 => ?_) (fun h1 => ?_)
  · refine X_run 1 (pc' := 25) (L' := [some (.inr (some (10, 0))), some (.inl (nI x)), some (.inl (nI y))]) (st' := [.inl (0)]) rfl ?_
    exact X_iret rfl rfl rfl (Nat.le_refl _) (Nat.le_refl _) (qf (decide_eq_false (Nat.not_lt.mpr (li_le (by omega) (by omega) h1))) hq)
  · refine X_run 2 (pc' := 25) (L' := [some (.inr (some (10, 0))), some (.inl (nI x)), some (.inl (nI y))]) (st' := [.inl (1)]) rfl ?_
    exact X_iret rfl rfl rfl (Nat.le_refl _) (Nat.le_refl _) (qt (decide_eq_true (li_nle (by omega) (by omega) h1)) hq)
theorem c_Mo_counts {x : Nat} (hD : MD σ A) (hS : MS see A) (hU : MU u A) (hT : MT t A) (hx : x < 160) (hq : Q (some (.inl (b2i (cntF σ see u t x)))) (mH g I A)) : X M_Mo_counts (rmo M_Mo_counts 0 0) (Zm Q 0 0) 0 (ini M_Mo_counts [mo, .inl (nI x)]) [] (mH g I A) 0 0 := by
  have es := (hD.2 x hx).1
  have et := (hD.2 x hx).2.2.1
  have bs := (hD.1.2.2 x).1
  have bt := (hD.1.2.2 x).2.2.1
  show X M_Mo_counts _ _ 0 [some (.inr (some (10, 0))), some (.inl (nI x))] [] (mH g I A) 0 0
  refine X_run 2 (pc' := 2) (L' := [some (.inr (some (10, 0))), some (.inl (nI x))]) (st' := [.inl (nI x), .inr (some (10, 0))]) rfl ?_
  refine X_callV (vs := [.inl (nI x)]) (st := []) (mc := 0) (ms := 0) rfl ok_Mo_isIn v_Mo_97 rfl rfl rfl (Nat.le_of_ble_eq_true rfl) (Nat.le_of_ble_eq_true rfl) (Nat.le_of_ble_eq_true rfl) (Nat.le_of_ble_eq_true rfl) (Nat.le_of_ble_eq_true rfl) (Nat.le_of_ble_eq_true rfl) rfl ?_
  refine c_Mo_isIn hS hx ?_
  show X M_Mo_counts _ _ 5 [some (.inr (some (10, 0))), some (.inl (nI x))] [.inl (b2i (inV see x))] (mH g I A) 0 0
  refine X_if_eq (tgt := 55) (nx := 8) rfl rfl rfl (fun h1 => ?_) (fun h1 => ?_)
  · rw [b2i_0] at h1
    refine X_run 1 (pc' := 56) (L' := [some (.inr (some (10, 0))), some (.inl (nI x))]) (st' := [.inl (0)]) rfl ?_
    exact X_iret rfl rfl rfl (Nat.le_refl _) (Nat.le_refl _) (qf (by simp [cntF, h1]) hq)
  · rw [b2i_n0] at h1
    refine X_run 1 (pc' := 9) (L' := [some (.inr (some (10, 0))), some (.inl (nI x))]) (st' := [.inr (some (10, 0))]) rfl ?_
    refine XM_get (v := .inr (some (11, 15))) rfl f_Mo_47 rfl rfl ?_
    refine X_run 1 (pc' := 13) (L' := [some (.inr (some (10, 0))), some (.inl (nI x))]) (st' := [.inl (nI x), .inr (some (11, 15))]) rfl ?_
    refine XM_zld (k := 15) (i := x) rfl (by decide) (by simp only [mln]; omega) rfl ?_
    refine X_eq (st' := [.inl (b2i (u x))]) rfl (congrArg (fun z => Sum.inl z :: _) (hU x hx)) rfl ?_
    refine X_if_ne (tgt := 55) (nx := 17) rfl rfl rfl (fun h2 => ?_) (fun h2 => ?_)
    · rw [b2i_n0] at h2
      refine X_run 1 (pc' := 56) (L' := [some (.inr (some (10, 0))), some (.inl (nI x))]) (st' := [.inl (0)]) rfl ?_
      exact X_iret rfl rfl rfl (Nat.le_refl _) (Nat.le_refl _) (qf (by simp [cntF, h2]) hq)
    · rw [b2i_0] at h2
      refine X_run 1 (pc' := 18) (L' := [some (.inr (some (10, 0))), some (.inl (nI x))]) (st' := [.inr (some (10, 0))]) rfl ?_
      refine XM_get (v := .inr (some (11, 3))) rfl f_Mo_13 rfl rfl ?_
      refine X_run 1 (pc' := 22) (L' := [some (.inr (some (10, 0))), some (.inl (nI x))]) (st' := [.inl (nI x), .inr (some (11, 3))]) rfl ?_
      refine XM_ald (k := 3) (i := x) rfl (by decide) (by simp only [mln]; omega) rfl ?_
      refine X_eq (st' := [.inl (nI (so σ x))]) rfl (congrArg (fun z => Sum.inl z :: _) es) rfl ?_
      refine X_if_eq (tgt := 51) (nx := 26) rfl rfl rfl (fun h3 => ?_) (fun h3 => ?_)
      · have h3 := li_eq (b := 0) (by omega) (by decide) h3
        refine X_run 2 (pc' := 56) (L' := [some (.inr (some (10, 0))), some (.inl (nI x))]) (st' := [.inl (1)]) rfl ?_
        exact X_iret rfl rfl rfl (Nat.le_refl _) (Nat.le_refl _) (qt (by simp [cntF, h1, h2, h3]) hq)
      · have h3 := li_ne (b := 0) h3
        refine X_run 1 (pc' := 27) (L' := [some (.inr (some (10, 0))), some (.inl (nI x))]) (st' := [.inr (some (10, 0))]) rfl ?_
        refine XM_get (v := .inr (some (11, 3))) rfl f_Mo_13 rfl rfl ?_
        refine X_run 1 (pc' := 31) (L' := [some (.inr (some (10, 0))), some (.inl (nI x))]) (st' := [.inl (nI x), .inr (some (11, 3))]) rfl ?_
        refine XM_ald (k := 3) (i := x) rfl (by decide) (by simp only [mln]; omega) rfl ?_
        refine X_eq (st' := [.inl (nI (so σ x))]) rfl (congrArg (fun z => Sum.inl z :: _) es) rfl ?_
        refine X_run 1 (pc' := 34) (L' := [some (.inr (some (10, 0))), some (.inl (nI x))]) (st' := [.inl (7), .inl (nI (so σ x))]) rfl ?_
        refine X_ic_eq (tgt := 55) (nx := 37) rfl rfl rfl (fun h4 => ?_) (fun h4 => ?_)
        · have h4 := li_eq (b := 7) (by omega) (by decide) h4
          refine X_run 1 (pc' := 56) (L' := [some (.inr (some (10, 0))), some (.inl (nI x))]) (st' := [.inl (0)]) rfl ?_
          exact X_iret rfl rfl rfl (Nat.le_refl _) (Nat.le_refl _) (qf (by simp [cntF, h4]) hq)
        · have h4 := li_ne (b := 7) h4
          refine X_run 1 (pc' := 38) (L' := [some (.inr (some (10, 0))), some (.inl (nI x))]) (st' := [.inr (some (10, 0))]) rfl ?_
          refine XM_get (v := .inr (some (11, 16))) rfl f_Mo_51 rfl rfl ?_
          refine X_run 1 (pc' := 42) (L' := [some (.inr (some (10, 0))), some (.inl (nI x))]) (st' := [.inr (some (10, 0)), .inr (some (11, 16))]) rfl ?_
          refine XM_get (v := .inr (some (11, 5))) rfl f_Mo_19 rfl rfl ?_
          refine X_run 1 (pc' := 46) (L' := [some (.inr (some (10, 0))), some (.inl (nI x))]) (st' := [.inl (nI x), .inr (some (11, 5)), .inr (some (11, 16))]) rfl ?_
          refine XM_ald (k := 5) (i := x) rfl (by decide) (by simp only [mln]; omega) rfl ?_
          refine X_eq (st' := [.inl (nI (tg σ x)), .inr (some (11, 16))]) rfl (congrArg (fun z => Sum.inl z :: _) et) rfl ?_
          refine XM_zld (k := 16) (i := (tg σ x)) rfl (by decide) (by simp only [mln]; omega) rfl ?_
          refine X_eq (st' := [.inl (b2i (t (tg σ x)))]) rfl (congrArg (fun z => Sum.inl z :: _) (hT _ bt)) rfl ?_
          refine X_if_eq (tgt := 55) (nx := 51) rfl rfl rfl (fun h5 => ?_) (fun h5 => ?_)
          · rw [b2i_0] at h5
            refine X_run 1 (pc' := 56) (L' := [some (.inr (some (10, 0))), some (.inl (nI x))]) (st' := [.inl (0)]) rfl ?_
            exact X_iret rfl rfl rfl (Nat.le_refl _) (Nat.le_refl _) (qf (by simp [cntF, h3, h5]) hq)
          · rw [b2i_n0] at h5
            refine X_run 2 (pc' := 56) (L' := [some (.inr (some (10, 0))), some (.inl (nI x))]) (st' := [.inl (1)]) rfl ?_
            exact X_iret rfl rfl rfl (Nat.le_refl _) (Nat.le_refl _) (qt (by simp [cntF, h1, h2, h4, h5]) hq)
theorem c_Mo_isOf {x y : Nat} (hD : MD σ A) (hS : MS see A) (hU : MU u A) (hT : MT t A) (hx : x < 160) (hy : y < 160) (hq : Q (some (.inl (b2i (ofF σ see u t x y)))) (mH g I A)) : X M_Mo_isOf (rmo M_Mo_isOf 0 0) (Zm Q 0 0) 0 (ini M_Mo_isOf [mo, .inl (nI x), .inl (nI y)]) [] (mH g I A) 0 0 := by
  have es := (hD.2 x hx).1
  have et := (hD.2 x hx).2.2.1
  have bs := (hD.1.2.2 x).1
  have bt := (hD.1.2.2 x).2.2.1
  show X M_Mo_isOf _ _ 0 [some (.inr (some (10, 0))), some (.inl (nI x)), some (.inl (nI y))] [] (mH g I A) 0 0
  refine X_run 2 (pc' := 2) (L' := [some (.inr (some (10, 0))), some (.inl (nI x)), some (.inl (nI y))]) (st' := [.inl (nI x), .inr (some (10, 0))]) rfl ?_
  refine X_callV (vs := [.inl (nI x)]) (st := []) (mc := 0) (ms := 0) rfl ok_Mo_counts v_Mo_104 rfl rfl rfl (Nat.le_of_ble_eq_true rfl) (Nat.le_of_ble_eq_true rfl) (Nat.le_of_ble_eq_true rfl) (Nat.le_of_ble_eq_true rfl) (Nat.le_of_ble_eq_true rfl) (Nat.le_of_ble_eq_true rfl) rfl ?_
  refine c_Mo_counts hD hS hU hT hx ?_
  show X M_Mo_isOf _ _ 5 [some (.inr (some (10, 0))), some (.inl (nI x)), some (.inl (nI y))] [.inl (b2i (cntF σ see u t x))] (mH g I A) 0 0
  refine X_if_eq (tgt := 31) (nx := 8) rfl rfl rfl (fun h1 => ?_) (fun h1 => ?_)
  · rw [b2i_0] at h1
    refine X_run 1 (pc' := 32) (L' := [some (.inr (some (10, 0))), some (.inl (nI x)), some (.inl (nI y))]) (st' := [.inl (0)]) rfl ?_
    exact X_iret rfl rfl rfl (Nat.le_refl _) (Nat.le_refl _) (qf (by simp [ofF, h1]) hq)
  · rw [b2i_n0] at h1
    refine X_run 1 (pc' := 9) (L' := [some (.inr (some (10, 0))), some (.inl (nI x)), some (.inl (nI y))]) (st' := [.inr (some (10, 0))]) rfl ?_
    refine XM_get (v := .inr (some (11, 3))) rfl f_Mo_13 rfl rfl ?_
    refine X_run 1 (pc' := 13) (L' := [some (.inr (some (10, 0))), some (.inl (nI x)), some (.inl (nI y))]) (st' := [.inl (nI x), .inr (some (11, 3))]) rfl ?_
    refine XM_ald (k := 3) (i := x) rfl (by decide) (by simp only [mln]; omega) rfl ?_
    refine X_eq (st' := [.inl (nI (so σ x))]) rfl (congrArg (fun z => Sum.inl z :: _) es) rfl ?_
    refine X_if_eq (tgt := 31) (nx := 17) rfl rfl rfl (fun h2 => ?_) (fun h2 => ?_)
    · have h2 := li_eq (b := 0) (by omega) (by decide) h2
      refine X_run 1 (pc' := 32) (L' := [some (.inr (some (10, 0))), some (.inl (nI x)), some (.inl (nI y))]) (st' := [.inl (0)]) rfl ?_
      exact X_iret rfl rfl rfl (Nat.le_refl _) (Nat.le_refl _) (qf (by simp [ofF, h2]) hq)
    · have h2 := li_ne (b := 0) h2
      refine X_run 1 (pc' := 18) (L' := [some (.inr (some (10, 0))), some (.inl (nI x)), some (.inl (nI y))]) (st' := [.inr (some (10, 0))]) rfl ?_
      refine XM_get (v := .inr (some (11, 5))) rfl f_Mo_19 rfl rfl ?_
      refine X_run 1 (pc' := 22) (L' := [some (.inr (some (10, 0))), some (.inl (nI x)), some (.inl (nI y))]) (st' := [.inl (nI x), .inr (some (11, 5))]) rfl ?_
      refine XM_ald (k := 5) (i := x) rfl (by decide) (by simp only [mln]; omega) rfl ?_
      refine X_eq (st' := [.inl (nI (tg σ x))]) rfl (congrArg (fun z => Sum.inl z :: _) et) rfl ?_
      refine X_run 1 (pc' := 24) (L' := [some (.inr (some (10, 0))), some (.inl (nI x)), some (.inl (nI y))]) (st' := [.inl (nI y), .inl (nI (tg σ x))]) rfl ?_
      refine X_ic_ne (tgt := 31) (nx := 27) rfl rfl rfl (fun h3 => ?_) (fun h3 => ?_)
      · have h3 := li_ne h3
        refine X_run 1 (pc' := 32) (L' := [some (.inr (some (10, 0))), some (.inl (nI x)), some (.inl (nI y))]) (st' := [.inl (0)]) rfl ?_
        exact X_iret rfl rfl rfl (Nat.le_refl _) (Nat.le_refl _) (qf (by simp [ofF, h3]) hq)
      · have h3 := li_eq (by omega) (by omega) h3
        refine X_run 2 (pc' := 32) (L' := [some (.inr (some (10, 0))), some (.inl (nI x)), some (.inl (nI y))]) (st' := [.inl (1)]) rfl ?_
        exact X_iret rfl rfl rfl (Nat.le_refl _) (Nat.le_refl _) (qt (by simp [ofF, h1, h2, h3]) hq)
end

