/-! the component's log -/
section
variable {F : CF} {B : CB} {C : CC} {Wr : Nat → Option Nd} {E : Nat → Nat → Bool} {r : AH} {Q : Option AV → AH → Prop} {h : AH} {σ : Sg}
/-- the log's cells -/
def LG (σ : Sg) (F : CF) (B : CB) (C : CC) (E : Nat → Nat → Bool) : Prop := E 2 0 = true ∧ (∀ i, E 3 i = true ↔ i = 0) ∧ (∀ i, E 4 i = true ↔ i = 0) ∧ F 2 0 2 = nI (ln σ).length ∧ (ln σ).length ≤ 160 ∧ (∀ k x, (ln σ)[k]? = some x → C 4 k = some (18, x)) ∧
  (∀ x, x < 160 → C 3 x = if x ∈ ln σ then some (18, x) else none) ∧ (∀ x, x ∈ ln σ → DE σ F B E x) ∧ ∀ x, x < 160 → x ∉ ln σ → E 18 x = false ∧ E 19 x = false
theorem nI_lt0 {x : Int32} (h : ¬ x < 0) : ∃ k, k < 2 ^ 31 ∧ x = nI k := by
  obtain ⟨k, hk, e⟩ := nI_of h
  exact ⟨k, hk, e⟩
theorem nI_n0 {k : Nat} (hk : k < 2 ^ 31) : ¬ nI k < 0 := by
  rw [il_0, nI_ltI hk (by decide)]
  omega
theorem c_Lg_find {d n : Int32} (hL : LG σ F B C E) (hq : ∀ v : Option Nd, ((∃ k j, k < 4 ∧ j < 40 ∧ d = nI k ∧ n = nI j ∧ 40 * k + j ∈ ln σ ∧ v = some (18, 40 * k + j)) ∨ (v = none ∧ ∀ k j, k < 4 → j < 40 → d = nI k → n = nI j → 40 * k + j ∉ ln σ)) → Q (some (.inr v)) (cH F B C Wr E r)) : X M_Lg_find (rmo M_Lg_find 0 0) (Zm Q 0 0) 0 (ini M_Lg_find [.inr (some (2, 0)), .inl d, .inl n]) [] (cH F B C Wr E r) 0 0 := by
  obtain ⟨h2, h3, h4, -, -, -, hC, -⟩ := hL
  have h30 : E 3 0 = true := (h3 0).mpr rfl
  show X M_Lg_find _ _ 0 [some (.inr (some (2, 0))), some (.inl (d)), some (.inl (n))] [] (cH F B C Wr E r) 0 0
  refine X_run 1 (pc' := 1) (L' := [some (.inr (some (2, 0))), some (.inl (d)), some (.inl (n))]) (st' := [.inl (d)]) rfl ?_
  refine X_if_lt (tgt := 19) (nx := 4) rfl rfl rfl (fun a1 => ?_) (fun a1 => ?_)
  · refine X_run 1 (pc' := 20) (L' := [some (.inr (some (2, 0))), some (.inl (d)), some (.inl (n))]) (st' := [.inr none]) rfl ?_
    exact X_aret rfl rfl (Or.inl ⟨_, rfl⟩) (Nat.le_refl _) (Nat.le_refl _) (hq none (Or.inr ⟨rfl, fun k j hk hj e1 e2 _ => by rw [e1] at a1; exact nI_n0 (by omega) a1⟩))
  · obtain ⟨k, hk, ek⟩ := nI_lt0 a1
    refine X_run 2 (pc' := 6) (L' := [some (.inr (some (2, 0))), some (.inl (d)), some (.inl (n))]) (st' := [.inl (4), .inl (d)]) rfl ?_
    refine X_ic_ge (tgt := 19) (nx := 9) rfl rfl rfl (fun a2 => ?_) (fun a2 => ?_)
    · rw [ek] at a2
      have a2 := li_le (a := 4) (by omega) hk a2
      refine X_run 1 (pc' := 20) (L' := [some (.inr (some (2, 0))), some (.inl (d)), some (.inl (n))]) (st' := [.inr none]) rfl ?_
      exact X_aret rfl rfl (Or.inl ⟨_, rfl⟩) (Nat.le_refl _) (Nat.le_refl _) (hq none (Or.inr ⟨rfl, fun k' j hk' hj e1 e2 _ => by rw [ek] at e1; have := li_eq hk (by omega) e1; omega⟩))
    · rw [ek] at a2
      have a2 := li_nle (a := 4) (by omega) hk a2
      refine X_run 1 (pc' := 10) (L' := [some (.inr (some (2, 0))), some (.inl (d)), some (.inl (n))]) (st' := [.inl (n)]) rfl ?_
      refine X_if_lt (tgt := 19) (nx := 13) rfl rfl rfl (fun a3 => ?_) (fun a3 => ?_)
      · refine X_run 1 (pc' := 20) (L' := [some (.inr (some (2, 0))), some (.inl (d)), some (.inl (n))]) (st' := [.inr none]) rfl ?_
        exact X_aret rfl rfl (Or.inl ⟨_, rfl⟩) (Nat.le_refl _) (Nat.le_refl _) (hq none (Or.inr ⟨rfl, fun k j hk hj e1 e2 _ => by rw [e2] at a3; exact nI_n0 (by omega) a3⟩))
      · obtain ⟨j, hj, ej⟩ := nI_lt0 a3
        refine X_run 2 (pc' := 16) (L' := [some (.inr (some (2, 0))), some (.inl (d)), some (.inl (n))]) (st' := [.inl (40), .inl (n)]) rfl ?_
        refine X_ic_lt (tgt := 21) (nx := 19) rfl rfl rfl (fun a4 => ?_) (fun a4 => ?_)
        · rw [ej] at a4
          have a4 := li_lt (b := 40) hj (by omega) a4
          have hx := hC (40 * k + j) (by omega)
          refine X_eq (L' := [some (.inr (some (2, 0))), some (.inl (nI k)), some (.inl (n))]) (congrArg (fun zz9 : Int32 => ([some (.inr (some (2, 0))), some (.inl zz9), some (.inl (n))] : List (Option AV))) (ek)) rfl rfl ?_
          refine X_eq (L' := [some (.inr (some (2, 0))), some (.inl (nI k)), some (.inl (nI j))]) (congrArg (fun zz9 : Int32 => ([some (.inr (some (2, 0))), some (.inl (nI k)), some (.inl zz9)] : List (Option AV))) (ej)) rfl rfl ?_
          refine X_run 1 (pc' := 22) (L' := [some (.inr (some (2, 0))), some (.inl (nI k)), some (.inl (nI j))]) (st' := [.inr (some (2, 0))]) rfl ?_
          refine XC_get (a := 2) (i := 0) (v := .inr (some (3, 0))) rfl f_Lg_11 ⟨rfl, rfl⟩ (by assumption) rfl rfl ?_
          refine X_run 2 (pc' := 27) (L' := [some (.inr (some (2, 0))), some (.inl (nI k)), some (.inl (nI j))]) (st' := [.inl (nI j), .inl (nI k), .inr (some (3, 0))]) rfl ?_
          refine X_callS (vs := [.inl (nI k), .inl (nI j)]) (st := [.inr (some (3, 0))]) (mc := 0) (ms := 0) rfl ok_Pl_numberOf s_Lg_24 rfl rfl (Nat.le_of_ble_eq_true rfl) (Nat.le_of_ble_eq_true rfl) (Nat.le_of_ble_eq_true rfl) (Nat.le_of_ble_eq_true rfl) (Nat.le_of_ble_eq_true rfl) (Nat.le_of_ble_eq_true rfl) rfl ?_
          refine c_Pl_numberOf ?_
          show X M_Lg_find _ _ 30 [some (.inr (some (2, 0))), some (.inl (nI k)), some (.inl (nI j))] [.inl (nI (40 * k + j)), .inr (some (3, 0))] (cH F B C Wr E r) 0 0
          refine XC_ald (a := 3) (i := 0) (j := (40 * k + j)) (v := (C 3 (40 * k + j))) rfl ⟨rfl, by decide, by decide⟩ (by assumption) (by simp only [rLn]; omega) rfl rfl ?_
          refine X_aret rfl rfl (Or.inl ⟨_, rfl⟩) (Nat.le_refl _) (Nat.le_refl _) ?_
          rw [hx]
          by_cases q : 40 * k + j ∈ ln σ
          · rw [if_pos q]
            exact hq _ (Or.inl ⟨k, j, a2, a4, ek, ej, q, rfl⟩)
          · rw [if_neg q]
            refine hq _ (Or.inr ⟨rfl, fun k' j' hk' hj' e1 e2 => ?_⟩)
            have z1 := li_eq hk (by omega) (ek.symm.trans e1)
            have z2 := li_eq hj (by omega) (ej.symm.trans e2)
            rw [← z1, ← z2]
            exact q
        · rw [ej] at a4
          have a4 := li_nlt (b := 40) hj (by omega) a4
          refine X_run 1 (pc' := 20) (L' := [some (.inr (some (2, 0))), some (.inl (d)), some (.inl (n))]) (st' := [.inr none]) rfl ?_
          exact X_aret rfl rfl (Or.inl ⟨_, rfl⟩) (Nat.le_refl _) (Nat.le_refl _) (hq none (Or.inr ⟨rfl, fun k' j' hk' hj' e1 e2 _ => by rw [ej] at e2; have := li_eq hj (by omega) e2; omega⟩))
/-- a device's deed in the log -/
theorem c_Lg_find1 {k j : Nat} (hL : LG σ F B C E) (hk : k < 4) (hj : j < 40) (hx : 40 * k + j ∈ ln σ) (hq : Q (some (.inr (some (18, 40 * k + j)))) (cH F B C Wr E r)) : X M_Lg_find (rmo M_Lg_find 0 0) (Zm Q 0 0) 0 (ini M_Lg_find [.inr (some (2, 0)), .inl (nI k), .inl (nI j)]) [] (cH F B C Wr E r) 0 0 := by
  refine c_Lg_find hL (fun v hv => ?_)
  rcases hv with ⟨k', j', hk', hj', e1, e2, -, e4⟩ | ⟨-, hn⟩
  · have z1 := li_eq (by omega) (by omega) e1
    have z2 := li_eq (by omega) (by omega) e2
    rw [e4, ← z1, ← z2]
    exact hq
  · exact absurd hx (hn k j hk hj rfl rfl)
def saF (σ : Sg) (m : Nat → Nat) (k : Nat) : Nat := (List.range k).foldl (fun s e => if m e = 0 then s else max s (sp σ (40 * e + (m e - 1)))) 0
theorem saF_succ (σ : Sg) (m : Nat → Nat) (k : Nat) : saF σ m (k + 1) = if m k = 0 then saF σ m k else max (saF σ m k) (sp σ (40 * k + (m k - 1))) := by
  unfold saF
  rw [List.range_succ, List.foldl_append]
  rfl
theorem m1_neg : (nI 0 - nI 1).toInt = -1 := by decide
theorem c_Lg_stampAfter {m : Nat → Nat} {i : Nat} (hL : LG σ F B C E) (hE : E 17 i = true) (hm : ∀ e, e < 4 → B 17 i e = nI (m e) ∧ m e ≤ 40 ∧ (m e ≠ 0 → 40 * e + (m e - 1) ∈ ln σ)) (hq : Q (some (.inl (nI (saF σ m 4 + 1)))) (cH F B C Wr E r)) : X M_Lg_stampAfter (rmo M_Lg_stampAfter 0 0) (Zm Q 0 0) 0 (ini M_Lg_stampAfter [.inr (some (2, 0)), .inr (some (17, i))]) [] (cH F B C Wr E r) 0 0 := by
  have h2 := hL.1
  show X M_Lg_stampAfter _ _ 0 [some (.inr (some (2, 0))), some (.inr (some (17, i))), none, none, none] [] (cH F B C Wr E r) 0 0
  refine X_run 4 (pc' := 4) (L' := [some (.inr (some (2, 0))), some (.inr (some (17, i))), some (.inl (0)), some (.inl (0)), none]) (st' := []) rfl ?_
  refine X_eq (L' := [some (.inr (some (2, 0))), some (.inr (some (17, i))), some (.inl (0)), some (.inl (nI (0))), none]) (congrArg (fun zz9 : Int32 => ([some (.inr (some (2, 0))), some (.inr (some (17, i))), some (.inl (0)), some (.inl zz9), none] : List (Option AV))) (by first | rfl | exact congrArg nI (by omega) | (simp only [il_0, il_1, il_2, il_3, il_4, il_5, il_6, il_7, il_16, il_20, il_40, il_160, pk_mul, nI_add]; done) | (simp only [il_0, il_1, il_2, il_3, il_4, il_5, il_6, il_7, il_16, il_20, il_40, il_160, pk_mul, nI_add]; exact congrArg nI (by omega)))) rfl rfl ?_
  refine X_eq (L' := [some (.inr (some (2, 0))), some (.inr (some (17, i))), some (.inl (nI (saF σ m 0))), some (.inl (nI (0))), none]) (congrArg (fun zz9 : Int32 => ([some (.inr (some (2, 0))), some (.inr (some (17, i))), some (.inl zz9), some (.inl (nI (0))), none] : List (Option AV))) (by first | rfl | exact congrArg nI (by omega) | (simp only [il_0, il_1, il_2, il_3, il_4, il_5, il_6, il_7, il_16, il_20, il_40, il_160, pk_mul, nI_add]; done) | (simp only [il_0, il_1, il_2, il_3, il_4, il_5, il_6, il_7, il_16, il_20, il_40, il_160, pk_mul, nI_add]; exact congrArg nI (by omega)))) rfl rfl ?_
  refine up_ind 4 (fun k => saF σ m k < 1000 → ∀ o : Option AV, X M_Lg_stampAfter (rmo M_Lg_stampAfter 0 0) (Zm Q 0 0) 4 [some (.inr (some (2, 0))), some (.inr (some (17, i))), some (.inl (nI (saF σ m k))), some (.inl (nI k)), o] [] (cH F B C Wr E r) 0 0) ?_ 0 (by omega) (by show 0 < 1000; omega) none
  intro k hk4 ih hb o
  refine X_run 2 (pc' := 6) (L' := [some (.inr (some (2, 0))), some (.inr (some (17, i))), some (.inl (nI (saF σ m k))), some (.inl (nI k)), o]) (st' := [.inl (4), .inl (nI k)]) rfl ?_
  refine X_ic_ge (tgt := 42) (nx := 9) rfl rfl rfl (fun h1 => ?_) (fun h1 => ?_)
  · have h1 := li_le (a := 4) (by omega) (by omega) h1
    have e4 : k = 4 := by omega
    refine X_run 3 (pc' := 45) (L' := [some (.inr (some (2, 0))), some (.inr (some (17, i))), some (.inl (nI (saF σ m k))), some (.inl (nI k)), o]) (st' := [.inl ((nI (saF σ m k)) + 1)]) rfl ?_
    refine X_eq (st' := [.inl (nI (saF σ m k + 1))]) rfl (congrArg (fun zz9 => Sum.inl zz9 :: _) (by first | rfl | exact congrArg nI (by omega) | (simp only [il_0, il_1, il_2, il_3, il_4, il_5, il_6, il_7, il_16, il_20, il_40, il_160, pk_mul, nI_add]; done) | (simp only [il_0, il_1, il_2, il_3, il_4, il_5, il_6, il_7, il_16, il_20, il_40, il_160, pk_mul, nI_add]; exact congrArg nI (by omega)))) rfl ?_
    exact X_iret rfl rfl rfl (Nat.le_refl _) (Nat.le_refl _) (by rw [e4]; exact hq)
  · have h1 := li_nle (a := 4) (by omega) (by omega) h1
    obtain ⟨m1, m2, m3⟩ := hm k h1
    refine X_run 4 (pc' := 13) (L' := [some (.inr (some (2, 0))), some (.inr (some (17, i))), some (.inl (nI (saF σ m k))), some (.inl (nI k)), o]) (st' := [.inl (nI k), .inr (some (17, i)), .inl (nI k), .inr (some (2, 0))]) rfl ?_
    refine XC_ild (a := 17) (i := i) (j := k) rfl ⟨rfl, rfl⟩ (by assumption) (by simp only [rLn]; omega) rfl ?_
    refine X_eq (st' := [.inl (nI (m k)), .inl (nI k), .inr (some (2, 0))]) rfl (congrArg (fun zz9 => Sum.inl zz9 :: _) (m1)) rfl ?_
    refine X_run 2 (pc' := 16) (L' := [some (.inr (some (2, 0))), some (.inr (some (17, i))), some (.inl (nI (saF σ m k))), some (.inl (nI k)), o]) (st' := [.inl ((nI (m k)) - 1), .inl (nI k), .inr (some (2, 0))]) rfl ?_
    refine X_callV (vs := [.inl (nI k), .inl ((nI (m k)) - 1)]) (st := []) (mc := 0) (ms := 0) rfl ok_Lg_find v_Lg_38 (cH_obj rfl (by assumption)) rfl rfl (Nat.le_of_ble_eq_true rfl) (Nat.le_of_ble_eq_true rfl) (Nat.le_of_ble_eq_true rfl) (Nat.le_of_ble_eq_true rfl) (Nat.le_of_ble_eq_true rfl) (Nat.le_of_ble_eq_true rfl) rfl ?_
    refine c_Lg_find hL (fun v hv => ?_)
    show X M_Lg_stampAfter _ _ 19 [some (.inr (some (2, 0))), some (.inr (some (17, i))), some (.inl (nI (saF σ m k))), some (.inl (nI k)), o] [.inr v] (cH F B C Wr E r) 0 0
    have key : (v = none ∧ m k = 0) ∨ (v = some (18, 40 * k + (m k - 1)) ∧ m k ≠ 0 ∧ 40 * k + (m k - 1) ∈ ln σ) := by
      by_cases q : m k = 0
      · rcases hv with ⟨k', j', hk', hj', e1, e2, -, e4⟩ | ⟨e, -⟩
        · rw [q] at e2
          have := congrArg Int32.toInt e2
          rw [show nI 0 - 1 = nI 0 - nI 1 from rfl, m1_neg, nI_toInt (by omega)] at this
          omega
        · exact Or.inl ⟨e, q⟩
      · right
        have e2' : nI (m k) - 1 = nI (m k - 1) := pk_sub (b := 1) (by omega)
        rw [e2'] at hv
        rcases hv with ⟨k', j', hk', hj', e1, e2, -, e4⟩ | ⟨-, hn⟩
        · have z1 := li_eq (by omega) (by omega) e1
          have z2 := li_eq (by omega) (by omega) e2
          refine ⟨?_, q, m3 q⟩
          rw [e4, ← z1, ← z2]
        · exact absurd (m3 q) (hn k (m k - 1) h1 (by omega) rfl rfl)
    rcases key with ⟨e1, e2⟩ | ⟨e1, e2, e3⟩
    · subst e1
      refine X_run 2 (pc' := 23) (L' := [some (.inr (some (2, 0))), some (.inr (some (17, i))), some (.inl (nI (saF σ m k))), some (.inl (nI k)), some (.inr none)]) (st' := [.inr none]) rfl ?_
      refine X_ifnull (tgt := 36) (nx := 26) rfl rfl rfl (fun h2' => ?_) (fun nn h2' => ?_)
      · refine X_run 2 (pc' := 4) (L' := [some (.inr (some (2, 0))), some (.inr (some (17, i))), some (.inl (nI (saF σ m k))), some (.inl (nI k + 1)), some (.inr none)]) (st' := []) rfl ?_
        refine X_eq (L' := [some (.inr (some (2, 0))), some (.inr (some (17, i))), some (.inl (nI (saF σ m k))), some (.inl (nI (k + 1))), some (.inr none)]) (congrArg (fun zz9 : Int32 => ([some (.inr (some (2, 0))), some (.inr (some (17, i))), some (.inl (nI (saF σ m k))), some (.inl zz9), some (.inr none)] : List (Option AV))) (by first | rfl | exact congrArg nI (by omega) | (simp only [il_0, il_1, il_2, il_3, il_4, il_5, il_6, il_7, il_16, il_20, il_40, il_160, pk_mul, nI_add]; done) | (simp only [il_0, il_1, il_2, il_3, il_4, il_5, il_6, il_7, il_16, il_20, il_40, il_160, pk_mul, nI_add]; exact congrArg nI (by omega)))) rfl rfl ?_
        refine X_eq (L' := [some (.inr (some (2, 0))), some (.inr (some (17, i))), some (.inl (nI (saF σ m (k + 1)))), some (.inl (nI (k + 1))), some (.inr none)]) (congrArg (fun zz9 : Int32 => ([some (.inr (some (2, 0))), some (.inr (some (17, i))), some (.inl zz9), some (.inl (nI (k + 1))), some (.inr none)] : List (Option AV))) ((by rw [saF_succ, if_pos e2]))) rfl rfl ?_
        exact ih h1 (by rw [saF_succ, if_pos e2]; exact hb) _
      · cases h2'
    · subst e1
      have hDE := hL.2.2.2.2.2.2.2.1 _ e3
      have hds := hDE.2.2.2.2.2.2.1
      have hE18 := hDE.2.1
      have hsb := hDE.2.2.2.2.2.2.2.2.2.2.2.2.2.1
      refine X_run 2 (pc' := 23) (L' := [some (.inr (some (2, 0))), some (.inr (some (17, i))), some (.inl (nI (saF σ m k))), some (.inl (nI k)), some (.inr (some (18, 40 * k + (m k - 1))))]) (st' := [.inr (some (18, 40 * k + (m k - 1)))]) rfl ?_
      refine X_ifnull (tgt := 36) (nx := 26) rfl rfl rfl (fun h2' => ?_) (fun nn h2' => ?_)
      · cases h2'
      · refine X_run 2 (pc' := 29) (L' := [some (.inr (some (2, 0))), some (.inr (some (17, i))), some (.inl (nI (saF σ m k))), some (.inl (nI k)), some (.inr (some (18, 40 * k + (m k - 1))))]) (st' := [.inr (some (18, 40 * k + (m k - 1))), .inl (nI (saF σ m k))]) rfl ?_
        refine XC_get (a := 18) (i := 40 * k + (m k - 1)) (v := .inl (F 18 (40 * k + (m k - 1)) 3)) rfl f_Lg_42 ⟨rfl, rfl⟩ (by assumption) rfl rfl ?_
        refine X_eq (st' := [.inl (nI (sp σ (40 * k + (m k - 1)))), .inl (nI (saF σ m k))]) rfl (congrArg (fun zz9 => Sum.inl zz9 :: _) (hds)) rfl ?_
        refine X_max rfl x_Lg_45 (Nat.le_of_ble_eq_true rfl) (Nat.le_of_ble_eq_true rfl) (Nat.le_of_ble_eq_true rfl) (Nat.le_of_ble_eq_true rfl) (Nat.le_of_ble_eq_true rfl) rfl ?_
        refine X_eq (st' := [.inl (nI (saF σ m (k + 1)))]) rfl (congrArg (fun zz9 => Sum.inl zz9 :: _) ((by rw [mx_nat (by omega) (by omega), saF_succ, if_neg e2]))) rfl ?_
        refine X_run 1 (pc' := 36) (L' := [some (.inr (some (2, 0))), some (.inr (some (17, i))), some (.inl (nI (saF σ m (k + 1)))), some (.inl (nI k)), some (.inr (some (18, 40 * k + (m k - 1))))]) (st' := []) rfl ?_
        refine X_run 2 (pc' := 4) (L' := [some (.inr (some (2, 0))), some (.inr (some (17, i))), some (.inl (nI (saF σ m (k + 1)))), some (.inl (nI k + 1)), some (.inr (some (18, 40 * k + (m k - 1))))]) (st' := []) rfl ?_
        refine X_eq (L' := [some (.inr (some (2, 0))), some (.inr (some (17, i))), some (.inl (nI (saF σ m (k + 1)))), some (.inl (nI (k + 1))), some (.inr (some (18, 40 * k + (m k - 1))))]) (congrArg (fun zz9 : Int32 => ([some (.inr (some (2, 0))), some (.inr (some (17, i))), some (.inl (nI (saF σ m (k + 1)))), some (.inl zz9), some (.inr (some (18, 40 * k + (m k - 1))))] : List (Option AV))) (by first | rfl | exact congrArg nI (by omega) | (simp only [il_0, il_1, il_2, il_3, il_4, il_5, il_6, il_7, il_16, il_20, il_40, il_160, pk_mul, nI_add]; done) | (simp only [il_0, il_1, il_2, il_3, il_4, il_5, il_6, il_7, il_16, il_20, il_40, il_160, pk_mul, nI_add]; exact congrArg nI (by omega)))) rfl rfl ?_
        exact ih h1 (by rw [saF_succ, if_neg e2]; omega) _
/-- what an undo takes, by brackets: u undos are still open -/
def bkF (σ : Sg) (d : Nat) : Nat → Nat → Option Nat
  | _, 0 => none
  | u, k + 1 => if so σ (40 * d + k) = 7 then bkF σ d (u + 1) k else if u = 0 then some k else bkF σ d (u - 1) k
theorem bkF_succ (σ : Sg) (d u k : Nat) : bkF σ d u (k + 1) = if so σ (40 * d + k) = 7 then bkF σ d (u + 1) k else if u = 0 then some k else bkF σ d (u - 1) k := rfl
theorem c_Lg_latestToUndo {d n : Nat} (hL : LG σ F B C E) (hd : d < 4) (hn : n ≤ 40) (hx : ∀ j, j < n → 40 * d + j ∈ ln σ) (hq : Q (some (.inl (match bkF σ d 0 n with | none => -1 | some k => nI k))) (cH F B C Wr E r)) : X M_Lg_latestToUndo (rmo M_Lg_latestToUndo 0 0) (Zm Q 0 0) 0 (ini M_Lg_latestToUndo [.inr (some (2, 0)), .inl (nI d), .inl (nI n)]) [] (cH F B C Wr E r) 0 0 := by
  have h2 := hL.1
  show X M_Lg_latestToUndo _ _ 0 [some (.inr (some (2, 0))), some (.inl (nI d)), some (.inl (nI n)), none, none, none] [] (cH F B C Wr E r) 0 0
  refine X_run 6 (pc' := 7) (L' := [some (.inr (some (2, 0))), some (.inl (nI d)), some (.inl (nI n)), some (.inl (0)), some (.inl ((nI n) - 1)), none]) (st' := []) rfl ?_
  refine X_eq (L' := [some (.inr (some (2, 0))), some (.inl (nI d)), some (.inl (nI n)), some (.inl (nI (0))), some (.inl ((nI n) - 1)), none]) (congrArg (fun zz9 : Int32 => ([some (.inr (some (2, 0))), some (.inl (nI d)), some (.inl (nI n)), some (.inl zz9), some (.inl ((nI n) - 1)), none] : List (Option AV))) (by first | rfl | exact congrArg nI (by omega) | (simp only [il_0, il_1, il_2, il_3, il_4, il_5, il_6, il_7, il_16, il_20, il_40, il_160, pk_mul, nI_add]; done) | (simp only [il_0, il_1, il_2, il_3, il_4, il_5, il_6, il_7, il_16, il_20, il_40, il_160, pk_mul, nI_add]; exact congrArg nI (by omega)))) rfl rfl ?_
  refine X_eq (L' := [some (.inr (some (2, 0))), some (.inl (nI d)), some (.inl (nI n)), some (.inl (nI (0))), some (.inl (nI n + -1)), none]) (congrArg (fun zz9 : Int32 => ([some (.inr (some (2, 0))), some (.inl (nI d)), some (.inl (nI n)), some (.inl (nI (0))), some (.inl zz9), none] : List (Option AV))) ((Int32.sub_eq_add_neg (nI n) 1))) rfl rfl ?_
  refine dn_ind (fun k => k ≤ n → ∀ u, u + k ≤ 40 → bkF σ d u k = bkF σ d 0 n → ∀ o : Option AV, X M_Lg_latestToUndo (rmo M_Lg_latestToUndo 0 0) (Zm Q 0 0) 7 [some (.inr (some (2, 0))), some (.inl (nI d)), some (.inl (nI n)), some (.inl (nI u)), some (.inl (nI k + -1)), o] [] (cH F B C Wr E r) 0 0) ?_ n (Nat.le_refl _) 0 (by omega) rfl none
  intro k ih hk u hu hbk o
  by_cases k0 : k = 0
  · refine X_run 1 (pc' := 9) (L' := [some (.inr (some (2, 0))), some (.inl (nI d)), some (.inl (nI n)), some (.inl (nI u)), some (.inl (nI k + -1)), o]) (st' := [.inl (nI k + -1)]) rfl ?_
    refine X_if_lt (tgt := 61) (nx := 12) rfl rfl rfl (fun h1 => ?_) (fun h1 => ?_)
    · refine X_run 1 (pc' := 62) (L' := [some (.inr (some (2, 0))), some (.inl (nI d)), some (.inl (nI n)), some (.inl (nI u)), some (.inl (nI k + -1)), o]) (st' := [.inl (-1)]) rfl ?_
      refine X_iret rfl rfl rfl (Nat.le_refl _) (Nat.le_refl _) (qi ?_ hq)
      rw [← hbk, k0]
      rfl
    · rw [k0] at h1
      exact absurd (by decide) h1
  · have ek : nI k + -1 = nI (k - 1) := by
      rw [← Int32.sub_eq_add_neg]
      exact pk_sub (b := 1) (by omega)
    obtain ⟨j, ej⟩ : ∃ j, k = j + 1 := ⟨k - 1, by omega⟩
    rw [show k - 1 = j by omega] at ek ih
    have hxj := hx j (by omega)
    have hDE := hL.2.2.2.2.2.2.2.1 _ hxj
    have hE18 := hDE.2.1
    have hso := hDE.2.2.2.2.2.1
    have hs7 := hDE.2.2.2.2.2.2.2.2.2.2.2.2.1
    rw [ej] at hbk
    rw [bkF_succ] at hbk
    refine X_eq (L' := [some (.inr (some (2, 0))), some (.inl (nI d)), some (.inl (nI n)), some (.inl (nI u)), some (.inl (nI j)), o]) (congrArg (fun zz9 : Int32 => ([some (.inr (some (2, 0))), some (.inl (nI d)), some (.inl (nI n)), some (.inl (nI u)), some (.inl zz9), o] : List (Option AV))) (ek)) rfl rfl ?_
    refine X_run 1 (pc' := 9) (L' := [some (.inr (some (2, 0))), some (.inl (nI d)), some (.inl (nI n)), some (.inl (nI u)), some (.inl (nI j)), o]) (st' := [.inl (nI j)]) rfl ?_
    refine X_if_lt (tgt := 61) (nx := 12) rfl rfl rfl (fun h1 => ?_) (fun h1 => ?_)
    · exact absurd h1 (nI_n0 (by omega))
    · refine X_run 3 (pc' := 16) (L' := [some (.inr (some (2, 0))), some (.inl (nI d)), some (.inl (nI n)), some (.inl (nI u)), some (.inl (nI j)), o]) (st' := [.inl (nI j), .inl (nI d), .inr (some (2, 0))]) rfl ?_
      refine X_callV (vs := [.inl (nI d), .inl (nI j)]) (st := []) (mc := 0) (ms := 0) rfl ok_Lg_find v_Lg_38 (cH_obj rfl (by assumption)) rfl rfl (Nat.le_of_ble_eq_true rfl) (Nat.le_of_ble_eq_true rfl) (Nat.le_of_ble_eq_true rfl) (Nat.le_of_ble_eq_true rfl) (Nat.le_of_ble_eq_true rfl) (Nat.le_of_ble_eq_true rfl) rfl ?_
      refine c_Lg_find1 hL hd (by omega) hxj ?_
      show X M_Lg_latestToUndo _ _ 19 [some (.inr (some (2, 0))), some (.inl (nI d)), some (.inl (nI n)), some (.inl (nI u)), some (.inl (nI j)), o] [.inr (some (18, 40 * d + j))] (cH F B C Wr E r) 0 0
      refine X_run 2 (pc' := 23) (L' := [some (.inr (some (2, 0))), some (.inl (nI d)), some (.inl (nI n)), some (.inl (nI u)), some (.inl (nI j)), some (.inr (some (18, 40 * d + j)))]) (st' := [.inr (some (18, 40 * d + j))]) rfl ?_
      refine X_ifnull (tgt := 42) (nx := 26) rfl rfl rfl (fun h3 => ?_) (fun nn h3 => ?_)
      · cases h3
      · refine X_run 1 (pc' := 28) (L' := [some (.inr (some (2, 0))), some (.inl (nI d)), some (.inl (nI n)), some (.inl (nI u)), some (.inl (nI j)), some (.inr (some (18, 40 * d + j)))]) (st' := [.inr (some (18, 40 * d + j))]) rfl ?_
        refine XC_get (a := 18) (i := 40 * d + j) (v := .inl (F 18 (40 * d + j) 2)) rfl f_Lg_50 ⟨rfl, rfl⟩ (by assumption) rfl rfl ?_
        refine X_eq (st' := [.inl (nI (so σ (40 * d + j)))]) rfl (congrArg (fun zz9 => Sum.inl zz9 :: _) (hso)) rfl ?_
        refine X_run 1 (pc' := 33) (L' := [some (.inr (some (2, 0))), some (.inl (nI d)), some (.inl (nI n)), some (.inl (nI u)), some (.inl (nI j)), some (.inr (some (18, 40 * d + j)))]) (st' := [.inl (7), .inl (nI (so σ (40 * d + j)))]) rfl ?_
        refine X_ic_ne (tgt := 42) (nx := 36) rfl rfl rfl (fun h4 => ?_) (fun h4 => ?_)
        · have h4 := li_ne (b := 7) h4
          rw [if_neg h4] at hbk
          refine X_run 1 (pc' := 43) (L' := [some (.inr (some (2, 0))), some (.inl (nI d)), some (.inl (nI n)), some (.inl (nI u)), some (.inl (nI j)), some (.inr (some (18, 40 * d + j)))]) (st' := [.inl (nI u)]) rfl ?_
          refine X_if_le (tgt := 52) (nx := 46) rfl rfl rfl (fun h5 => ?_) (fun h5 => ?_)
          · have h5 := li_le (b := 0) (by omega) (by omega) h5
            rw [if_pos (by omega)] at hbk
            refine X_run 1 (pc' := 54) (L' := [some (.inr (some (2, 0))), some (.inl (nI d)), some (.inl (nI n)), some (.inl (nI u)), some (.inl (nI j)), some (.inr (some (18, 40 * d + j)))]) (st' := [.inl (nI j)]) rfl ?_
            refine X_iret rfl rfl rfl (Nat.le_refl _) (Nat.le_refl _) (qi ?_ hq)
            rw [← hbk]
          · have h5 := li_nle (b := 0) (by omega) (by omega) h5
            rw [if_neg (by omega)] at hbk
            refine X_run 2 (pc' := 55) (L' := [some (.inr (some (2, 0))), some (.inl (nI d)), some (.inl (nI n)), some (.inl (nI u + -1)), some (.inl (nI j)), some (.inr (some (18, 40 * d + j)))]) (st' := []) rfl ?_
            refine X_run 2 (pc' := 7) (L' := [some (.inr (some (2, 0))), some (.inl (nI d)), some (.inl (nI n)), some (.inl (nI u + -1)), some (.inl (nI j + -1)), some (.inr (some (18, 40 * d + j)))]) (st' := []) rfl ?_
            refine X_eq (L' := [some (.inr (some (2, 0))), some (.inl (nI d)), some (.inl (nI n)), some (.inl (nI (u - 1))), some (.inl (nI j + -1)), some (.inr (some (18, 40 * d + j)))]) (congrArg (fun zz9 : Int32 => ([some (.inr (some (2, 0))), some (.inl (nI d)), some (.inl (nI n)), some (.inl zz9), some (.inl (nI j + -1)), some (.inr (some (18, 40 * d + j)))] : List (Option AV))) ((by rw [← Int32.sub_eq_add_neg]; exact pk_sub (b := 1) (by omega)))) rfl rfl ?_
            exact ih (by omega) (by omega) (u - 1) (by omega) hbk _
        · have h4 := li_eq (b := 7) (by omega) (by omega) h4
          rw [if_pos h4] at hbk
          refine X_run 2 (pc' := 55) (L' := [some (.inr (some (2, 0))), some (.inl (nI d)), some (.inl (nI n)), some (.inl (nI u + 1)), some (.inl (nI j)), some (.inr (some (18, 40 * d + j)))]) (st' := []) rfl ?_
          refine X_run 2 (pc' := 7) (L' := [some (.inr (some (2, 0))), some (.inl (nI d)), some (.inl (nI n)), some (.inl (nI u + 1)), some (.inl (nI j + -1)), some (.inr (some (18, 40 * d + j)))]) (st' := []) rfl ?_
          refine X_eq (L' := [some (.inr (some (2, 0))), some (.inl (nI d)), some (.inl (nI n)), some (.inl (nI (u + 1))), some (.inl (nI j + -1)), some (.inr (some (18, 40 * d + j)))]) (congrArg (fun zz9 : Int32 => ([some (.inr (some (2, 0))), some (.inl (nI d)), some (.inl (nI n)), some (.inl zz9), some (.inl (nI j + -1)), some (.inr (some (18, 40 * d + j)))] : List (Option AV))) (by first | rfl | exact congrArg nI (by omega) | (simp only [il_0, il_1, il_2, il_3, il_4, il_5, il_6, il_7, il_16, il_20, il_40, il_160, pk_mul, nI_add]; done) | (simp only [il_0, il_1, il_2, il_3, il_4, il_5, il_6, il_7, il_16, il_20, il_40, il_160, pk_mul, nI_add]; exact congrArg nI (by omega)))) rfl rfl ?_
          exact ih (by omega) (by omega) (u + 1) (by omega) hbk _
theorem c_Lg_add {τ : Sg} {x : Nat} {l : List Nat} (h2 : E 2 0 = true) (h3 : ∀ i, E 3 i = true ↔ i = 0) (h4 : ∀ i, E 4 i = true ↔ i = 0) (hF : F 2 0 2 = nI l.length) (hl : l.length < 160) (hC : ∀ k y, l[k]? = some y → C 4 k = some (18, y)) (hDl : ∀ y, y ∈ l → DE τ F B E y) (hDx : DE τ F B E x)
    (hq : ∀ (C' : CC) (k : Nat), k ≤ l.length → (∀ j y, k ≤ j → l[j]? = some y → ahd τ x y = true) → (k = 0 ∨ ∃ y, l[k - 1]? = some y ∧ ahd τ x y = false) → (∀ a, a ≠ 3 → a ≠ 4 → C' a = C a) → (∀ y, C' 3 y = if y = x then some (18, x) else C 3 y) → (∀ j y, (l.take k ++ x :: l.drop k)[j]? = some y → C' 4 j = some (18, y)) → Q none (cH (u3 F 2 0 2 (nI (l.length + 1))) B C' Wr E r)) : X M_Lg_add (rmo M_Lg_add 0 0) (Zm Q 0 0) 0 (ini M_Lg_add [.inr (some (2, 0)), .inr (some (18, x))]) [] (cH F B C Wr E r) 0 0 := by
  have h30 : E 3 0 = true := (h3 0).mpr rfl
  have h40 : E 4 0 = true := (h4 0).mpr rfl
  obtain ⟨x0, x18, x19, xd, xn, -, xs, -, -, -, -, -, -, xsb, -⟩ := hDx
  have bs : ∀ y, y ∈ l → y < 160 ∧ E 18 y = true ∧ F 18 y 0 = nI (y / 40) ∧ F 18 y 3 = nI (sp τ y) ∧ sp τ y < 1000 := fun y hy => by
    obtain ⟨x0, x18, x19, xd, xn, -, xs, -, -, -, -, -, -, xsb, -⟩ := hDl y hy
    exact ⟨x0, x18, xd, xs, xsb⟩
  show X M_Lg_add _ _ 0 [some (.inr (some (2, 0))), some (.inr (some (18, x))), none] [] (cH F B C Wr E r) 0 0
  refine X_run 1 (pc' := 1) (L' := [some (.inr (some (2, 0))), some (.inr (some (18, x))), none]) (st' := [.inr (some (2, 0))]) rfl ?_
  refine XC_get (a := 2) (i := 0) (v := .inl (F 2 0 2)) rfl f_Lg_20 ⟨rfl, rfl⟩ (by assumption) rfl rfl ?_
  refine X_eq (st' := [.inl (nI l.length)]) rfl (congrArg (fun zz9 => Sum.inl zz9 :: _) (hF)) rfl ?_
  refine X_run 1 (pc' := 7) (L' := [some (.inr (some (2, 0))), some (.inr (some (18, x))), none]) (st' := [.inl (160), .inl (nI l.length)]) rfl ?_
  refine X_ic_lt (tgt := 11) (nx := 10) rfl rfl rfl (fun h1 => ?_) (fun h1 => ?_)
  · refine X_run 1 (pc' := 12) (L' := [some (.inr (some (2, 0))), some (.inr (some (18, x))), none]) (st' := [.inr (some (2, 0))]) rfl ?_
    refine XC_get (a := 2) (i := 0) (v := .inl (F 2 0 2)) rfl f_Lg_20 ⟨rfl, rfl⟩ (by assumption) rfl rfl ?_
    refine X_eq (st' := [.inl (nI l.length)]) rfl (congrArg (fun zz9 => Sum.inl zz9 :: _) (hF)) rfl ?_
    refine X_run 1 (pc' := 16) (L' := [some (.inr (some (2, 0))), some (.inr (some (18, x))), some (.inl (nI l.length))]) (st' := []) rfl ?_
    refine dn_ind (fun k => k ≤ l.length → ∀ C1 : CC, (∀ a, a ≠ 4 → C1 a = C a) → (∀ j y, l[j]? = some y → C1 4 (if j < k then j else j + 1) = some (18, y)) → (∀ j y, k ≤ j → l[j]? = some y → ahd τ x y = true) → X M_Lg_add (rmo M_Lg_add 0 0) (Zm Q 0 0) 16 [some (.inr (some (2, 0))), some (.inr (some (18, x))), some (.inl (nI k))] [] (cH F B C1 Wr E r) 0 0) ?_ l.length (Nat.le_refl _) C (fun _ _ => rfl) (fun j y hy => by have := (List.getElem?_eq_some_iff.mp hy).1; rw [if_pos this]; exact hC j y hy) (fun j y hj hy => by have := (List.getElem?_eq_some_iff.mp hy).1; omega)
    intro k ih hk C1 hC1 hC2 hk3
    have fin : (k = 0 ∨ ∃ y, l[k - 1]? = some y ∧ ahd τ x y = false) → X M_Lg_add (rmo M_Lg_add 0 0) (Zm Q 0 0) 55 [some (.inr (some (2, 0))), some (.inr (some (18, x))), some (.inl (nI k))] [] (cH F B C1 Wr E r) 0 0 := by
      intro hst
      refine X_run 1 (pc' := 56) (L' := [some (.inr (some (2, 0))), some (.inr (some (18, x))), some (.inl (nI k))]) (st' := [.inr (some (2, 0))]) rfl ?_
      refine XC_get (a := 2) (i := 0) (v := .inr (some (4, 0))) rfl f_Lg_17 ⟨rfl, rfl⟩ (by assumption) rfl rfl ?_
      refine X_run 2 (pc' := 61) (L' := [some (.inr (some (2, 0))), some (.inr (some (18, x))), some (.inl (nI k))]) (st' := [.inr (some (18, x)), .inl (nI k), .inr (some (4, 0))]) rfl ?_
      refine XC_ast (a := 4) (j := k) (a2 := 18) (i2 := x) rfl ⟨rfl, by decide⟩ (h4) (by simp only [rLn]; omega) rfl (by assumption) rfl rfl rfl ?_
      refine X_run 2 (pc' := 64) (L' := [some (.inr (some (2, 0))), some (.inr (some (18, x))), some (.inl (nI k))]) (st' := [.inr (some (2, 0)), .inr (some (2, 0))]) rfl ?_
      refine XC_get (a := 2) (i := 0) (v := .inl (F 2 0 2)) rfl f_Lg_20 ⟨rfl, rfl⟩ (by assumption) rfl rfl ?_
      refine X_eq (st' := [.inl (nI l.length), .inr (some (2, 0))]) rfl (congrArg (fun zz9 => Sum.inl zz9 :: _) (hF)) rfl ?_
      refine X_run 2 (pc' := 69) (L' := [some (.inr (some (2, 0))), some (.inr (some (18, x))), some (.inl (nI k))]) (st' := [.inl ((nI l.length) + 1), .inr (some (2, 0))]) rfl ?_
      refine X_eq (st' := [.inl (nI (l.length + 1)), .inr (some (2, 0))]) rfl (congrArg (fun zz9 => Sum.inl zz9 :: _) (by first | rfl | exact congrArg nI (by omega) | (simp only [il_0, il_1, il_2, il_3, il_4, il_5, il_6, il_7, il_16, il_20, il_40, il_160, pk_mul, nI_add]; done) | (simp only [il_0, il_1, il_2, il_3, il_4, il_5, il_6, il_7, il_16, il_20, il_40, il_160, pk_mul, nI_add]; exact congrArg nI (by omega)))) rfl ?_
      refine XC_put (k := 2) (a := 2) (i := 0) rfl f_Lg_20 rfl rfl rfl ⟨rfl, rfl⟩ ⟨rfl, rfl⟩ (by assumption) (fun _ => ⟨rfl, rfl⟩) rfl ?_
      refine X_run 1 (pc' := 73) (L' := [some (.inr (some (2, 0))), some (.inr (some (18, x))), some (.inl (nI k))]) (st' := [.inr (some (2, 0))]) rfl ?_
      refine XC_get (a := 2) (i := 0) (v := .inr (some (3, 0))) rfl f_Lg_11 ⟨rfl, rfl⟩ (by assumption) rfl rfl ?_
      refine X_run 1 (pc' := 77) (L' := [some (.inr (some (2, 0))), some (.inr (some (18, x))), some (.inl (nI k))]) (st' := [.inr (some (18, x)), .inr (some (3, 0))]) rfl ?_
      refine XC_get (a := 18) (i := x) (v := .inl ((u3 F 2 0 2 (nI (l.length + 1))) 18 x 0)) rfl f_Lg_32 ⟨rfl, rfl⟩ (by assumption) rfl rfl ?_
      refine X_eq (st' := [.inl (nI (x / 40)), .inr (some (3, 0))]) rfl (congrArg (fun zz9 => Sum.inl zz9 :: _) ((by rw [u3_ne (by omega)]; exact xd))) rfl ?_
      refine X_run 1 (pc' := 81) (L' := [some (.inr (some (2, 0))), some (.inr (some (18, x))), some (.inl (nI k))]) (st' := [.inr (some (18, x)), .inl (nI (x / 40)), .inr (some (3, 0))]) rfl ?_
      refine XC_get (a := 18) (i := x) (v := .inl ((u3 F 2 0 2 (nI (l.length + 1))) 18 x 1)) rfl f_Lg_35 ⟨rfl, rfl⟩ (by assumption) rfl rfl ?_
      refine X_eq (st' := [.inl (nI (x % 40)), .inl (nI (x / 40)), .inr (some (3, 0))]) rfl (congrArg (fun zz9 => Sum.inl zz9 :: _) ((by rw [u3_ne (by omega)]; exact xn))) rfl ?_
      refine X_callS (vs := [.inl (nI (x / 40)), .inl (nI (x % 40))]) (st := [.inr (some (3, 0))]) (mc := 0) (ms := 0) rfl ok_Pl_numberOf s_Lg_24 rfl rfl (Nat.le_of_ble_eq_true rfl) (Nat.le_of_ble_eq_true rfl) (Nat.le_of_ble_eq_true rfl) (Nat.le_of_ble_eq_true rfl) (Nat.le_of_ble_eq_true rfl) (Nat.le_of_ble_eq_true rfl) rfl ?_
      refine c_Pl_numberOf ?_
      show X M_Lg_add _ _ 87 [some (.inr (some (2, 0))), some (.inr (some (18, x))), some (.inl (nI k))] [.inl (nI (40 * (x / 40) + x % 40)), .inr (some (3, 0))] (cH (u3 F 2 0 2 (nI (l.length + 1))) B (u2 C1 4 k (some (18, x))) Wr E r) 0 0
      refine X_eq (st' := [.inl (nI (x)), .inr (some (3, 0))]) rfl (congrArg (fun zz9 => Sum.inl zz9 :: _) (by first | rfl | exact congrArg nI (by omega) | (simp only [il_0, il_1, il_2, il_3, il_4, il_5, il_6, il_7, il_16, il_20, il_40, il_160, pk_mul, nI_add]; done) | (simp only [il_0, il_1, il_2, il_3, il_4, il_5, il_6, il_7, il_16, il_20, il_40, il_160, pk_mul, nI_add]; exact congrArg nI (by omega)))) rfl ?_
      refine X_run 1 (pc' := 88) (L' := [some (.inr (some (2, 0))), some (.inr (some (18, x))), some (.inl (nI k))]) (st' := [.inr (some (18, x)), .inl (nI (x)), .inr (some (3, 0))]) rfl ?_
      refine XC_ast (a := 3) (j := (x)) (a2 := 18) (i2 := x) rfl ⟨rfl, by decide⟩ (h3) (by simp only [rLn]; omega) rfl (by assumption) rfl rfl rfl ?_
      refine X_vret rfl rfl (Nat.le_refl _) (Nat.le_refl _) (hq _ k hk hk3 hst (fun a a3 a4 => ?_) (fun y => ?_) (fun j y hy => ?_))
      · funext z
        rw [u2_ne (by omega), u2_ne (by omega), hC1 a a4]
      · by_cases q : y = x
        · rw [if_pos q, q, u2_eq]
        · rw [if_neg q, u2_ne (by omega), u2_ne (by omega), hC1 3 (by omega)]
      · rw [u2_ne (by omega)]
        have hlt : (l.take k).length = k := by rw [List.length_take]; omega
        by_cases q : j < k
        · rw [List.getElem?_append_left (by omega), List.getElem?_take, if_pos q] at hy
          rw [u2_ne (by omega)]
          have := hC2 j y hy
          rw [if_pos q] at this
          exact this
        · rw [List.getElem?_append_right (by omega), hlt] at hy
          by_cases q2 : j = k
          · rw [q2, Nat.sub_self] at hy
            rw [q2, u2_eq]
            cases hy
            rfl
          · rw [show j - k = (j - k - 1) + 1 by omega, List.getElem?_cons_succ, List.getElem?_drop] at hy
            rw [u2_ne (by omega)]
            have := hC2 (k + (j - k - 1)) y hy
            rw [if_neg (by omega), show k + (j - k - 1) + 1 = j by omega] at this
            exact this
    refine X_run 1 (pc' := 17) (L' := [some (.inr (some (2, 0))), some (.inr (some (18, x))), some (.inl (nI k))]) (st' := [.inl (nI k)]) rfl ?_
    refine X_if_le (tgt := 55) (nx := 20) rfl rfl rfl (fun h5 => ?_) (fun h5 => ?_)
    · have h5 := li_le (b := 0) (by omega) (by omega) h5
      exact fin (Or.inl (by omega))
    · have h5 := li_nle (b := 0) (by omega) (by omega) h5
      obtain ⟨y, hy⟩ : ∃ y, l[k - 1]? = some y := ⟨_, List.getElem?_eq_getElem (by omega)⟩
      have hyl := List.mem_of_getElem? hy
      obtain ⟨y1, y2, y3, y4, y5⟩ := bs y hyl
      have hCy := hC2 (k - 1) y hy
      rw [if_pos (by omega)] at hCy
      refine X_run 2 (pc' := 22) (L' := [some (.inr (some (2, 0))), some (.inr (some (18, x))), some (.inl (nI k))]) (st' := [.inr (some (2, 0)), .inr (some (18, x))]) rfl ?_
      refine XC_get (a := 2) (i := 0) (v := .inr (some (4, 0))) rfl f_Lg_17 ⟨rfl, rfl⟩ (by assumption) rfl rfl ?_
      refine X_run 3 (pc' := 28) (L' := [some (.inr (some (2, 0))), some (.inr (some (18, x))), some (.inl (nI k))]) (st' := [.inl ((nI k) - 1), .inr (some (4, 0)), .inr (some (18, x))]) rfl ?_
      refine X_eq (st' := [.inl (nI (k - 1)), .inr (some (4, 0)), .inr (some (18, x))]) rfl (congrArg (fun zz9 => Sum.inl zz9 :: _) ((pk_sub (b := 1) (by omega)))) rfl ?_
      refine XC_ald (a := 4) (i := 0) (j := (k - 1)) (v := (C1 4 (k - 1))) rfl ⟨rfl, by decide, by decide⟩ (by assumption) (by simp only [rLn]; omega) rfl rfl ?_
      rw [hCy]
      refine X_callV (vs := [.inr (some (18, y))]) (st := []) (mc := 0) (ms := 0) rfl ok_De_standsBefore v_Lg_28 (cH_obj rfl (by assumption)) rfl rfl (Nat.le_of_ble_eq_true rfl) (Nat.le_of_ble_eq_true rfl) (Nat.le_of_ble_eq_true rfl) (Nat.le_of_ble_eq_true rfl) (Nat.le_of_ble_eq_true rfl) (Nat.le_of_ble_eq_true rfl) rfl ?_
      refine c_De_standsBefore (σ := τ) x18 y2 xs y4 xd y3 xsb y5 x0 y1 ?_
      show X M_Lg_add _ _ 32 [some (.inr (some (2, 0))), some (.inr (some (18, x))), some (.inl (nI k))] [.inl (b2i (ahd τ x y))] (cH F B C1 Wr E r) 0 0
      refine X_if_eq (tgt := 55) (nx := 35) rfl rfl rfl (fun h6 => ?_) (fun h6 => ?_)
      · rw [b2i_0] at h6
        exact fin (Or.inr ⟨y, hy, h6⟩)
      · rw [b2i_n0] at h6
        refine X_run 1 (pc' := 36) (L' := [some (.inr (some (2, 0))), some (.inr (some (18, x))), some (.inl (nI k))]) (st' := [.inr (some (2, 0))]) rfl ?_
        refine XC_get (a := 2) (i := 0) (v := .inr (some (4, 0))) rfl f_Lg_17 ⟨rfl, rfl⟩ (by assumption) rfl rfl ?_
        refine X_run 2 (pc' := 41) (L' := [some (.inr (some (2, 0))), some (.inr (some (18, x))), some (.inl (nI k))]) (st' := [.inr (some (2, 0)), .inl (nI k), .inr (some (4, 0))]) rfl ?_
        refine XC_get (a := 2) (i := 0) (v := .inr (some (4, 0))) rfl f_Lg_17 ⟨rfl, rfl⟩ (by assumption) rfl rfl ?_
        refine X_run 3 (pc' := 47) (L' := [some (.inr (some (2, 0))), some (.inr (some (18, x))), some (.inl (nI k))]) (st' := [.inl ((nI k) - 1), .inr (some (4, 0)), .inl (nI k), .inr (some (4, 0))]) rfl ?_
        refine X_eq (st' := [.inl (nI (k - 1)), .inr (some (4, 0)), .inl (nI k), .inr (some (4, 0))]) rfl (congrArg (fun zz9 => Sum.inl zz9 :: _) ((pk_sub (b := 1) (by omega)))) rfl ?_
        refine XC_ald (a := 4) (i := 0) (j := (k - 1)) (v := (C1 4 (k - 1))) rfl ⟨rfl, by decide, by decide⟩ (by assumption) (by simp only [rLn]; omega) rfl rfl ?_
        rw [hCy]
        refine XC_ast (a := 4) (j := k) (a2 := 18) (i2 := y) rfl ⟨rfl, by decide⟩ (h4) (by simp only [rLn]; omega) rfl (by assumption) rfl rfl rfl ?_
        refine X_run 2 (pc' := 16) (L' := [some (.inr (some (2, 0))), some (.inr (some (18, x))), some (.inl (nI k + -1))]) (st' := []) rfl ?_
        refine X_eq (L' := [some (.inr (some (2, 0))), some (.inr (some (18, x))), some (.inl (nI (k - 1)))]) (congrArg (fun zz9 : Int32 => ([some (.inr (some (2, 0))), some (.inr (some (18, x))), some (.inl zz9)] : List (Option AV))) ((by rw [← Int32.sub_eq_add_neg]; exact pk_sub (b := 1) (by omega)))) rfl rfl ?_
        refine ih h5 (by omega) _ (fun a ha => ?_) (fun j z hz => ?_) (fun j z hj hz => ?_)
        · funext w
          rw [u2_ne (by omega), hC1 a ha]
        · by_cases q : j = k - 1
          · rw [q, if_neg (by omega), show k - 1 + 1 = k by omega, u2_eq]
            rw [q, hy] at hz
            cases hz
            rfl
          · have := hC2 j z hz
            by_cases q2 : j < k - 1
            · rw [if_pos q2, u2_ne (by omega)]
              rw [if_pos (by omega)] at this
              exact this
            · rw [if_neg q2, u2_ne (by omega)]
              rw [if_neg (by omega)] at this
              exact this
        · by_cases q : j = k - 1
          · rw [q, hy] at hz
            cases hz
            exact h6
          · exact hk3 j z (by omega) hz
  · have h1 := li_nlt (b := 160) (by omega) (by omega) h1
    omega
end

