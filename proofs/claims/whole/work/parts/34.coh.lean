/-! the component's picture: the order of things -/
def mvI (O : List Nat) (p t k : Nat) : List Nat := (O.eraseIdx p).insertIdx k t
theorem mvI_len {O : List Nat} {p t k : Nat} (hp : p < O.length) (hk : k < O.length) : (mvI O p t k).length = O.length := by
  unfold mvI
  rw [List.length_insertIdx, List.length_eraseIdx, if_pos hp, if_pos (by omega)]
  omega
theorem mvI_get {O : List Nat} {p t k : Nat} (hp : p < O.length) (hk : k < O.length) (j : Nat) : (mvI O p t k)[j]? = if j < k then (if j < p then O[j]? else O[j + 1]?) else if j = k then some t else (if j - 1 < p then O[j - 1]? else O[j]?) := by
  unfold mvI
  rw [insertIdx_get _ (by rw [List.length_eraseIdx, if_pos hp]; omega), List.getElem?_eraseIdx, List.getElem?_eraseIdx]
  by_cases q : j < k
  · rw [if_pos q, if_pos q]
  · rw [if_neg q, if_neg q]
    by_cases q2 : j = k
    · rw [if_pos q2, if_pos q2]
    · rw [if_neg q2, if_neg q2, show j - 1 + 1 = j by omega]
theorem mvI_self {O : List Nat} {p t : Nat} (hp : O[p]? = some t) : mvI O p t p = O := by
  have hl := (List.getElem?_eq_some_iff.mp hp).1
  apply List.ext_getElem?
  intro j
  rw [mvI_get hl hl]
  by_cases q : j < p
  · rw [if_pos q, if_pos q]
  · rw [if_neg q]
    by_cases q2 : j = p
    · rw [if_pos q2, q2, hp]
    · rw [if_neg q2, if_neg (by omega)]
theorem mvI_sw {O : List Nat} {p t k : Nat} (hp : p < O.length) (hk : k + 1 < O.length) : (mvI O p t (k + 1))[k]? = (mvI O p t k)[k + 1]? := by
  rw [mvI_get hp (by omega), mvI_get hp (by omega), if_pos (show k < k + 1 by omega), if_neg (show ¬ k + 1 < k by omega), if_neg (show ¬ k + 1 = k by omega), show k + 1 - 1 = k by omega]
theorem mvI_oth {O : List Nat} {p t k : Nat} (hp : p < O.length) (hk : k + 1 < O.length) {j : Nat} (h1 : j ≠ k) (h2 : j ≠ k + 1) : (mvI O p t (k + 1))[j]? = (mvI O p t k)[j]? := by
  rw [mvI_get hp (by omega), mvI_get hp (by omega)]
  by_cases q : j < k
  · rw [if_pos (by omega), if_pos q]
  · rw [if_neg (by omega), if_neg h2, if_neg q, if_neg h1]
theorem mvI_nodup {O : List Nat} {p t k : Nat} (hO : O.Nodup) (hp : O[p]? = some t) (hk : k < O.length) : (mvI O p t k).Nodup := by
  have e := idx_of hO hp
  have ht : t ∈ O := List.mem_of_getElem? hp
  have h1 := mvP_nodup (t := t) hO
  have h2 := mvP_not hO ht
  have h3 := mvP_len ht
  unfold mvP at h1 h2 h3
  rw [e] at h1 h2 h3
  exact insertIdx_nodup h1 h2 (by omega)
theorem mvI_mvL {O : List Nat} {p t : Nat} {b : Int32} (hO : O.Nodup) (hp : O[p]? = some t) : mvL O t b = mvI O p t (mvT O t b) := by
  unfold mvL mvI mvP
  rw [idx_of hO hp]
/-- the order of things in the picture -/
def OO (O : List Nat) (F : CF) (C : CC) (E : Nat → Nat → Bool) : Prop := F 5 0 7 = nI O.length ∧ O.length ≤ 160 ∧ O.Nodup ∧ ∀ k t, O[k]? = some t → C 12 k = some (20, t) ∧ F 20 t 6 = nI k ∧ E 20 t = true ∧ t < 160
section
variable {F : CF} {B : CB} {C : CC} {Wr : Nat → Option Nd} {E : Nat → Nat → Bool} {r : AH} {Q : Option AV → AH → Prop} {h : AH} {σ : Sg} {see : Nat → Nat}
theorem c_Pi_slide {O : List Nat} {p q t : Nat} (hP : PE E) (hO : OO O F C E) (hp : O[p]? = some t) (hq1 : q < O.length) (hq : ∀ (F' : CF) (C' : CC), (∀ a i k, ¬ (a = 20 ∧ k = 6) → F' a i k = F a i k) → (∀ a, a ≠ 12 → C' a = C a) → OO (mvI O p t q) F' C' E → Q none (cH F' B C' Wr E r)) : X M_Pi_slide (rmo M_Pi_slide 0 0) (Zm Q 0 0) 0 (ini M_Pi_slide [.inr (some (5, 0)), .inr (some (20, t)), .inl (nI q)]) [] (cH F B C Wr E r) 0 0 := by
  have h5 := hP.1
  have h12 : E 12 0 = true := hP.at (by omega)
  obtain ⟨o1, o2, o3, o4⟩ := hO
  have hpl := (List.getElem?_eq_some_iff.mp hp).1
  obtain ⟨-, t6, t20, t160⟩ := o4 p t hp
  have memE : ∀ k j y, k < O.length → (mvI O p t k)[j]? = some y → E 20 y = true ∧ y < 160 := fun k j y hk hy => by
    rw [mvI_get hpl hk] at hy
    split at hy
    · split at hy
      · exact (o4 _ _ hy).2.2
      · exact (o4 _ _ hy).2.2
    · split at hy
      · cases hy
        exact ⟨t20, t160⟩
      · split at hy
        · exact (o4 _ _ hy).2.2
        · exact (o4 _ _ hy).2.2
  show X M_Pi_slide _ _ 0 [some (.inr (some (5, 0))), some (.inr (some (20, t))), some (.inl (nI q)), none] [] (cH F B C Wr E r) 0 0
  refine X_run 1 (pc' := 1) (L' := [some (.inr (some (5, 0))), some (.inr (some (20, t))), some (.inl (nI q)), none]) (st' := [.inr (some (20, t))]) rfl ?_
  refine XC_get (a := 20) (i := t) (v := .inl (F 20 t 6)) rfl f_Pi_137 ⟨rfl, rfl⟩ (by assumption) rfl rfl ?_
  refine X_eq (st' := [.inl (nI p)]) rfl (congrArg (fun zz9 => Sum.inl zz9 :: _) (t6)) rfl ?_
  refine X_run 1 (pc' := 5) (L' := [some (.inr (some (5, 0))), some (.inr (some (20, t))), some (.inl (nI q)), some (.inl (nI p))]) (st' := []) rfl ?_
  have loop2 : ∀ k, k ≤ q → ∀ (F1 : CF) (C1 : CC), (∀ a i j, ¬ (a = 20 ∧ j = 6) → F1 a i j = F a i j) → (∀ a, a ≠ 12 → C1 a = C a) → (∀ j y, j ≠ k → (mvI O p t k)[j]? = some y → C1 12 j = some (20, y) ∧ F1 20 y 6 = nI j) → X M_Pi_slide (rmo M_Pi_slide 0 0) (Zm Q 0 0) 40 [some (.inr (some (5, 0))), some (.inr (some (20, t))), some (.inl (nI q)), some (.inl (nI k))] [] (cH F1 B C1 Wr E r) 0 0 := by
    refine up_ind q _ ?_
    intro k hk ih F1 C1 hF1 hC1 hH
    have nod := mvI_nodup o3 hp (show k < O.length by omega)
    refine X_run 2 (pc' := 42) (L' := [some (.inr (some (5, 0))), some (.inr (some (20, t))), some (.inl (nI q)), some (.inl (nI k))]) (st' := [.inl (nI q), .inl (nI k)]) rfl ?_
    refine X_ic_ge (tgt := 75) (nx := 45) rfl rfl rfl (fun h1 => ?_) (fun h1 => ?_)
    · have h1 := li_le (by omega) (by omega) h1
      have ek : k = q := by omega
      refine X_run 1 (pc' := 76) (L' := [some (.inr (some (5, 0))), some (.inr (some (20, t))), some (.inl (nI q)), some (.inl (nI k))]) (st' := [.inr (some (5, 0))]) rfl ?_
      refine XC_get (a := 5) (i := 0) (v := .inr (some (12, 0))) rfl f_Pi_35 ⟨rfl, rfl⟩ (by assumption) rfl rfl ?_
      refine X_run 2 (pc' := 81) (L' := [some (.inr (some (5, 0))), some (.inr (some (20, t))), some (.inl (nI q)), some (.inl (nI k))]) (st' := [.inr (some (20, t)), .inl (nI k), .inr (some (12, 0))]) rfl ?_
      refine XC_ast (a := 12) (j := k) (a2 := 20) (i2 := t) rfl ⟨rfl, by decide⟩ (hP.2.2.2 12 (by omega)) (by simp only [rLn]; omega) rfl (by assumption) rfl rfl rfl ?_
      refine X_run 2 (pc' := 84) (L' := [some (.inr (some (5, 0))), some (.inr (some (20, t))), some (.inl (nI q)), some (.inl (nI k))]) (st' := [.inl (nI k), .inr (some (20, t))]) rfl ?_
      refine XC_put (k := 6) (a := 20) (i := t) rfl f_Pi_137 rfl rfl rfl ⟨rfl, rfl⟩ ⟨rfl, rfl⟩ (by assumption) (fun _ => ⟨rfl, rfl⟩) rfl ?_
      refine X_vret rfl rfl (Nat.le_refl _) (Nat.le_refl _) (hq _ _ (fun a i j hh => ?_) (fun a ha => ?_) ⟨?_, ?_, ?_, fun j y hy => ?_⟩)
      · rw [u3_ne (by rintro ⟨z1, z2, z3⟩; exact hh ⟨z1, z3⟩), hF1 a i j hh]
      · funext z
        rw [u2_ne (by omega), hC1 a ha]
      · rw [u3_ne (by omega), hF1 _ _ _ (by omega), o1, mvI_len hpl hq1]
      · rw [mvI_len hpl hq1]
        exact o2
      · exact mvI_nodup o3 hp hq1
      · refine ⟨?_, ?_, memE q j y hq1 hy⟩
        · by_cases qj : j = k
          · rw [qj, ek, mvI_get hpl hq1, if_neg (by omega), if_pos rfl] at hy
            cases hy
            rw [qj, u2_eq]
          · rw [u2_ne (by omega)]
            rw [← ek] at hy
            exact (hH j y qj hy).1
        · by_cases qj : j = k
          · rw [qj, ek, mvI_get hpl hq1, if_neg (by omega), if_pos rfl] at hy
            cases hy
            rw [qj, u3_eq]
          · rw [← ek] at hy
            have yt : y ≠ t := fun z => by
              rw [z] at hy
              have h2 : (mvI O p t k)[k]? = some t := by rw [mvI_get hpl (by omega), if_neg (by omega), if_pos rfl]
              exact qj (nod_inj nod hy h2)
            rw [u3_ne (by rintro ⟨-, z, -⟩; exact yt z)]
            exact (hH j y qj hy).2
    · have h1 := li_nle (by omega) (by omega) h1
      obtain ⟨y, hy⟩ : ∃ y, (mvI O p t k)[k + 1]? = some y := ⟨_, List.getElem?_eq_getElem (by rw [mvI_len hpl (by omega)]; omega)⟩
      obtain ⟨c1, c2⟩ := hH (k + 1) y (by omega) hy
      obtain ⟨y20, y160⟩ := memE k (k + 1) y (by omega) hy
      refine X_run 1 (pc' := 46) (L' := [some (.inr (some (5, 0))), some (.inr (some (20, t))), some (.inl (nI q)), some (.inl (nI k))]) (st' := [.inr (some (5, 0))]) rfl ?_
      refine XC_get (a := 5) (i := 0) (v := .inr (some (12, 0))) rfl f_Pi_35 ⟨rfl, rfl⟩ (by assumption) rfl rfl ?_
      refine X_run 2 (pc' := 51) (L' := [some (.inr (some (5, 0))), some (.inr (some (20, t))), some (.inl (nI q)), some (.inl (nI k))]) (st' := [.inr (some (5, 0)), .inl (nI k), .inr (some (12, 0))]) rfl ?_
      refine XC_get (a := 5) (i := 0) (v := .inr (some (12, 0))) rfl f_Pi_35 ⟨rfl, rfl⟩ (by assumption) rfl rfl ?_
      refine X_run 3 (pc' := 57) (L' := [some (.inr (some (5, 0))), some (.inr (some (20, t))), some (.inl (nI q)), some (.inl (nI k))]) (st' := [.inl ((nI k) + 1), .inr (some (12, 0)), .inl (nI k), .inr (some (12, 0))]) rfl ?_
      refine X_eq (st' := [.inl (nI (k + 1)), .inr (some (12, 0)), .inl (nI k), .inr (some (12, 0))]) rfl (congrArg (fun zz9 => Sum.inl zz9 :: _) (by first | rfl | exact congrArg nI (by omega) | (simp only [il_0, il_1, il_2, il_3, il_4, il_5, il_6, il_7, il_16, il_20, il_40, il_160, pk_mul, nI_add]; done) | (simp only [il_0, il_1, il_2, il_3, il_4, il_5, il_6, il_7, il_16, il_20, il_40, il_160, pk_mul, nI_add]; exact congrArg nI (by omega)))) rfl ?_
      refine XC_ald (a := 12) (i := 0) (j := (k + 1)) (v := (C1 12 (k + 1))) rfl ⟨rfl, by decide, by decide⟩ (by assumption) (by simp only [rLn]; omega) rfl rfl ?_
      rw [c1]
      refine XC_ast (a := 12) (j := k) (a2 := 20) (i2 := y) rfl ⟨rfl, by decide⟩ (hP.2.2.2 12 (by omega)) (by simp only [rLn]; omega) rfl (by assumption) rfl rfl rfl ?_
      refine X_run 1 (pc' := 60) (L' := [some (.inr (some (5, 0))), some (.inr (some (20, t))), some (.inl (nI q)), some (.inl (nI k))]) (st' := [.inr (some (5, 0))]) rfl ?_
      refine XC_get (a := 5) (i := 0) (v := .inr (some (12, 0))) rfl f_Pi_35 ⟨rfl, rfl⟩ (by assumption) rfl rfl ?_
      refine X_run 1 (pc' := 64) (L' := [some (.inr (some (5, 0))), some (.inr (some (20, t))), some (.inl (nI q)), some (.inl (nI k))]) (st' := [.inl (nI k), .inr (some (12, 0))]) rfl ?_
      refine XC_ald (a := 12) (i := 0) (j := k) (v := ((u2 C1 12 k (some (20, y))) 12 k)) rfl ⟨rfl, by decide, by decide⟩ (by assumption) (by simp only [rLn]; omega) rfl rfl ?_
      rw [u2_eq]
      refine X_run 1 (pc' := 66) (L' := [some (.inr (some (5, 0))), some (.inr (some (20, t))), some (.inl (nI q)), some (.inl (nI k))]) (st' := [.inl (nI k), .inr (some (20, y))]) rfl ?_
      refine XC_put (k := 6) (a := 20) (i := y) rfl f_Pi_137 rfl rfl rfl ⟨rfl, rfl⟩ ⟨rfl, rfl⟩ (by assumption) (fun _ => ⟨rfl, rfl⟩) rfl ?_
      refine X_run 2 (pc' := 40) (L' := [some (.inr (some (5, 0))), some (.inr (some (20, t))), some (.inl (nI q)), some (.inl (nI k + 1))]) (st' := []) rfl ?_
      refine X_eq (L' := [some (.inr (some (5, 0))), some (.inr (some (20, t))), some (.inl (nI q)), some (.inl (nI (k + 1)))]) (congrArg (fun zz9 : Int32 => ([some (.inr (some (5, 0))), some (.inr (some (20, t))), some (.inl (nI q)), some (.inl zz9)] : List (Option AV))) (by first | rfl | exact congrArg nI (by omega) | (simp only [il_0, il_1, il_2, il_3, il_4, il_5, il_6, il_7, il_16, il_20, il_40, il_160, pk_mul, nI_add]; done) | (simp only [il_0, il_1, il_2, il_3, il_4, il_5, il_6, il_7, il_16, il_20, il_40, il_160, pk_mul, nI_add]; exact congrArg nI (by omega)))) rfl rfl ?_
      refine ih h1 _ _ (fun a i j hh => ?_) (fun a ha => ?_) (fun j z hj hz => ?_)
      · rw [u3_ne (by rintro ⟨z1, z2, z3⟩; exact hh ⟨z1, z3⟩), hF1 a i j hh]
      · funext w
        rw [u2_ne (by omega), hC1 a ha]
      · by_cases qj : j = k
        · rw [qj, mvI_sw hpl (by omega), hy] at hz
          cases hz
          rw [qj, u2_eq, u3_eq]
          exact ⟨rfl, rfl⟩
        · rw [mvI_oth hpl (by omega) qj hj] at hz
          have zy : z ≠ y := fun w => by
            rw [w] at hz
            exact hj (nod_inj nod hz hy)
          rw [u2_ne (by omega), u3_ne (by rintro ⟨-, w, -⟩; exact zy w)]
          exact hH j z qj hz
  have loop1 : ∀ k, k ≤ p → ∀ (F1 : CF) (C1 : CC), (∀ a i j, ¬ (a = 20 ∧ j = 6) → F1 a i j = F a i j) → (∀ a, a ≠ 12 → C1 a = C a) → (∀ j y, j ≠ k → (mvI O p t k)[j]? = some y → C1 12 j = some (20, y) ∧ F1 20 y 6 = nI j) → X M_Pi_slide (rmo M_Pi_slide 0 0) (Zm Q 0 0) 5 [some (.inr (some (5, 0))), some (.inr (some (20, t))), some (.inl (nI q)), some (.inl (nI k))] [] (cH F1 B C1 Wr E r) 0 0 := by
    refine dn_ind _ ?_
    intro k ih hk F1 C1 hF1 hC1 hH
    have nod := mvI_nodup o3 hp (show k < O.length by omega)
    refine X_run 2 (pc' := 7) (L' := [some (.inr (some (5, 0))), some (.inr (some (20, t))), some (.inl (nI q)), some (.inl (nI k))]) (st' := [.inl (nI q), .inl (nI k)]) rfl ?_
    refine X_ic_le (tgt := 40) (nx := 10) rfl rfl rfl (fun h1 => ?_) (fun h1 => ?_)
    · have h1 := li_le (by omega) (by omega) h1
      exact loop2 k h1 F1 C1 hF1 hC1 hH
    · have h1 := li_nle (by omega) (by omega) h1
      obtain ⟨m, em⟩ : ∃ m, k = m + 1 := ⟨k - 1, by omega⟩
      obtain ⟨y, hy⟩ : ∃ y, (mvI O p t k)[m]? = some y := ⟨_, List.getElem?_eq_getElem (by rw [mvI_len hpl (by omega)]; omega)⟩
      obtain ⟨c1, c2⟩ := hH m y (by omega) hy
      obtain ⟨y20, y160⟩ := memE k m y (by omega) hy
      refine X_run 1 (pc' := 11) (L' := [some (.inr (some (5, 0))), some (.inr (some (20, t))), some (.inl (nI q)), some (.inl (nI k))]) (st' := [.inr (some (5, 0))]) rfl ?_
      refine XC_get (a := 5) (i := 0) (v := .inr (some (12, 0))) rfl f_Pi_35 ⟨rfl, rfl⟩ (by assumption) rfl rfl ?_
      refine X_run 2 (pc' := 16) (L' := [some (.inr (some (5, 0))), some (.inr (some (20, t))), some (.inl (nI q)), some (.inl (nI k))]) (st' := [.inr (some (5, 0)), .inl (nI k), .inr (some (12, 0))]) rfl ?_
      refine XC_get (a := 5) (i := 0) (v := .inr (some (12, 0))) rfl f_Pi_35 ⟨rfl, rfl⟩ (by assumption) rfl rfl ?_
      refine X_run 3 (pc' := 22) (L' := [some (.inr (some (5, 0))), some (.inr (some (20, t))), some (.inl (nI q)), some (.inl (nI k))]) (st' := [.inl ((nI k) - 1), .inr (some (12, 0)), .inl (nI k), .inr (some (12, 0))]) rfl ?_
      refine X_eq (st' := [.inl (nI m), .inr (some (12, 0)), .inl (nI k), .inr (some (12, 0))]) rfl (congrArg (fun zz9 => Sum.inl zz9 :: _) ((by rw [em]; exact pk_sub (a := m + 1) (b := 1) (by omega)))) rfl ?_
      refine XC_ald (a := 12) (i := 0) (j := m) (v := (C1 12 m)) rfl ⟨rfl, by decide, by decide⟩ (by assumption) (by simp only [rLn]; omega) rfl rfl ?_
      rw [c1]
      refine XC_ast (a := 12) (j := k) (a2 := 20) (i2 := y) rfl ⟨rfl, by decide⟩ (hP.2.2.2 12 (by omega)) (by simp only [rLn]; omega) rfl (by assumption) rfl rfl rfl ?_
      refine X_run 1 (pc' := 25) (L' := [some (.inr (some (5, 0))), some (.inr (some (20, t))), some (.inl (nI q)), some (.inl (nI k))]) (st' := [.inr (some (5, 0))]) rfl ?_
      refine XC_get (a := 5) (i := 0) (v := .inr (some (12, 0))) rfl f_Pi_35 ⟨rfl, rfl⟩ (by assumption) rfl rfl ?_
      refine X_run 1 (pc' := 29) (L' := [some (.inr (some (5, 0))), some (.inr (some (20, t))), some (.inl (nI q)), some (.inl (nI k))]) (st' := [.inl (nI k), .inr (some (12, 0))]) rfl ?_
      refine XC_ald (a := 12) (i := 0) (j := k) (v := ((u2 C1 12 k (some (20, y))) 12 k)) rfl ⟨rfl, by decide, by decide⟩ (by assumption) (by simp only [rLn]; omega) rfl rfl ?_
      rw [u2_eq]
      refine X_run 1 (pc' := 31) (L' := [some (.inr (some (5, 0))), some (.inr (some (20, t))), some (.inl (nI q)), some (.inl (nI k))]) (st' := [.inl (nI k), .inr (some (20, y))]) rfl ?_
      refine XC_put (k := 6) (a := 20) (i := y) rfl f_Pi_137 rfl rfl rfl ⟨rfl, rfl⟩ ⟨rfl, rfl⟩ (by assumption) (fun _ => ⟨rfl, rfl⟩) rfl ?_
      refine X_run 2 (pc' := 5) (L' := [some (.inr (some (5, 0))), some (.inr (some (20, t))), some (.inl (nI q)), some (.inl (nI k + -1))]) (st' := []) rfl ?_
      refine X_eq (L' := [some (.inr (some (5, 0))), some (.inr (some (20, t))), some (.inl (nI q)), some (.inl (nI m))]) (congrArg (fun zz9 : Int32 => ([some (.inr (some (5, 0))), some (.inr (some (20, t))), some (.inl (nI q)), some (.inl zz9)] : List (Option AV))) ((by rw [em, ← Int32.sub_eq_add_neg]; exact pk_sub (a := m + 1) (b := 1) (by omega)))) rfl rfl ?_
      rw [show k - 1 = m by omega] at ih
      refine ih (by omega) (by omega) _ _ (fun a i j hh => ?_) (fun a ha => ?_) (fun j z hj hz => ?_)
      · rw [u3_ne (by rintro ⟨z1, z2, z3⟩; exact hh ⟨z1, z3⟩), hF1 a i j hh]
      · funext w
        rw [u2_ne (by omega), hC1 a ha]
      · by_cases qj : j = k
        · rw [em] at hy
          rw [qj, em, ← mvI_sw hpl (by omega), hy] at hz
          cases hz
          rw [qj, u2_eq, u3_eq]
          exact ⟨rfl, rfl⟩
        · rw [← mvI_oth hpl (by omega) hj (by omega), ← em] at hz
          have zy : z ≠ y := fun w => by
            rw [w] at hz
            exact hj (nod_inj nod hz hy)
          rw [u2_ne (by omega), u3_ne (by rintro ⟨-, w, -⟩; exact zy w)]
          exact hH j z qj hz
  exact loop1 p (Nat.le_refl _) F C (fun _ _ _ _ => rfl) (fun _ _ => rfl) (fun j y hj hy => by
    rw [mvI_self hp] at hy
    exact ⟨(o4 j y hy).1, (o4 j y hy).2.1⟩)
theorem c_Pi_shift {O : List Nat} {p t : Nat} {b : Int32} {th : Nat → Bool} (hP : PE E) (hO : OO O F C E) (hT : TH th F C E) (ht : ∀ k, k < 160 → (th k = true ↔ k ∈ O)) (hp : O[p]? = some t) (hb : b = -1 ∨ ∃ k, k < 160 ∧ b = nI k ∧ k ≠ t) (hq : ∀ (F' : CF) (C' : CC), (∀ a i k, ¬ (a = 20 ∧ k = 6) → F' a i k = F a i k) → (∀ a, a ≠ 12 → C' a = C a) → OO (mvL O t b) F' C' E → Q none (cH F' B C' Wr E r)) : X M_Pi_shift (rmo M_Pi_shift 0 0) (Zm Q 0 0) 0 (ini M_Pi_shift [.inr (some (5, 0)), .inr (some (20, t)), .inl b]) [] (cH F B C Wr E r) 0 0 := by
  have h5 := hP.1
  have hpl := (List.getElem?_eq_some_iff.mp hp).1
  have o2 := hO.2.1
  have o3 := hO.2.2.1
  have tO : t ∈ O := List.mem_of_getElem? hp
  obtain ⟨-, t6, t20, t160⟩ := hO.2.2.2 p t hp
  have fin : ∀ q, q < O.length → q = mvT O t b → ∀ (F' : CF) (C' : CC), (∀ a i k, ¬ (a = 20 ∧ k = 6) → F' a i k = F a i k) → (∀ a, a ≠ 12 → C' a = C a) → OO (mvI O p t q) F' C' E → Q none (cH F' B C' Wr E r) := fun q hq1 hq2 F' C' x1 x2 x3 => hq F' C' x1 x2 (by rw [mvI_mvL o3 hp, ← hq2]; exact x3)
  show X M_Pi_shift _ _ 0 [some (.inr (some (5, 0))), some (.inr (some (20, t))), some (.inl (b)), none] [] (cH F B C Wr E r) 0 0
  refine X_run 2 (pc' := 2) (L' := [some (.inr (some (5, 0))), some (.inr (some (20, t))), some (.inl (b)), none]) (st' := [.inl (-1), .inl (b)]) rfl ?_
  refine X_ic_ne (tgt := 12) (nx := 5) rfl rfl rfl (fun h1 => ?_) (fun h1 => ?_)
  · rcases hb with hb | ⟨k, hk, ek, kt⟩
    · exact absurd hb h1
    have bc : b.toNatClampNeg = k := by rw [ek, nI_clamp (by omega)]
    have bn : b ≠ -1 := h1
    refine X_eq (L' := [some (.inr (some (5, 0))), some (.inr (some (20, t))), some (.inl (nI k)), none]) (congrArg (fun zz9 : Int32 => ([some (.inr (some (5, 0))), some (.inr (some (20, t))), some (.inl zz9), none] : List (Option AV))) (ek)) rfl rfl ?_
    refine X_run 2 (pc' := 14) (L' := [some (.inr (some (5, 0))), some (.inr (some (20, t))), some (.inl (nI k)), none]) (st' := [.inl (nI k), .inr (some (5, 0))]) rfl ?_
    refine X_callV (vs := [.inl (nI k)]) (st := []) (mc := 0) (ms := 0) rfl ok_Pi_find v_Pi_140 (cH_obj rfl (by assumption)) rfl rfl (Nat.le_of_ble_eq_true rfl) (Nat.le_of_ble_eq_true rfl) (Nat.le_of_ble_eq_true rfl) (Nat.le_of_ble_eq_true rfl) (Nat.le_of_ble_eq_true rfl) (Nat.le_of_ble_eq_true rfl) rfl ?_
    refine c_Pi_find1 hP hT hk (fun hth => ?_) (fun hth => ?_)
    · show X M_Pi_shift _ _ 17 [some (.inr (some (5, 0))), some (.inr (some (20, t))), some (.inl (nI k)), none] [.inr (some (20, k))] (cH F B C Wr E r) 0 0
      have kO := (ht k hk).mp hth
      obtain ⟨j, hj⟩ := mem_idx kO
      obtain ⟨-, k6, k20, -⟩ := hO.2.2.2 j k hj
      have hjl := (List.getElem?_eq_some_iff.mp hj).1
      have jp : j ≠ p := fun z => kt (by rw [z, hp] at hj; cases hj; rfl)
      have kP : k ∈ mvP O t := (mvP_mem o3 tO).mpr ⟨kO, kt⟩
      have mT : mvT O t b = (if j < p then j + 1 else j) := by
        unfold mvT
        rw [if_neg bn, bc, if_pos kP]
        have hN := mvP_nodup (t := t) o3
        have e : (mvP O t)[if j < p then j else j - 1]? = some k := by
          rw [mvP_get, idx_of o3 hp]
          by_cases q : j < p
          · rw [if_pos q, if_pos q]
            exact hj
          · rw [if_neg q, if_neg (by omega), show j - 1 + 1 = j by omega]
            exact hj
        rw [idx_of hN e]
        split <;> omega
      refine X_run 2 (pc' := 19) (L' := [some (.inr (some (5, 0))), some (.inr (some (20, t))), some (.inl (nI k)), some (.inr (some (20, k)))]) (st' := [.inr (some (20, k))]) rfl ?_
      refine X_ifnonnull (tgt := 36) (nx := 22) rfl rfl rfl (fun nn h2 => ?_) (fun h2 => ?_)
      · refine X_run 3 (pc' := 39) (L' := [some (.inr (some (5, 0))), some (.inr (some (20, t))), some (.inl (nI k)), some (.inr (some (20, k)))]) (st' := [.inr (some (20, k)), .inr (some (20, t)), .inr (some (5, 0))]) rfl ?_
        refine XC_get (a := 20) (i := k) (v := .inl (F 20 k 6)) rfl f_Pi_137 ⟨rfl, rfl⟩ (by assumption) rfl rfl ?_
        refine X_eq (st' := [.inl (nI j), .inr (some (20, t)), .inr (some (5, 0))]) rfl (congrArg (fun zz9 => Sum.inl zz9 :: _) (k6)) rfl ?_
        refine X_run 1 (pc' := 43) (L' := [some (.inr (some (5, 0))), some (.inr (some (20, t))), some (.inl (nI k)), some (.inr (some (20, k)))]) (st' := [.inr (some (20, t)), .inl (nI j), .inr (some (20, t)), .inr (some (5, 0))]) rfl ?_
        refine XC_get (a := 20) (i := t) (v := .inl (F 20 t 6)) rfl f_Pi_137 ⟨rfl, rfl⟩ (by assumption) rfl rfl ?_
        refine X_eq (st' := [.inl (nI p), .inl (nI j), .inr (some (20, t)), .inr (some (5, 0))]) rfl (congrArg (fun zz9 => Sum.inl zz9 :: _) (t6)) rfl ?_
        refine X_ic_ge (tgt := 58) (nx := 49) rfl rfl rfl (fun h3 => ?_) (fun h3 => ?_)
        · have h3 := li_le (by omega) (by omega) h3
          refine X_run 1 (pc' := 59) (L' := [some (.inr (some (5, 0))), some (.inr (some (20, t))), some (.inl (nI k)), some (.inr (some (20, k)))]) (st' := [.inr (some (20, k)), .inr (some (20, t)), .inr (some (5, 0))]) rfl ?_
          refine XC_get (a := 20) (i := k) (v := .inl (F 20 k 6)) rfl f_Pi_137 ⟨rfl, rfl⟩ (by assumption) rfl rfl ?_
          refine X_eq (st' := [.inl (nI j), .inr (some (20, t)), .inr (some (5, 0))]) rfl (congrArg (fun zz9 => Sum.inl zz9 :: _) (k6)) rfl ?_
          refine X_callV (vs := [.inr (some (20, t)), .inl (nI j)]) (st := []) (mc := 0) (ms := 0) rfl ok_Pi_slide v_Pi_165 (cH_obj rfl (by assumption)) rfl rfl (Nat.le_of_ble_eq_true rfl) (Nat.le_of_ble_eq_true rfl) (Nat.le_of_ble_eq_true rfl) (Nat.le_of_ble_eq_true rfl) (Nat.le_of_ble_eq_true rfl) (Nat.le_of_ble_eq_true rfl) rfl ?_
          refine c_Pi_slide hP hO hp hjl (fun F' C' x1 x2 x3 => ?_)
          show X M_Pi_shift _ _ 65 [some (.inr (some (5, 0))), some (.inr (some (20, t))), some (.inl (nI k)), some (.inr (some (20, k)))] [] (cH F' B C' Wr E r) 0 0
          exact X_vret rfl rfl (Nat.le_refl _) (Nat.le_refl _) (fin j hjl (by rw [mT, if_neg (by omega)]) F' C' x1 x2 x3)
        · have h3 := li_nle (by omega) (by omega) h3
          refine X_run 1 (pc' := 50) (L' := [some (.inr (some (5, 0))), some (.inr (some (20, t))), some (.inl (nI k)), some (.inr (some (20, k)))]) (st' := [.inr (some (20, k)), .inr (some (20, t)), .inr (some (5, 0))]) rfl ?_
          refine XC_get (a := 20) (i := k) (v := .inl (F 20 k 6)) rfl f_Pi_137 ⟨rfl, rfl⟩ (by assumption) rfl rfl ?_
          refine X_eq (st' := [.inl (nI j), .inr (some (20, t)), .inr (some (5, 0))]) rfl (congrArg (fun zz9 => Sum.inl zz9 :: _) (k6)) rfl ?_
          refine X_run 3 (pc' := 62) (L' := [some (.inr (some (5, 0))), some (.inr (some (20, t))), some (.inl (nI k)), some (.inr (some (20, k)))]) (st' := [.inl ((nI j) + 1), .inr (some (20, t)), .inr (some (5, 0))]) rfl ?_
          refine X_eq (st' := [.inl (nI (j + 1)), .inr (some (20, t)), .inr (some (5, 0))]) rfl (congrArg (fun zz9 => Sum.inl zz9 :: _) (by first | rfl | exact congrArg nI (by omega) | (simp only [il_0, il_1, il_2, il_3, il_4, il_5, il_6, il_7, il_16, il_20, il_40, il_160, pk_mul, nI_add]; done) | (simp only [il_0, il_1, il_2, il_3, il_4, il_5, il_6, il_7, il_16, il_20, il_40, il_160, pk_mul, nI_add]; exact congrArg nI (by omega)))) rfl ?_
          refine X_callV (vs := [.inr (some (20, t)), .inl (nI (j + 1))]) (st := []) (mc := 0) (ms := 0) rfl ok_Pi_slide v_Pi_165 (cH_obj rfl (by assumption)) rfl rfl (Nat.le_of_ble_eq_true rfl) (Nat.le_of_ble_eq_true rfl) (Nat.le_of_ble_eq_true rfl) (Nat.le_of_ble_eq_true rfl) (Nat.le_of_ble_eq_true rfl) (Nat.le_of_ble_eq_true rfl) rfl ?_
          refine c_Pi_slide hP hO hp (show j + 1 < O.length by omega) (fun F' C' x1 x2 x3 => ?_)
          show X M_Pi_shift _ _ 65 [some (.inr (some (5, 0))), some (.inr (some (20, t))), some (.inl (nI k)), some (.inr (some (20, k)))] [] (cH F' B C' Wr E r) 0 0
          exact X_vret rfl rfl (Nat.le_refl _) (Nat.le_refl _) (fin (j + 1) (by omega) (by rw [mT, if_pos h3]) F' C' x1 x2 x3)
      · cases h2
    · show X M_Pi_shift _ _ 17 [some (.inr (some (5, 0))), some (.inr (some (20, t))), some (.inl (nI k)), none] [.inr none] (cH F B C Wr E r) 0 0
      have kO : k ∉ O := fun z => by
        rw [(ht k hk).mpr z] at hth
        cases hth
      have kP : k ∉ mvP O t := fun z => kO (mvP_sub z)
      refine X_run 2 (pc' := 19) (L' := [some (.inr (some (5, 0))), some (.inr (some (20, t))), some (.inl (nI k)), some (.inr none)]) (st' := [.inr none]) rfl ?_
      refine X_ifnonnull (tgt := 36) (nx := 22) rfl rfl rfl (fun nn h2 => ?_) (fun h2 => ?_)
      · cases h2
      · refine X_run 3 (pc' := 25) (L' := [some (.inr (some (5, 0))), some (.inr (some (20, t))), some (.inl (nI k)), some (.inr none)]) (st' := [.inr (some (5, 0)), .inr (some (20, t)), .inr (some (5, 0))]) rfl ?_
        refine XC_get (a := 5) (i := 0) (v := .inl (F 5 0 7)) rfl f_Pi_38 ⟨rfl, rfl⟩ (by assumption) rfl rfl ?_
        refine X_eq (st' := [.inl (nI O.length), .inr (some (20, t)), .inr (some (5, 0))]) rfl (congrArg (fun zz9 => Sum.inl zz9 :: _) (hO.1)) rfl ?_
        refine X_run 2 (pc' := 30) (L' := [some (.inr (some (5, 0))), some (.inr (some (20, t))), some (.inl (nI k)), some (.inr none)]) (st' := [.inl ((nI O.length) - 1), .inr (some (20, t)), .inr (some (5, 0))]) rfl ?_
        refine X_eq (st' := [.inl (nI (O.length - 1)), .inr (some (20, t)), .inr (some (5, 0))]) rfl (congrArg (fun zz9 => Sum.inl zz9 :: _) ((pk_sub (b := 1) (by omega)))) rfl ?_
        refine X_callV (vs := [.inr (some (20, t)), .inl (nI (O.length - 1))]) (st := []) (mc := 0) (ms := 0) rfl ok_Pi_slide v_Pi_165 (cH_obj rfl (by assumption)) rfl rfl (Nat.le_of_ble_eq_true rfl) (Nat.le_of_ble_eq_true rfl) (Nat.le_of_ble_eq_true rfl) (Nat.le_of_ble_eq_true rfl) (Nat.le_of_ble_eq_true rfl) (Nat.le_of_ble_eq_true rfl) rfl ?_
        refine c_Pi_slide hP hO hp (show O.length - 1 < O.length by omega) (fun F' C' x1 x2 x3 => ?_)
        show X M_Pi_shift _ _ 33 [some (.inr (some (5, 0))), some (.inr (some (20, t))), some (.inl (nI k)), some (.inr none)] [] (cH F' B C' Wr E r) 0 0
        refine X_run 1 (pc' := 65) (L' := [some (.inr (some (5, 0))), some (.inr (some (20, t))), some (.inl (nI k)), some (.inr none)]) (st' := []) rfl ?_
        exact X_vret rfl rfl (Nat.le_refl _) (Nat.le_refl _) (fin (O.length - 1) (by omega) (by unfold mvT; rw [if_neg bn, bc, if_neg kP, mvP_len tO]) F' C' x1 x2 x3)
  · refine X_run 3 (pc' := 8) (L' := [some (.inr (some (5, 0))), some (.inr (some (20, t))), some (.inl (b)), none]) (st' := [.inl (0), .inr (some (20, t)), .inr (some (5, 0))]) rfl ?_
    refine X_eq (st' := [.inl (nI (0)), .inr (some (20, t)), .inr (some (5, 0))]) rfl (congrArg (fun zz9 : Int32 => ([.inl zz9, .inr (some (20, t)), .inr (some (5, 0))] : List AV)) (by first | rfl | exact congrArg nI (by omega) | (simp only [il_0, il_1, il_2, il_3, il_4, il_5, il_6, il_7, il_16, il_20, il_40, il_160, pk_mul, nI_add]; done) | (simp only [il_0, il_1, il_2, il_3, il_4, il_5, il_6, il_7, il_16, il_20, il_40, il_160, pk_mul, nI_add]; exact congrArg nI (by omega)))) rfl ?_
    refine X_callV (vs := [.inr (some (20, t)), .inl (nI (0))]) (st := []) (mc := 0) (ms := 0) rfl ok_Pi_slide v_Pi_165 (cH_obj rfl (by assumption)) rfl rfl (Nat.le_of_ble_eq_true rfl) (Nat.le_of_ble_eq_true rfl) (Nat.le_of_ble_eq_true rfl) (Nat.le_of_ble_eq_true rfl) (Nat.le_of_ble_eq_true rfl) (Nat.le_of_ble_eq_true rfl) rfl ?_
    refine c_Pi_slide hP hO hp (show 0 < O.length by omega) (fun F' C' x1 x2 x3 => ?_)
    show X M_Pi_shift _ _ 11 [some (.inr (some (5, 0))), some (.inr (some (20, t))), some (.inl (b)), none] [] (cH F' B C' Wr E r) 0 0
    exact X_vret rfl rfl (Nat.le_refl _) (Nat.le_refl _) (fin 0 (by omega) (by unfold mvT; rw [if_pos h1]) F' C' x1 x2 x3)
end

