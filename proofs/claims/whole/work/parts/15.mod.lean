/-! the model's places and moves -/
/-- the model's order of things -/
def OR (O : List Nat) (I : Nat → Int32) (A : Nat → Nat → Int32) : Prop := I 17 = nI O.length ∧ O.length ≤ 160 ∧ O.Nodup ∧ ∀ (k x : Nat), O[k]? = some x → A 18 k = nI x ∧ x < 160
/-- a thing out of the order and behind another; b: that one's number, or -1 -/
def mvP (O : List Nat) (t : Nat) : List Nat := O.eraseIdx (O.idxOf t)
def mvT (O : List Nat) (t : Nat) (b : Int32) : Nat := if b = -1 then 0 else if b.toNatClampNeg ∈ mvP O t then (mvP O t).idxOf b.toNatClampNeg + 1 else (mvP O t).length
def mvL (O : List Nat) (t : Nat) (b : Int32) : List Nat := (mvP O t).insertIdx (mvT O t b) t
theorem idx_of {O : List Nat} (hO : O.Nodup) {j x : Nat} (h : O[j]? = some x) : O.idxOf x = j := by
  induction O generalizing j with
  | nil => simp at h
  | cons a l ih =>
    rw [List.nodup_cons] at hO
    cases j with
    | zero =>
      simp at h
      rw [h, List.idxOf_cons_self]
    | succ j =>
      have h2 : l[j]? = some x := by simpa using h
      have hne : a ≠ x := fun q => hO.1 (by rw [q]; exact List.mem_of_getElem? h2)
      rw [List.idxOf_cons, show (a == x) = false by simpa using hne, cond_false, ih hO.2 h2]
theorem mem_idx {O : List Nat} {x : Nat} (h : x ∈ O) : ∃ j : Nat, O[j]? = some x := List.getElem?_of_mem h
theorem nod_inj {O : List Nat} (hO : O.Nodup) {i j x : Nat} (hi : O[i]? = some x) (hj : O[j]? = some x) : i = j := by
  rw [← idx_of hO hi, ← idx_of hO hj]
theorem mvP_get (O : List Nat) (t j : Nat) : (mvP O t)[j]? = if j < O.idxOf t then O[j]? else O[j + 1]? := by
  unfold mvP
  rw [List.getElem?_eraseIdx]
theorem mvP_len {O : List Nat} {t : Nat} (h : t ∈ O) : (mvP O t).length = O.length - 1 := by
  unfold mvP
  rw [List.length_eraseIdx_of_lt (List.idxOf_lt_length_of_mem h)]
theorem mvT_le {O : List Nat} {t : Nat} {b : Int32} : mvT O t b ≤ (mvP O t).length := by
  unfold mvT
  split
  · omega
  · split
    · rename_i h
      have := List.idxOf_lt_length_of_mem h
      omega
    · omega
theorem mvP_nodup {O : List Nat} {t : Nat} (hO : O.Nodup) : (mvP O t).Nodup := List.Sublist.nodup (List.eraseIdx_sublist _ _) hO
theorem mvP_sub {O : List Nat} {t x : Nat} (h : x ∈ mvP O t) : x ∈ O := (List.eraseIdx_sublist _ _).subset h
theorem mvP_not {O : List Nat} {t : Nat} (hO : O.Nodup) (ht : t ∈ O) : t ∉ mvP O t := by
  intro h
  obtain ⟨j, hj⟩ := mem_idx h
  rw [mvP_get] at hj
  obtain ⟨i, hi⟩ := mem_idx ht
  have e := idx_of hO hi
  split at hj
  · have := nod_inj hO hj hi
    omega
  · have := nod_inj hO hj hi
    omega
theorem mvP_mem {O : List Nat} {t x : Nat} (hO : O.Nodup) (ht : t ∈ O) : x ∈ mvP O t ↔ x ∈ O ∧ x ≠ t := by
  constructor
  · intro h
    exact ⟨mvP_sub h, fun q => mvP_not hO ht (q ▸ h)⟩
  · rintro ⟨h1, h2⟩
    obtain ⟨j, hj⟩ := mem_idx h1
    obtain ⟨i, hi⟩ := mem_idx ht
    have e := idx_of hO hi
    rcases Nat.lt_trichotomy j i with q | q | q
    · exact List.mem_of_getElem? (i := j) (by rw [mvP_get, e, if_pos q]; exact hj)
    · rw [q, hi] at hj
      cases hj
      exact absurd rfl h2
    · exact List.mem_of_getElem? (i := j - 1) (by rw [mvP_get, e, if_neg (by omega), show j - 1 + 1 = j by omega]; exact hj)
theorem mvL_len {O : List Nat} {t : Nat} {b : Int32} (h : t ∈ O) : (mvL O t b).length = O.length := by
  have h0 : 0 < O.length := List.length_pos_of_mem h
  unfold mvL
  rw [List.length_insertIdx_of_le_length mvT_le, mvP_len h]
  omega
theorem mvL_get (O : List Nat) (t : Nat) (b : Int32) (j : Nat) : (mvL O t b)[j]? = if j < mvT O t b then (mvP O t)[j]? else if j = mvT O t b then some t else (mvP O t)[j - 1]? := by
  unfold mvL
  rw [List.getElem?_insertIdx]
  have := mvT_le (O := O) (t := t) (b := b)
  split
  · rfl
  · split
    · rename_i h
      rw [if_pos (by omega)]
    · rfl
theorem mvL_mem {O : List Nat} {t x : Nat} {b : Int32} (hO : O.Nodup) (ht : t ∈ O) : x ∈ mvL O t b ↔ x ∈ O := by
  unfold mvL
  rw [List.mem_insertIdx mvT_le, mvP_mem hO ht]
  constructor
  · rintro (h | h)
    · rw [h]; exact ht
    · exact h.1
  · intro h
    by_cases q : x = t
    · exact Or.inl q
    · exact Or.inr ⟨h, q⟩
theorem insertIdx_nodup {l : List Nat} {x : Nat} (hl : l.Nodup) (hx : x ∉ l) : ∀ {i : Nat}, i ≤ l.length → (l.insertIdx i x).Nodup := by
  induction l with
  | nil =>
    intro i hi
    simp at hi
    subst hi
    simp
  | cons a r ih =>
    intro i hi
    rw [List.nodup_cons] at hl
    cases i with
    | zero => rw [List.insertIdx_zero, List.nodup_cons]; exact ⟨hx, List.nodup_cons.mpr hl⟩
    | succ i =>
      have hi2 : i ≤ r.length := by simpa using hi
      rw [List.insertIdx_succ_cons, List.nodup_cons]
      refine ⟨fun h => ?_, ih hl.2 (fun q => hx (List.mem_cons_of_mem _ q)) hi2⟩
      rcases (List.mem_insertIdx hi2).mp h with q | q
      · exact hx (by rw [← q]; exact List.mem_cons_self)
      · exact hl.1 q
theorem mvL_nodup {O : List Nat} {t : Nat} {b : Int32} (hO : O.Nodup) (ht : t ∈ O) : (mvL O t b).Nodup := insertIdx_nodup (mvP_nodup hO) (mvP_not hO ht) mvT_le
section
variable {g : AH} {I : Nat → Int32} {A : Nat → Nat → Int32} {Q : Option AV → AH → Prop}
theorem c_Mo_placeOf {b n : Nat} {O : List Nat} (hn : n = O.length) (hI : I 17 = nI n) (hO : n ≤ 160) (hA : ∀ (k x : Nat), O[k]? = some x → A 18 k = nI x ∧ x < 160) (hb : b < 160) (hq : ∀ r : Int32, ((∃ j : Nat, O[j]? = some b ∧ r = nI j) ∨ ((∀ j : Nat, O[j]? ≠ some b) ∧ r = -1)) → Q (some (.inl r)) (mH g I A)) : X M_Mo_placeOf (rmo M_Mo_placeOf 0 0) (Zm Q 0 0) 0 (ini M_Mo_placeOf [mo, .inl (nI b)]) [] (mH g I A) 0 0 := by
  show X M_Mo_placeOf _ _ 0 [some (.inr (some (10, 0))), some (.inl (nI b)), none, none] [] (mH g I A) 0 0
  refine X_run 4 (pc' := 4) (L' := [some (.inr (some (10, 0))), some (.inl (nI b)), some (.inl (-1)), some (.inl (0))]) (st' := []) rfl ?_
  refine X_eq (L' := [some (.inr (some (10, 0))), some (.inl (nI b)), some (.inl (-1)), some (.inl (nI (0)))]) (congrArg (fun z : Int32 => ([some (.inr (some (10, 0))), some (.inl (nI b)), some (.inl (-1)), some (.inl z)] : List (Option AV))) (by first | rfl | (simp only [il_0, il_1, il_2, il_3, il_4, il_5, il_6, il_7, il_16, il_20, il_40, il_160, pk_mul, nI_add]; done) | (simp only [il_0, il_1, il_2, il_3, il_4, il_5, il_6, il_7, il_16, il_20, il_40, il_160, pk_mul, nI_add]; exact congrArg nI (by omega)))) rfl rfl ?_
  refine up_ind n (fun i => ∀ r : Int32, ((∃ j : Nat, O[j]? = some b ∧ r = nI j) ∨ ((∀ j : Nat, j < i → O[j]? ≠ some b) ∧ r = -1)) → X M_Mo_placeOf (rmo M_Mo_placeOf 0 0) (Zm Q 0 0) 4 [some (.inr (some (10, 0))), some (.inl (nI b)), some (.inl r), some (.inl (nI i))] [] (mH g I A) 0 0) ?_ 0 (by omega) _ (Or.inr ⟨fun j hj => by omega, rfl⟩)
  intro i hi ih r inv
  refine X_run 2 (pc' := 6) (L' := [some (.inr (some (10, 0))), some (.inl (nI b)), some (.inl (r)), some (.inl (nI i))]) (st' := [.inr (some (10, 0)), .inl (nI i)]) rfl ?_
  refine XM_get (v := .inl (I 17)) rfl f_Mo_94 rfl rfl ?_
  refine X_eq (st' := [.inl (nI n), .inl (nI i)]) rfl (congrArg (fun z => Sum.inl z :: _) hI) rfl ?_
  refine X_ic_ge (tgt := 34) (nx := 12) rfl rfl rfl (fun h1 => ?_) (fun h1 => ?_)
  · have h1 := li_le (by omega) (by omega) h1
    refine X_run 1 (pc' := 35) (L' := [some (.inr (some (10, 0))), some (.inl (nI b)), some (.inl (r)), some (.inl (nI i))]) (st' := [.inl (r)]) rfl ?_
    exact X_iret rfl rfl rfl (Nat.le_refl _) (Nat.le_refl _) (hq r (by
      rcases inv with q | ⟨q1, q2⟩
      · exact Or.inl q
      · refine Or.inr ⟨fun j hj => ?_, q2⟩
        exact q1 j (by have := (List.getElem?_eq_some_iff.mp hj).1; omega) hj))
  · have h1 := li_nle (by omega) (by omega) h1
    obtain ⟨x, hx⟩ : ∃ x, O[i]? = some x := ⟨_, List.getElem?_eq_getElem (by omega)⟩
    obtain ⟨ea, hx2⟩ := hA i x hx
    refine X_run 1 (pc' := 13) (L' := [some (.inr (some (10, 0))), some (.inl (nI b)), some (.inl (r)), some (.inl (nI i))]) (st' := [.inr (some (10, 0))]) rfl ?_
    refine XM_get (v := .inr (some (11, 18))) rfl f_Mo_54 rfl rfl ?_
    refine X_run 1 (pc' := 17) (L' := [some (.inr (some (10, 0))), some (.inl (nI b)), some (.inl (r)), some (.inl (nI i))]) (st' := [.inl (nI i), .inr (some (11, 18))]) rfl ?_
    refine XM_ald (k := 18) (i := i) rfl (by decide) (by simp only [mln]; omega) rfl ?_
    refine X_eq (st' := [.inl (nI x)]) rfl (congrArg (fun z => Sum.inl z :: _) ea) rfl ?_
    refine X_run 1 (pc' := 19) (L' := [some (.inr (some (10, 0))), some (.inl (nI b)), some (.inl (r)), some (.inl (nI i))]) (st' := [.inl (nI b), .inl (nI x)]) rfl ?_
    refine X_ic_ne (tgt := 26) (nx := 22) rfl rfl rfl (fun h2 => ?_) (fun h2 => ?_)
    · have h2 := li_ne h2
      refine X_run 4 (pc' := 4) (L' := [some (.inr (some (10, 0))), some (.inl (nI b)), some (.inl (r)), some (.inl (nI i + 1))]) (st' := []) rfl ?_
      refine X_eq (L' := [some (.inr (some (10, 0))), some (.inl (nI b)), some (.inl (r)), some (.inl (nI (i + 1)))]) (congrArg (fun z : Int32 => ([some (.inr (some (10, 0))), some (.inl (nI b)), some (.inl (r)), some (.inl z)] : List (Option AV))) (by first | rfl | (simp only [il_0, il_1, il_2, il_3, il_4, il_5, il_6, il_7, il_16, il_20, il_40, il_160, pk_mul, nI_add]; done) | (simp only [il_0, il_1, il_2, il_3, il_4, il_5, il_6, il_7, il_16, il_20, il_40, il_160, pk_mul, nI_add]; exact congrArg nI (by omega)))) rfl rfl ?_
      refine ih h1 r ?_
      rcases inv with q | ⟨q1, q2⟩
      · exact Or.inl q
      · refine Or.inr ⟨fun j hj hjb => ?_, q2⟩
        by_cases e : j = i
        · rw [e, hx] at hjb
          cases hjb
          exact h2 rfl
        · exact q1 j (by omega) hjb
    · have h2 := li_eq (by omega) (by omega) h2
      refine X_run 5 (pc' := 4) (L' := [some (.inr (some (10, 0))), some (.inl (nI b)), some (.inl (nI i)), some (.inl (nI i + 1))]) (st' := []) rfl ?_
      refine X_eq (L' := [some (.inr (some (10, 0))), some (.inl (nI b)), some (.inl (nI i)), some (.inl (nI (i + 1)))]) (congrArg (fun z : Int32 => ([some (.inr (some (10, 0))), some (.inl (nI b)), some (.inl (nI i)), some (.inl z)] : List (Option AV))) (by first | rfl | (simp only [il_0, il_1, il_2, il_3, il_4, il_5, il_6, il_7, il_16, il_20, il_40, il_160, pk_mul, nI_add]; done) | (simp only [il_0, il_1, il_2, il_3, il_4, il_5, il_6, il_7, il_16, il_20, il_40, il_160, pk_mul, nI_add]; exact congrArg nI (by omega)))) rfl rfl ?_
      exact ih h1 _ (Or.inl ⟨i, by rw [← h2]; exact hx, rfl⟩)
theorem c_Mo_moves {t : Nat} {b : Int32} {O : List Nat} (hO : OR O I A) (ht : t ∈ O) (hb : b = -1 ∨ ∃ k, k < 160 ∧ b = nI k)
    (hq : ∀ (I' : Nat → Int32) (A' : Nat → Nat → Int32), (∀ k, k ≠ 17 → I' k = I k) → (∀ k, k ≠ 18 → A' k = A k) → OR (mvL O t b) I' A' → Q none (mH g I' A')) : X M_Mo_moves (rmo M_Mo_moves 0 0) (Zm Q 0 0) 0 (ini M_Mo_moves [mo, .inl (nI t), .inl b]) [] (mH g I A) 0 0 := by
  obtain ⟨hI, hO1, hO2, hA⟩ := hO
  obtain ⟨j0, hj0⟩ := mem_idx ht
  have ht2 := (hA j0 t hj0).2
  have hlen : 0 < O.length := List.length_pos_of_mem ht
  have hPl := mvP_len ht
  show X M_Mo_moves _ _ 0 [some (.inr (some (10, 0))), some (.inl (nI t)), some (.inl (b)), none, none, none] [] (mH g I A) 0 0
  refine X_run 2 (pc' := 2) (L' := [some (.inr (some (10, 0))), some (.inl (nI t)), some (.inl (b)), none, none, none]) (st' := [.inl (nI t), .inr (some (10, 0))]) rfl ?_
  refine X_callV (vs := [.inl (nI t)]) (st := []) (mc := 0) (ms := 0) rfl ok_Mo_placeOf v_Mo_111 rfl rfl rfl (Nat.le_of_ble_eq_true rfl) (Nat.le_of_ble_eq_true rfl) (Nat.le_of_ble_eq_true rfl) (Nat.le_of_ble_eq_true rfl) (Nat.le_of_ble_eq_true rfl) (Nat.le_of_ble_eq_true rfl) rfl ?_
  refine c_Mo_placeOf rfl hI hO1 hA ht2 (fun r hr => ?_)
  show X M_Mo_moves _ _ 5 [some (.inr (some (10, 0))), some (.inl (nI t)), some (.inl (b)), none, none, none] [.inl (r)] (mH g I A) 0 0
  obtain ⟨f, hf, rfl⟩ : ∃ f : Nat, O[f]? = some t ∧ r = nI f := by
    rcases hr with q | ⟨q, -⟩
    · exact q
    · exact absurd hj0 (q j0)
  have ef := idx_of hO2 hf
  have hfl : f < O.length := (List.getElem?_eq_some_iff.mp hf).1
  refine X_run 3 (pc' := 9) (L' := [some (.inr (some (10, 0))), some (.inl (nI t)), some (.inl (b)), some (.inl (nI f)), some (.inl (nI f)), none]) (st' := []) rfl ?_
  -- the tail one place forward
  refine up_ind (O.length - 1) (fun i => f ≤ i → ∀ A' : Nat → Nat → Int32, (∀ k, k ≠ 18 → A' k = A k) → (∀ j, A' 18 j = if f ≤ j ∧ j < i then A 18 (j + 1) else A 18 j) → X M_Mo_moves (rmo M_Mo_moves 0 0) (Zm Q 0 0) 9 [some (.inr (some (10, 0))), some (.inl (nI t)), some (.inl b), some (.inl (nI f)), some (.inl (nI i)), none] [] (mH g I A') 0 0) ?_ f (by omega) (Nat.le_refl f) A (fun _ _ => rfl) (fun j => by rw [if_neg (by omega)])
  intro i hi ih hfi A' hk' ha'
  refine X_run 2 (pc' := 12) (L' := [some (.inr (some (10, 0))), some (.inl (nI t)), some (.inl (b)), some (.inl (nI f)), some (.inl (nI i)), none]) (st' := [.inr (some (10, 0)), .inl (nI i)]) rfl ?_
  refine XM_get (v := .inl (I 17)) rfl f_Mo_94 rfl rfl ?_
  refine X_run 2 (pc' := 17) (L' := [some (.inr (some (10, 0))), some (.inl (nI t)), some (.inl (b)), some (.inl (nI f)), some (.inl (nI i)), none]) (st' := [.inl ((I 17) - 1), .inl (nI i)]) rfl ?_
  refine X_eq (st' := [.inl (nI (O.length - 1)), .inl (nI i)]) rfl (congrArg (fun z => Sum.inl z :: _) (by rw [hI, il_1, pk_sub (by omega)])) rfl ?_
  refine X_ic_ge (tgt := 42) (nx := 20) rfl rfl rfl (fun h1 => ?_) (fun h1 => ?_)
  · have h1 := li_le (by omega) (by omega) h1
    have e : i = O.length - 1 := by omega
    -- now the order is mvP O t
    have hP : ∀ (k x : Nat), (mvP O t)[k]? = some x → A' 18 k = nI x ∧ x < 160 := by
      intro k x hk
      have hkl : k < O.length - 1 := by rw [← hPl]; exact (List.getElem?_eq_some_iff.mp hk).1
      rw [mvP_get, ef] at hk
      rw [ha']
      split at hk
      · rw [if_neg (by omega)]
        exact hA k x hk
      · rw [if_pos (by omega)]
        exact hA (k + 1) x hk
    refine X_run 2 (pc' := 44) (L' := [some (.inr (some (10, 0))), some (.inl (nI t)), some (.inl (b)), some (.inl (nI f)), some (.inl (nI i)), none]) (st' := [.inr (some (10, 0)), .inr (some (10, 0))]) rfl ?_
    refine XM_get (v := .inl (I 17)) rfl f_Mo_94 rfl rfl ?_
    refine X_run 2 (pc' := 49) (L' := [some (.inr (some (10, 0))), some (.inl (nI t)), some (.inl (b)), some (.inl (nI f)), some (.inl (nI i)), none]) (st' := [.inl ((I 17) - 1), .inr (some (10, 0))]) rfl ?_
    refine X_eq (st' := [.inl (nI (O.length - 1)), .inr (some (10, 0))]) rfl (congrArg (fun z => Sum.inl z :: _) (by rw [hI, il_1, pk_sub (by omega)])) rfl ?_
    refine XM_put (k := 17) rfl f_Mo_94 (by decide) (by decide) rfl ?_
    have hI2 : (upd I 17 (nI (O.length - 1))) 17 = nI (mvP O t).length := by rw [hPl]; simp [upd]
    generalize hI2e : upd I 17 (nI (O.length - 1)) = I2 at hI2 ⊢
    have hIk : ∀ k, k ≠ 17 → I2 k = I k := fun k hk => by rw [← hI2e]; simp [upd, hk]
    -- behind the choice of the place
    have main : ∀ l4 : Option AV, X M_Mo_moves (rmo M_Mo_moves 0 0) (Zm Q 0 0) 83 [some (.inr (some (10, 0))), some (.inl (nI t)), some (.inl b), some (.inl (nI f)), l4, none] [.inl (nI (mvT O t b))] (mH g I2 A') 0 0 := by
      intro l4
      have hTl := mvT_le (O := O) (t := t) (b := b)
      refine X_run 2 (pc' := 86) (L' := [some (.inr (some (10, 0))), some (.inl (nI t)), some (.inl (b)), some (.inl (nI f)), some (.inl (nI (mvT O t b))), none]) (st' := [.inr (some (10, 0))]) rfl ?_
      refine XM_get (v := .inl (I2 17)) rfl f_Mo_94 rfl rfl ?_
      refine X_eq (st' := [.inl (nI (mvP O t).length)]) rfl (congrArg (fun z => Sum.inl z :: _) hI2) rfl ?_
      refine X_run 1 (pc' := 91) (L' := [some (.inr (some (10, 0))), some (.inl (nI t)), some (.inl (b)), some (.inl (nI f)), some (.inl (nI (mvT O t b))), some (.inl (nI (mvP O t).length))]) (st' := []) rfl ?_
      have loop : ∀ (m : Nat) (A2 : Nat → Nat → Int32), mvT O t b + m ≤ (mvP O t).length → (∀ k, k ≠ 18 → A2 k = A k) → (∀ j, A2 18 j = if mvT O t b + m < j ∧ j ≤ (mvP O t).length then A' 18 (j - 1) else A' 18 j) → X M_Mo_moves (rmo M_Mo_moves 0 0) (Zm Q 0 0) 91 [some (.inr (some (10, 0))), some (.inl (nI t)), some (.inl b), some (.inl (nI f)), some (.inl (nI (mvT O t b))), some (.inl (nI (mvT O t b + m)))] [] (mH g I2 A2) 0 0 := by
        intro m
        induction m with
        | zero =>
          intro A2 hm hk2 ha2
          refine X_run 2 (pc' := 95) (L' := [some (.inr (some (10, 0))), some (.inl (nI t)), some (.inl (b)), some (.inl (nI f)), some (.inl (nI (mvT O t b))), some (.inl (nI (mvT O t b + 0)))]) (st' := [.inl (nI (mvT O t b)), .inl (nI (mvT O t b + 0))]) rfl ?_
          refine X_ic_le (tgt := 120) (nx := 98) rfl rfl rfl (fun h2 => ?_) (fun h2 => ?_)
          · refine X_run 1 (pc' := 121) (L' := [some (.inr (some (10, 0))), some (.inl (nI t)), some (.inl (b)), some (.inl (nI f)), some (.inl (nI (mvT O t b))), some (.inl (nI (mvT O t b + 0)))]) (st' := [.inr (some (10, 0))]) rfl ?_
            refine XM_get (v := .inr (some (11, 18))) rfl f_Mo_54 rfl rfl ?_
            refine X_run 2 (pc' := 127) (L' := [some (.inr (some (10, 0))), some (.inl (nI t)), some (.inl (b)), some (.inl (nI f)), some (.inl (nI (mvT O t b))), some (.inl (nI (mvT O t b + 0)))]) (st' := [.inl (nI t), .inl (nI (mvT O t b)), .inr (some (11, 18))]) rfl ?_
            refine XM_ast (k := 18) (i := (mvT O t b)) rfl (by decide) (by simp only [mln]; omega) rfl ?_
            refine X_run 2 (pc' := 130) (L' := [some (.inr (some (10, 0))), some (.inl (nI t)), some (.inl (b)), some (.inl (nI f)), some (.inl (nI (mvT O t b))), some (.inl (nI (mvT O t b + 0)))]) (st' := [.inr (some (10, 0)), .inr (some (10, 0))]) rfl ?_
            refine XM_get (v := .inl (I2 17)) rfl f_Mo_94 rfl rfl ?_
            refine X_eq (st' := [.inl (nI (mvP O t).length), .inr (some (10, 0))]) rfl (congrArg (fun z => Sum.inl z :: _) hI2) rfl ?_
            refine X_run 2 (pc' := 135) (L' := [some (.inr (some (10, 0))), some (.inl (nI t)), some (.inl (b)), some (.inl (nI f)), some (.inl (nI (mvT O t b))), some (.inl (nI (mvT O t b + 0)))]) (st' := [.inl ((nI (mvP O t).length) + 1), .inr (some (10, 0))]) rfl ?_
            refine X_eq (st' := [.inl (nI ((mvP O t).length + 1)), .inr (some (10, 0))]) rfl (congrArg (fun z => Sum.inl z :: _) (nI_1 _)) rfl ?_
            refine XM_put (k := 17) rfl f_Mo_94 (by decide) (by decide) rfl ?_
            refine X_vret rfl rfl (Nat.le_refl _) (Nat.le_refl _) (hq _ _ (fun k hk => by simp only [upd, hk, if_false]; exact hIk k hk) (fun k hk => by funext j; rw [ua_k hk, hk2 k hk]) ?_)
            refine ⟨by rw [mvL_len ht, hPl, show O.length - 1 + 1 = O.length by omega]; simp [upd], by rw [mvL_len ht]; exact hO1, mvL_nodup hO2 ht, fun k x hk => ?_⟩
            rw [mvL_get] at hk
            by_cases q1 : k < mvT O t b
            · rw [if_pos q1] at hk
              rw [ua_i (by omega), ha2, if_neg (by omega)]
              exact hP k x hk
            · rw [if_neg q1] at hk
              by_cases q2 : k = mvT O t b
              · rw [if_pos q2] at hk
                cases hk
                rw [q2, ua_eq]
                exact ⟨rfl, ht2⟩
              · rw [if_neg q2] at hk
                have hkl := (List.getElem?_eq_some_iff.mp hk).1
                rw [ua_i q2, ha2, if_pos (by omega)]
                exact hP (k - 1) x hk
          · have h2 := li_nle (by omega) (by omega) h2
            omega
        | succ m ih2 =>
          intro A2 hm hk2 ha2
          refine X_run 2 (pc' := 95) (L' := [some (.inr (some (10, 0))), some (.inl (nI t)), some (.inl (b)), some (.inl (nI f)), some (.inl (nI (mvT O t b))), some (.inl (nI (mvT O t b + (m + 1))))]) (st' := [.inl (nI (mvT O t b)), .inl (nI (mvT O t b + (m + 1)))]) rfl ?_
          refine X_ic_le (tgt := 120) (nx := 98) rfl rfl rfl (fun h2 => ?_) (fun h2 => ?_)
          · have h2 := li_le (by omega) (by omega) h2
            omega
          · refine X_run 1 (pc' := 99) (L' := [some (.inr (some (10, 0))), some (.inl (nI t)), some (.inl (b)), some (.inl (nI f)), some (.inl (nI (mvT O t b))), some (.inl (nI (mvT O t b + (m + 1))))]) (st' := [.inr (some (10, 0))]) rfl ?_
            refine XM_get (v := .inr (some (11, 18))) rfl f_Mo_54 rfl rfl ?_
            refine X_run 2 (pc' := 105) (L' := [some (.inr (some (10, 0))), some (.inl (nI t)), some (.inl (b)), some (.inl (nI f)), some (.inl (nI (mvT O t b))), some (.inl (nI (mvT O t b + (m + 1))))]) (st' := [.inr (some (10, 0)), .inl (nI (mvT O t b + (m + 1))), .inr (some (11, 18))]) rfl ?_
            refine XM_get (v := .inr (some (11, 18))) rfl f_Mo_54 rfl rfl ?_
            refine X_run 3 (pc' := 112) (L' := [some (.inr (some (10, 0))), some (.inl (nI t)), some (.inl (b)), some (.inl (nI f)), some (.inl (nI (mvT O t b))), some (.inl (nI (mvT O t b + (m + 1))))]) (st' := [.inl ((nI (mvT O t b + (m + 1))) - 1), .inr (some (11, 18)), .inl (nI (mvT O t b + (m + 1))), .inr (some (11, 18))]) rfl ?_
            refine X_eq (st' := [.inl (nI (mvT O t b + m)), .inr (some (11, 18)), .inl (nI (mvT O t b + (m + 1))), .inr (some (11, 18))]) rfl (congrArg (fun z => Sum.inl z :: _) (by rw [il_1, pk_sub (by omega)]; exact congrArg nI (by omega))) rfl ?_
            refine XM_ald (k := 18) (i := (mvT O t b + m)) rfl (by decide) (by simp only [mln]; omega) rfl ?_
            refine XM_ast (k := 18) (i := (mvT O t b + (m + 1))) rfl (by decide) (by simp only [mln]; omega) rfl ?_
            refine X_run 2 (pc' := 91) (L' := [some (.inr (some (10, 0))), some (.inl (nI t)), some (.inl (b)), some (.inl (nI f)), some (.inl (nI (mvT O t b))), some (.inl (nI (mvT O t b + (m + 1)) + -1))]) (st' := []) rfl ?_
            refine X_eq (L' := [some (.inr (some (10, 0))), some (.inl (nI t)), some (.inl (b)), some (.inl (nI f)), some (.inl (nI (mvT O t b))), some (.inl (nI (mvT O t b + m)))]) (congrArg (fun z : Int32 => ([some (.inr (some (10, 0))), some (.inl (nI t)), some (.inl (b)), some (.inl (nI f)), some (.inl (nI (mvT O t b))), some (.inl z)] : List (Option AV))) (by rw [show mvT O t b + (m + 1) = (mvT O t b + m) + 1 by omega]; exact pk_m1 _)) rfl rfl ?_
            refine ih2 _ (by omega) (fun k hk => by funext j; rw [ua_k hk, hk2 k hk]) (fun j => ?_)
            by_cases q : j = mvT O t b + (m + 1)
            · rw [q, ua_eq, if_pos (by omega), ha2, if_neg (by omega)]
              exact congrArg (A' 18) (by omega)
            · rw [ua_i q, ha2]
              by_cases q2 : mvT O t b + (m + 1) < j ∧ j ≤ (mvP O t).length
              · rw [if_pos q2, if_pos (by omega)]
              · rw [if_neg q2, if_neg (by omega)]
      have e2 : (mvP O t).length = mvT O t b + ((mvP O t).length - mvT O t b) := by omega
      rw [e2]
      exact loop ((mvP O t).length - mvT O t b) A' (by omega) hk' (fun j => by rw [if_neg (by omega)])
    refine X_run 2 (pc' := 54) (L' := [some (.inr (some (10, 0))), some (.inl (nI t)), some (.inl (b)), some (.inl (nI f)), some (.inl (nI i)), none]) (st' := [.inl (-1), .inl (b)]) rfl ?_
    refine X_ic_ne (tgt := 61) (nx := 57) rfl rfl rfl (fun h2 => ?_) (fun h2 => ?_)
    · obtain ⟨k, hk1, rfl⟩ : ∃ k, k < 160 ∧ b = nI k := by
        rcases hb with q | q
        · exact absurd q h2
        · exact q
      have hcl : (nI k).toNatClampNeg = k := nI_clamp (by omega)
      refine X_run 2 (pc' := 63) (L' := [some (.inr (some (10, 0))), some (.inl (nI t)), some (.inl (nI k)), some (.inl (nI f)), some (.inl (nI i)), none]) (st' := [.inl (nI k), .inr (some (10, 0))]) rfl ?_
      refine X_callV (vs := [.inl (nI k)]) (st := []) (mc := 0) (ms := 0) rfl ok_Mo_placeOf v_Mo_111 rfl rfl rfl (Nat.le_of_ble_eq_true rfl) (Nat.le_of_ble_eq_true rfl) (Nat.le_of_ble_eq_true rfl) (Nat.le_of_ble_eq_true rfl) (Nat.le_of_ble_eq_true rfl) (Nat.le_of_ble_eq_true rfl) rfl ?_
      refine c_Mo_placeOf rfl hI2 (by omega) hP hk1 (fun r hr => ?_)
      show X M_Mo_moves _ _ 66 [some (.inr (some (10, 0))), some (.inl (nI t)), some (.inl (nI k)), some (.inl (nI f)), some (.inl (nI i)), none] [.inl (r)] (mH g I2 A') 0 0
      refine X_if_ge (tgt := 76) (nx := 69) rfl rfl rfl (fun h3 => ?_) (fun h3 => ?_)
      · rcases hr with ⟨j, hj, rfl⟩ | ⟨-, rfl⟩
        · refine X_run 2 (pc' := 78) (L' := [some (.inr (some (10, 0))), some (.inl (nI t)), some (.inl (nI k)), some (.inl (nI f)), some (.inl (nI i)), none]) (st' := [.inl (nI k), .inr (some (10, 0))]) rfl ?_
          refine X_callV (vs := [.inl (nI k)]) (st := []) (mc := 0) (ms := 0) rfl ok_Mo_placeOf v_Mo_111 rfl rfl rfl (Nat.le_of_ble_eq_true rfl) (Nat.le_of_ble_eq_true rfl) (Nat.le_of_ble_eq_true rfl) (Nat.le_of_ble_eq_true rfl) (Nat.le_of_ble_eq_true rfl) (Nat.le_of_ble_eq_true rfl) rfl ?_
          refine c_Mo_placeOf rfl hI2 (by omega) hP hk1 (fun r hr => ?_)
          show X M_Mo_moves _ _ 81 [some (.inr (some (10, 0))), some (.inl (nI t)), some (.inl (nI k)), some (.inl (nI f)), some (.inl (nI i)), none] [.inl (r)] (mH g I2 A') 0 0
          have er : r = nI j := by
            rcases hr with ⟨j', hj', rfl⟩ | ⟨q, -⟩
            · rw [nod_inj (mvP_nodup hO2) hj hj']
            · exact absurd hj (q j)
          have eT : mvT O t (nI k) = j + 1 := by
            unfold mvT
            rw [if_neg h2, hcl, if_pos (List.mem_of_getElem? hj), idx_of (mvP_nodup hO2) hj]
          refine X_eq (st' := [.inl (nI j)]) rfl (congrArg (fun z => Sum.inl z :: _) er) rfl ?_
          refine X_run 2 (pc' := 83) (L' := [some (.inr (some (10, 0))), some (.inl (nI t)), some (.inl (nI k)), some (.inl (nI f)), some (.inl (nI i)), none]) (st' := [.inl ((nI j) + 1)]) rfl ?_
          refine X_eq (st' := [.inl (nI (mvT O t (nI k)))]) rfl (congrArg (fun z => Sum.inl z :: _) (by rw [eT]; exact nI_1 j)) rfl ?_
          exact main _
        · exact absurd h3 (by decide)
      · rcases hr with ⟨j, hj, rfl⟩ | ⟨hno, rfl⟩
        · exact absurd (nI_pos' (by have := (List.getElem?_eq_some_iff.mp hj).1; omega)) h3
        · have eT : mvT O t (nI k) = (mvP O t).length := by
            unfold mvT
            rw [if_neg h2, hcl, if_neg (fun q => by obtain ⟨j, hj⟩ := mem_idx q; exact hno j hj)]
          refine X_run 1 (pc' := 70) (L' := [some (.inr (some (10, 0))), some (.inl (nI t)), some (.inl (nI k)), some (.inl (nI f)), some (.inl (nI i)), none]) (st' := [.inr (some (10, 0))]) rfl ?_
          refine XM_get (v := .inl (I2 17)) rfl f_Mo_94 rfl rfl ?_
          refine X_eq (st' := [.inl (nI (mvT O t (nI k)))]) rfl (congrArg (fun z => Sum.inl z :: _) (by rw [eT]; exact hI2)) rfl ?_
          refine X_run 1 (pc' := 83) (L' := [some (.inr (some (10, 0))), some (.inl (nI t)), some (.inl (nI k)), some (.inl (nI f)), some (.inl (nI i)), none]) (st' := [.inl (nI (mvT O t (nI k)))]) rfl ?_
          exact main _
    · have eT : mvT O t b = 0 := by
        unfold mvT
        rw [if_pos h2]
      refine X_run 2 (pc' := 83) (L' := [some (.inr (some (10, 0))), some (.inl (nI t)), some (.inl (b)), some (.inl (nI f)), some (.inl (nI i)), none]) (st' := [.inl (0)]) rfl ?_
      refine X_eq (st' := [.inl (nI (mvT O t b))]) rfl (congrArg (fun z => Sum.inl z :: _) (by rw [eT]; rfl)) rfl ?_
      exact main _
  · have h1 := li_nle (by omega) (by omega) h1
    refine X_run 1 (pc' := 21) (L' := [some (.inr (some (10, 0))), some (.inl (nI t)), some (.inl (b)), some (.inl (nI f)), some (.inl (nI i)), none]) (st' := [.inr (some (10, 0))]) rfl ?_
    refine XM_get (v := .inr (some (11, 18))) rfl f_Mo_54 rfl rfl ?_
    refine X_run 2 (pc' := 27) (L' := [some (.inr (some (10, 0))), some (.inl (nI t)), some (.inl (b)), some (.inl (nI f)), some (.inl (nI i)), none]) (st' := [.inr (some (10, 0)), .inl (nI i), .inr (some (11, 18))]) rfl ?_
    refine XM_get (v := .inr (some (11, 18))) rfl f_Mo_54 rfl rfl ?_
    refine X_run 3 (pc' := 34) (L' := [some (.inr (some (10, 0))), some (.inl (nI t)), some (.inl (b)), some (.inl (nI f)), some (.inl (nI i)), none]) (st' := [.inl ((nI i) + 1), .inr (some (11, 18)), .inl (nI i), .inr (some (11, 18))]) rfl ?_
    refine X_eq (st' := [.inl (nI (i + 1)), .inr (some (11, 18)), .inl (nI i), .inr (some (11, 18))]) rfl (congrArg (fun z => Sum.inl z :: _) (by first | rfl | (simp only [il_0, il_1, il_2, il_3, il_4, il_5, il_6, il_7, il_16, il_20, il_40, il_160, pk_mul, nI_add]; done) | (simp only [il_0, il_1, il_2, il_3, il_4, il_5, il_6, il_7, il_16, il_20, il_40, il_160, pk_mul, nI_add]; exact congrArg nI (by omega)))) rfl ?_
    refine XM_ald (k := 18) (i := (i + 1)) rfl (by decide) (by simp only [mln]; omega) rfl ?_
    refine XM_ast (k := 18) (i := i) rfl (by decide) (by simp only [mln]; omega) rfl ?_
    refine X_run 2 (pc' := 9) (L' := [some (.inr (some (10, 0))), some (.inl (nI t)), some (.inl (b)), some (.inl (nI f)), some (.inl (nI i + 1)), none]) (st' := []) rfl ?_
    refine X_eq (L' := [some (.inr (some (10, 0))), some (.inl (nI t)), some (.inl (b)), some (.inl (nI f)), some (.inl (nI (i + 1))), none]) (congrArg (fun z : Int32 => ([some (.inr (some (10, 0))), some (.inl (nI t)), some (.inl (b)), some (.inl (nI f)), some (.inl z), none] : List (Option AV))) (by first | rfl | (simp only [il_0, il_1, il_2, il_3, il_4, il_5, il_6, il_7, il_16, il_20, il_40, il_160, pk_mul, nI_add]; done) | (simp only [il_0, il_1, il_2, il_3, il_4, il_5, il_6, il_7, il_16, il_20, il_40, il_160, pk_mul, nI_add]; exact congrArg nI (by omega)))) rfl rfl ?_
    refine ih h1 (by omega) _ (fun k hk => by funext j; rw [ua_k hk, hk' k hk]) (fun j => ?_)
    by_cases q : j = i
    · rw [q, ua_eq, if_pos (by omega), ha', if_neg (by omega)]
    · rw [ua_i q, ha']
      by_cases q2 : f ≤ j ∧ j < i
      · rw [if_pos q2, if_pos (by omega)]
      · rw [if_neg q2, if_neg (by omega)]
end

