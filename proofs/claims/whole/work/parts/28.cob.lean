/-! the component's leaves over small arrays -/
section
variable {F : CF} {B : CB} {C : CC} {Wr : Nat → Option Nd} {E : Nat → Nat → Bool} {r : AH} {Q : Option AV → AH → Prop} {h : AH}
/-- one row of numbers anew -/
def uR (B : CB) (a i : Nat) (f : Nat → Int32) : CB := fun a' i' => if a' = a ∧ i' = i then f else B a' i'
theorem uR_eq (B : CB) (a i : Nat) (f : Nat → Int32) : uR B a i f a i = f := by simp [uR]
theorem uR_ne {B : CB} {a i a' i' : Nat} {f : Nat → Int32} (h : ¬ (a' = a ∧ i' = i)) : uR B a i f a' i' = B a' i' := by simp [uR, h]
theorem uR_self (B : CB) (a i : Nat) : uR B a i (B a i) = B := by
  funext a' i'
  by_cases q : a' = a ∧ i' = i
  · rw [q.1, q.2, uR_eq]
  · rw [uR_ne q]
theorem uR_u3 (B : CB) (a i : Nat) (f : Nat → Int32) (j : Nat) (x : Int32) : u3 (uR B a i f) a i j x = uR B a i (upd f j x) := by
  funext a' i' j'
  by_cases q : a' = a ∧ i' = i
  · rw [q.1, q.2, uR_eq]
    by_cases qj : j' = j
    · simp [u3, upd, qj]
    · rw [u3_ne (by rintro ⟨-, -, z⟩; exact qj z), uR_eq]
      simp [upd, qj]
  · rw [u3_ne (by rintro ⟨z1, z2, -⟩; exact q ⟨z1, z2⟩), uR_ne q, uR_ne q]
theorem mx_nat {a b : Nat} (ha : a < 2 ^ 31) (hb : b < 2 ^ 31) : (if nI a < nI b then nI b else nI a) = nI (max a b) := by
  by_cases q : a < b
  · rw [if_pos ((nI_ltI ha hb).mpr q), Nat.max_eq_right (by omega)]
  · rw [if_neg (fun z => q ((nI_ltI ha hb).mp z)), Nat.max_eq_left (by omega)]
theorem mn_nat {a b : Nat} (ha : a < 2 ^ 31) (hb : b < 2 ^ 31) : (if nI b < nI a then nI b else nI a) = nI (min a b) := by
  by_cases q : b < a
  · rw [if_pos ((nI_ltI hb ha).mpr q), Nat.min_eq_right (by omega)]
  · rw [if_neg (fun z => q ((nI_ltI hb ha).mp z)), Nat.min_eq_left (by omega)]
/-- what a deed's device knew as it had done it -/
def kw (σ : Sg) (x e : Nat) : Nat := kn σ x e + if e = x / 40 then 1 else 0
/-- a deed's cells -/
def DE (σ : Sg) (F : CF) (B : CB) (E : Nat → Nat → Bool) (x : Nat) : Prop := x < 160 ∧ E 18 x = true ∧ E 19 x = true ∧ F 18 x 0 = nI (x / 40) ∧ F 18 x 1 = nI (x % 40) ∧ F 18 x 2 = nI (so σ x) ∧ F 18 x 3 = nI (sp σ x) ∧ F 18 x 4 = nI (tg σ x) ∧
  ((so σ x = 0 ∨ so σ x = 1 ∨ so σ x = 2 ∨ so σ x = 5) → F 18 x 5 = vl σ x) ∧ (so σ x = 0 → F 18 x 6 = nu σ x) ∧ (so σ x = 6 → F 18 x 6 = vl σ x) ∧ (∀ e, e < 4 → B 19 x e = nI (kw σ x e) ∧ kw σ x e ≤ 41) ∧ so σ x ≤ 7 ∧ sp σ x < 1000 ∧ tg σ x < 160
theorem c_Ar_fill {a i : Nat} {v : Int32} (hk : rKd a = 1 ∧ rTg a = 0) (hE : E a i = true) (hl : rLn a = 4) (hq : ∀ f : Nat → Int32, (∀ j, j < 4 → f j = v) → Q none (cH F (uR B a i f) C Wr E r)) : X M_Ar_fill (rmo M_Ar_fill 0 0) (Zm Q 0 0) 0 (ini M_Ar_fill [.inr (some (a, i)), .inl v]) [] (cH F B C Wr E r) 0 0 := by
  show X M_Ar_fill _ _ 0 [some (.inr (some (a, i))), some (.inl (v)), none, none] [] (cH F B C Wr E r) 0 0
  refine X_run 3 (pc' := 3) (L' := [some (.inr (some (a, i))), some (.inl (v)), some (.inl (0)), none]) (st' := [.inr (some (a, i))]) rfl ?_
  refine X_alen (nx := 4) (t := 0) (len := 4) (f := B a i) rfl (by rw [cH_int hk.1 hE, hk.2, hl]) (Or.inl rfl) rfl ?_
  refine X_run 1 (pc' := 5) (L' := [some (.inr (some (a, i))), some (.inl (v)), some (.inl (0)), some (.inl (Int32.ofNat 4))]) (st' := []) rfl ?_
  refine X_eq (L' := [some (.inr (some (a, i))), some (.inl (v)), some (.inl (nI (0))), some (.inl (Int32.ofNat 4))]) (congrArg (fun zz9 : Int32 => ([some (.inr (some (a, i))), some (.inl (v)), some (.inl zz9), some (.inl (Int32.ofNat 4))] : List (Option AV))) (by first | rfl | (simp only [il_0, il_1, il_2, il_3, il_4, il_5, il_6, il_7, il_16, il_20, il_40, il_160, pk_mul, nI_add]; done) | (simp only [il_0, il_1, il_2, il_3, il_4, il_5, il_6, il_7, il_16, il_20, il_40, il_160, pk_mul, nI_add]; exact congrArg nI (by omega)))) rfl rfl ?_
  refine X_eq (L' := [some (.inr (some (a, i))), some (.inl (v)), some (.inl (nI (0))), some (.inl (nI 4))]) (congrArg (fun zz9 : Int32 => ([some (.inr (some (a, i))), some (.inl (v)), some (.inl (nI (0))), some (.inl zz9)] : List (Option AV))) (rfl)) rfl rfl ?_
  refine up_ind 4 (fun k => ∀ f : Nat → Int32, (∀ j, j < k → f j = v) → X M_Ar_fill (rmo M_Ar_fill 0 0) (Zm Q 0 0) 5 [some (.inr (some (a, i))), some (.inl v), some (.inl (nI k)), some (.inl (nI 4))] [] (cH F (uR B a i f) C Wr E r) 0 0) ?_ 0 (by omega) (B a i) (fun j hj => by omega) |> fun hh => ?_
  · rw [uR_self] at hh
    exact hh
  intro k hk4 ih f hf
  refine X_run 2 (pc' := 7) (L' := [some (.inr (some (a, i))), some (.inl (v)), some (.inl (nI k)), some (.inl (nI 4))]) (st' := [.inl (nI 4), .inl (nI k)]) rfl ?_
  refine X_ic_ge (tgt := 20) (nx := 10) rfl rfl rfl (fun h1 => ?_) (fun h1 => ?_)
  · have h1 := li_le (by omega) (by omega) h1
    exact X_vret rfl rfl (Nat.le_refl _) (Nat.le_refl _) (hq f (fun j hj => hf j (by omega)))
  · have h1 := li_nle (by omega) (by omega) h1
    refine X_run 3 (pc' := 13) (L' := [some (.inr (some (a, i))), some (.inl (v)), some (.inl (nI k)), some (.inl (nI 4))]) (st' := [.inl (v), .inl (nI k), .inr (some (a, i))]) rfl ?_
    refine XC_ist (a := a) (i := i) (j := k) rfl hk (by assumption) (by rw [hl]; omega) rfl ?_
    rw [uR_u3]
    refine X_run 2 (pc' := 5) (L' := [some (.inr (some (a, i))), some (.inl (v)), some (.inl (nI k + 1)), some (.inl (nI 4))]) (st' := []) rfl ?_
    refine X_eq (L' := [some (.inr (some (a, i))), some (.inl (v)), some (.inl (nI (k + 1))), some (.inl (nI 4))]) (congrArg (fun zz9 : Int32 => ([some (.inr (some (a, i))), some (.inl (v)), some (.inl zz9), some (.inl (nI 4))] : List (Option AV))) (by first | rfl | (simp only [il_0, il_1, il_2, il_3, il_4, il_5, il_6, il_7, il_16, il_20, il_40, il_160, pk_mul, nI_add]; done) | (simp only [il_0, il_1, il_2, il_3, il_4, il_5, il_6, il_7, il_16, il_20, il_40, il_160, pk_mul, nI_add]; exact congrArg nI (by omega)))) rfl rfl ?_
    refine ih h1 _ (fun j hj => ?_)
    by_cases q : j = k
    · simp [upd, q]
    · simp only [upd, q, if_false]
      exact hf j (by omega)
theorem c_Pl_sumOf {a i : Nat} {m : Nat → Nat} (hk : rKd a = 1 ∧ rTg a = 0) (hE : E a i = true) (hl : rLn a = 4) (hm : ∀ e, e < 4 → B a i e = nI (m e)) (hq : Q (some (.inl (nI ((List.range 4).foldl (fun n e => n + m e) 0)))) (cH F B C Wr E r)) : X M_Pl_sumOf (rmo M_Pl_sumOf 0 0) (Zm Q 0 0) 0 (ini M_Pl_sumOf [.inr (some (a, i))]) [] (cH F B C Wr E r) 0 0 := by
  show X M_Pl_sumOf _ _ 0 [some (.inr (some (a, i))), none, none, none, none, none] [] (cH F B C Wr E r) 0 0
  refine X_run 5 (pc' := 5) (L' := [some (.inr (some (a, i))), some (.inl (0)), some (.inr (some (a, i))), none, none, none]) (st' := [.inr (some (a, i))]) rfl ?_
  refine X_alen (nx := 6) (t := 0) (len := 4) (f := B a i) rfl (by rw [cH_int hk.1 hE, hk.2, hl]) (Or.inl rfl) rfl ?_
  refine X_run 3 (pc' := 10) (L' := [some (.inr (some (a, i))), some (.inl (0)), some (.inr (some (a, i))), some (.inl (Int32.ofNat 4)), some (.inl (0)), none]) (st' := []) rfl ?_
  refine X_eq (L' := [some (.inr (some (a, i))), some (.inl (0)), some (.inr (some (a, i))), some (.inl (Int32.ofNat 4)), some (.inl (nI (0))), none]) (congrArg (fun zz9 : Int32 => ([some (.inr (some (a, i))), some (.inl (0)), some (.inr (some (a, i))), some (.inl (Int32.ofNat 4)), some (.inl zz9), none] : List (Option AV))) (by first | rfl | (simp only [il_0, il_1, il_2, il_3, il_4, il_5, il_6, il_7, il_16, il_20, il_40, il_160, pk_mul, nI_add]; done) | (simp only [il_0, il_1, il_2, il_3, il_4, il_5, il_6, il_7, il_16, il_20, il_40, il_160, pk_mul, nI_add]; exact congrArg nI (by omega)))) rfl rfl ?_
  refine X_eq (L' := [some (.inr (some (a, i))), some (.inl (0)), some (.inr (some (a, i))), some (.inl (nI 4)), some (.inl (nI (0))), none]) (congrArg (fun zz9 : Int32 => ([some (.inr (some (a, i))), some (.inl (0)), some (.inr (some (a, i))), some (.inl zz9), some (.inl (nI (0))), none] : List (Option AV))) (rfl)) rfl rfl ?_
  refine X_eq (L' := [some (.inr (some (a, i))), some (.inl (nI ((List.range 0).foldl (fun n e => n + m e) 0))), some (.inr (some (a, i))), some (.inl (nI 4)), some (.inl (nI (0))), none]) (congrArg (fun zz9 : Int32 => ([some (.inr (some (a, i))), some (.inl zz9), some (.inr (some (a, i))), some (.inl (nI 4)), some (.inl (nI (0))), none] : List (Option AV))) (by first | rfl | (simp only [il_0, il_1, il_2, il_3, il_4, il_5, il_6, il_7, il_16, il_20, il_40, il_160, pk_mul, nI_add]; done) | (simp only [il_0, il_1, il_2, il_3, il_4, il_5, il_6, il_7, il_16, il_20, il_40, il_160, pk_mul, nI_add]; exact congrArg nI (by omega)))) rfl rfl ?_
  refine up_ind 4 (fun k => ∀ o : Option AV, X M_Pl_sumOf (rmo M_Pl_sumOf 0 0) (Zm Q 0 0) 10 [some (.inr (some (a, i))), some (.inl (nI ((List.range k).foldl (fun n e => n + m e) 0))), some (.inr (some (a, i))), some (.inl (nI 4)), some (.inl (nI k)), o] [] (cH F B C Wr E r) 0 0) ?_ 0 (by omega) none
  intro k hk4 ih o
  refine X_run 2 (pc' := 13) (L' := [some (.inr (some (a, i))), some (.inl (nI ((List.range k).foldl (fun n e => n + m e) 0))), some (.inr (some (a, i))), some (.inl (nI 4)), some (.inl (nI k)), o]) (st' := [.inl (nI 4), .inl (nI k)]) rfl ?_
  refine X_ic_ge (tgt := 33) (nx := 16) rfl rfl rfl (fun h1 => ?_) (fun h1 => ?_)
  · have h1 := li_le (by omega) (by omega) h1
    have e4 : k = 4 := by omega
    refine X_run 1 (pc' := 34) (L' := [some (.inr (some (a, i))), some (.inl (nI ((List.range k).foldl (fun n e => n + m e) 0))), some (.inr (some (a, i))), some (.inl (nI 4)), some (.inl (nI k)), o]) (st' := [.inl (nI ((List.range k).foldl (fun n e => n + m e) 0))]) rfl ?_
    exact X_iret rfl rfl rfl (Nat.le_refl _) (Nat.le_refl _) (by rw [e4]; exact hq)
  · have h1 := li_nle (by omega) (by omega) h1
    refine X_run 2 (pc' := 19) (L' := [some (.inr (some (a, i))), some (.inl (nI ((List.range k).foldl (fun n e => n + m e) 0))), some (.inr (some (a, i))), some (.inl (nI 4)), some (.inl (nI k)), o]) (st' := [.inl (nI k), .inr (some (a, i))]) rfl ?_
    refine XC_ild (a := a) (i := i) (j := k) rfl hk (by assumption) (by rw [hl]; omega) rfl ?_
    refine X_eq (st' := [.inl (nI (m k))]) rfl (congrArg (fun zz9 => Sum.inl zz9 :: _) (hm k h1)) rfl ?_
    refine X_run 7 (pc' := 10) (L' := [some (.inr (some (a, i))), some (.inl ((nI ((List.range k).foldl (fun n e => n + m e) 0)) + (nI (m k)))), some (.inr (some (a, i))), some (.inl (nI 4)), some (.inl (nI k + 1)), some (.inl (nI (m k)))]) (st' := []) rfl ?_
    refine X_eq (L' := [some (.inr (some (a, i))), some (.inl ((nI ((List.range k).foldl (fun n e => n + m e) 0)) + (nI (m k)))), some (.inr (some (a, i))), some (.inl (nI 4)), some (.inl (nI (k + 1))), some (.inl (nI (m k)))]) (congrArg (fun zz9 : Int32 => ([some (.inr (some (a, i))), some (.inl ((nI ((List.range k).foldl (fun n e => n + m e) 0)) + (nI (m k)))), some (.inr (some (a, i))), some (.inl (nI 4)), some (.inl zz9), some (.inl (nI (m k)))] : List (Option AV))) (by first | rfl | (simp only [il_0, il_1, il_2, il_3, il_4, il_5, il_6, il_7, il_16, il_20, il_40, il_160, pk_mul, nI_add]; done) | (simp only [il_0, il_1, il_2, il_3, il_4, il_5, il_6, il_7, il_16, il_20, il_40, il_160, pk_mul, nI_add]; exact congrArg nI (by omega)))) rfl rfl ?_
    refine X_eq (L' := [some (.inr (some (a, i))), some (.inl (nI ((List.range (k + 1)).foldl (fun n e => n + m e) 0))), some (.inr (some (a, i))), some (.inl (nI 4)), some (.inl (nI (k + 1))), some (.inl (nI (m k)))]) (congrArg (fun zz9 : Int32 => ([some (.inr (some (a, i))), some (.inl zz9), some (.inr (some (a, i))), some (.inl (nI 4)), some (.inl (nI (k + 1))), some (.inl (nI (m k)))] : List (Option AV))) ((by rw [List.range_succ, List.foldl_append, nI_add]; rfl))) rfl rfl ?_
    exact ih h1 _
theorem c_Dv_raise {a i j : Nat} {m o : Nat → Nat} (hk : rKd a = 1 ∧ rTg a = 0) (hE : E a i = true) (hE2 : E a j = true) (hij : j ≠ i) (hl : rLn a = 4) (hm : ∀ e, e < 4 → B a i e = nI (m e) ∧ m e < 2 ^ 31) (ho : ∀ e, e < 4 → B a j e = nI (o e) ∧ o e < 2 ^ 31) (hq : ∀ f : Nat → Int32, (∀ e, e < 4 → f e = nI (max (m e) (o e))) → Q none (cH F (uR B a i f) C Wr E r)) : X M_Dv_raise (rmo M_Dv_raise 0 0) (Zm Q 0 0) 0 (ini M_Dv_raise [.inr (some (a, i)), .inr (some (a, j))]) [] (cH F B C Wr E r) 0 0 := by
  show X M_Dv_raise _ _ 0 [some (.inr (some (a, i))), some (.inr (some (a, j))), none] [] (cH F B C Wr E r) 0 0
  refine X_run 2 (pc' := 2) (L' := [some (.inr (some (a, i))), some (.inr (some (a, j))), some (.inl (0))]) (st' := []) rfl ?_
  refine X_eq (L' := [some (.inr (some (a, i))), some (.inr (some (a, j))), some (.inl (nI (0)))]) (congrArg (fun zz9 : Int32 => ([some (.inr (some (a, i))), some (.inr (some (a, j))), some (.inl zz9)] : List (Option AV))) (by first | rfl | (simp only [il_0, il_1, il_2, il_3, il_4, il_5, il_6, il_7, il_16, il_20, il_40, il_160, pk_mul, nI_add]; done) | (simp only [il_0, il_1, il_2, il_3, il_4, il_5, il_6, il_7, il_16, il_20, il_40, il_160, pk_mul, nI_add]; exact congrArg nI (by omega)))) rfl rfl ?_
  refine up_ind 4 (fun k => ∀ f : Nat → Int32, (∀ e, e < 4 → f e = nI (if e < k then max (m e) (o e) else m e)) → X M_Dv_raise (rmo M_Dv_raise 0 0) (Zm Q 0 0) 2 [some (.inr (some (a, i))), some (.inr (some (a, j))), some (.inl (nI k))] [] (cH F (uR B a i f) C Wr E r) 0 0) ?_ 0 (by omega) (B a i) (fun e he => by rw [if_neg (by omega)]; exact (hm e he).1) |> fun hh => ?_
  · rw [uR_self] at hh
    exact hh
  intro k hk4 ih f hf
  refine X_run 2 (pc' := 4) (L' := [some (.inr (some (a, i))), some (.inr (some (a, j))), some (.inl (nI k))]) (st' := [.inl (4), .inl (nI k)]) rfl ?_
  refine X_ic_ge (tgt := 25) (nx := 7) rfl rfl rfl (fun h1 => ?_) (fun h1 => ?_)
  · have h1 := li_le (a := 4) (by omega) (by omega) h1
    exact X_vret rfl rfl (Nat.le_refl _) (Nat.le_refl _) (hq f (fun e he => by rw [hf e he, if_pos (by omega)]))
  · have h1 := li_nle (a := 4) (by omega) (by omega) h1
    refine X_run 4 (pc' := 11) (L' := [some (.inr (some (a, i))), some (.inr (some (a, j))), some (.inl (nI k))]) (st' := [.inl (nI k), .inr (some (a, i)), .inl (nI k), .inr (some (a, i))]) rfl ?_
    refine XC_ild (a := a) (i := i) (j := k) rfl hk (by assumption) (by rw [hl]; omega) rfl ?_
    refine X_eq (st' := [.inl (nI (m k)), .inl (nI k), .inr (some (a, i))]) rfl (congrArg (fun zz9 => Sum.inl zz9 :: _) ((by rw [uR_eq, hf k h1, if_neg (by omega)]))) rfl ?_
    refine X_run 2 (pc' := 14) (L' := [some (.inr (some (a, i))), some (.inr (some (a, j))), some (.inl (nI k))]) (st' := [.inl (nI k), .inr (some (a, j)), .inl (nI (m k)), .inl (nI k), .inr (some (a, i))]) rfl ?_
    refine XC_ild (a := a) (i := j) (j := k) rfl hk (by assumption) (by rw [hl]; omega) rfl ?_
    refine X_eq (st' := [.inl (nI (o k)), .inl (nI (m k)), .inl (nI k), .inr (some (a, i))]) rfl (congrArg (fun zz9 => Sum.inl zz9 :: _) ((by rw [uR_ne (by rintro ⟨-, z⟩; exact hij z)]; exact (ho k h1).1))) rfl ?_
    refine X_max rfl x_Dv_40 (Nat.le_of_ble_eq_true rfl) (Nat.le_of_ble_eq_true rfl) (Nat.le_of_ble_eq_true rfl) (Nat.le_of_ble_eq_true rfl) (Nat.le_of_ble_eq_true rfl) rfl ?_
    refine X_eq (st' := [.inl (nI (max (m k) (o k))), .inl (nI k), .inr (some (a, i))]) rfl (congrArg (fun zz9 => Sum.inl zz9 :: _) (mx_nat (hm k h1).2 (ho k h1).2)) rfl ?_
    refine XC_ist (a := a) (i := i) (j := k) rfl hk (by assumption) (by rw [hl]; omega) rfl ?_
    rw [uR_u3]
    refine X_run 2 (pc' := 2) (L' := [some (.inr (some (a, i))), some (.inr (some (a, j))), some (.inl (nI k + 1))]) (st' := []) rfl ?_
    refine X_eq (L' := [some (.inr (some (a, i))), some (.inr (some (a, j))), some (.inl (nI (k + 1)))]) (congrArg (fun zz9 : Int32 => ([some (.inr (some (a, i))), some (.inr (some (a, j))), some (.inl zz9)] : List (Option AV))) (by first | rfl | (simp only [il_0, il_1, il_2, il_3, il_4, il_5, il_6, il_7, il_16, il_20, il_40, il_160, pk_mul, nI_add]; done) | (simp only [il_0, il_1, il_2, il_3, il_4, il_5, il_6, il_7, il_16, il_20, il_40, il_160, pk_mul, nI_add]; exact congrArg nI (by omega)))) rfl rfl ?_
    refine ih h1 _ (fun e he => ?_)
    by_cases q : e = k
    · simp [upd, q]
    · simp only [upd, q, if_false]
      rw [hf e he]
      by_cases q2 : e < k
      · rw [if_pos q2, if_pos (by omega)]
      · rw [if_neg q2, if_neg (by omega)]
theorem c_De_knowsAll {σ : Sg} {x a i : Nat} {m : Nat → Nat} (hx : DE σ F B E x) (hk : rKd a = 1 ∧ rTg a = 0) (hE : E a i = true) (hl : rLn a = 4) (hm : ∀ e, e < 4 → B a i e = nI (m e) ∧ m e < 1000) (hq : ∀ b : Bool, (b = true ↔ ∀ e, e < 4 → m e ≤ kw σ x e) → Q (some (.inl (b2i b))) (cH F B C Wr E r)) : X M_De_knowsAll (rmo M_De_knowsAll 0 0) (Zm Q 0 0) 0 (ini M_De_knowsAll [.inr (some (18, x)), .inr (some (a, i))]) [] (cH F B C Wr E r) 0 0 := by
  obtain ⟨hx0, h18, h19, -, -, -, -, -, -, -, -, hkw, -⟩ := hx
  show X M_De_knowsAll _ _ 0 [some (.inr (some (18, x))), some (.inr (some (a, i))), none] [] (cH F B C Wr E r) 0 0
  refine X_run 2 (pc' := 2) (L' := [some (.inr (some (18, x))), some (.inr (some (a, i))), some (.inl (0))]) (st' := []) rfl ?_
  refine X_eq (L' := [some (.inr (some (18, x))), some (.inr (some (a, i))), some (.inl (nI (0)))]) (congrArg (fun zz9 : Int32 => ([some (.inr (some (18, x))), some (.inr (some (a, i))), some (.inl zz9)] : List (Option AV))) (by first | rfl | (simp only [il_0, il_1, il_2, il_3, il_4, il_5, il_6, il_7, il_16, il_20, il_40, il_160, pk_mul, nI_add]; done) | (simp only [il_0, il_1, il_2, il_3, il_4, il_5, il_6, il_7, il_16, il_20, il_40, il_160, pk_mul, nI_add]; exact congrArg nI (by omega)))) rfl rfl ?_
  refine up_ind 4 (fun k => (∀ e, e < k → m e ≤ kw σ x e) → X M_De_knowsAll (rmo M_De_knowsAll 0 0) (Zm Q 0 0) 2 [some (.inr (some (18, x))), some (.inr (some (a, i))), some (.inl (nI k))] [] (cH F B C Wr E r) 0 0) ?_ 0 (by omega) (fun e he => by omega)
  intro k hk4 ih hf
  refine X_run 2 (pc' := 4) (L' := [some (.inr (some (18, x))), some (.inr (some (a, i))), some (.inl (nI k))]) (st' := [.inl (4), .inl (nI k)]) rfl ?_
  refine X_ic_ge (tgt := 27) (nx := 7) rfl rfl rfl (fun h1 => ?_) (fun h1 => ?_)
  · have h1 := li_le (a := 4) (by omega) (by omega) h1
    refine X_run 1 (pc' := 28) (L' := [some (.inr (some (18, x))), some (.inr (some (a, i))), some (.inl (nI k))]) (st' := [.inl (1)]) rfl ?_
    exact X_iret rfl rfl rfl (Nat.le_refl _) (Nat.le_refl _) (hq true ⟨fun _ e he => hf e (by omega), fun _ => rfl⟩)
  · have h1 := li_nle (a := 4) (by omega) (by omega) h1
    have hk2 := hkw k h1
    have hm2 := hm k h1
    refine X_run 1 (pc' := 8) (L' := [some (.inr (some (18, x))), some (.inr (some (a, i))), some (.inl (nI k))]) (st' := [.inr (some (18, x))]) rfl ?_
    refine XC_get (a := 18) (i := x) (v := .inr (some (19, x))) rfl f_De_33 ⟨rfl, rfl⟩ (by assumption) rfl rfl ?_
    refine X_run 1 (pc' := 12) (L' := [some (.inr (some (18, x))), some (.inr (some (a, i))), some (.inl (nI k))]) (st' := [.inl (nI k), .inr (some (19, x))]) rfl ?_
    refine XC_ild (a := 19) (i := x) (j := k) rfl ⟨rfl, rfl⟩ (by assumption) (by simp only [rLn]; omega) rfl ?_
    refine X_eq (st' := [.inl (nI (kw σ x k))]) rfl (congrArg (fun zz9 => Sum.inl zz9 :: _) (hk2.1)) rfl ?_
    refine X_run 2 (pc' := 15) (L' := [some (.inr (some (18, x))), some (.inr (some (a, i))), some (.inl (nI k))]) (st' := [.inl (nI k), .inr (some (a, i)), .inl (nI (kw σ x k))]) rfl ?_
    refine XC_ild (a := a) (i := i) (j := k) rfl hk (by assumption) (by rw [hl]; omega) rfl ?_
    refine X_eq (st' := [.inl (nI (m k)), .inl (nI (kw σ x k))]) rfl (congrArg (fun zz9 => Sum.inl zz9 :: _) (hm2.1)) rfl ?_
    refine X_ic_ge (tgt := 21) (nx := 19) rfl rfl rfl (fun h2 => ?_) (fun h2 => ?_)
    · have h2 := li_le (by omega) (by omega) h2
      refine X_run 2 (pc' := 2) (L' := [some (.inr (some (18, x))), some (.inr (some (a, i))), some (.inl (nI k + 1))]) (st' := []) rfl ?_
      refine X_eq (L' := [some (.inr (some (18, x))), some (.inr (some (a, i))), some (.inl (nI (k + 1)))]) (congrArg (fun zz9 : Int32 => ([some (.inr (some (18, x))), some (.inr (some (a, i))), some (.inl zz9)] : List (Option AV))) (by first | rfl | (simp only [il_0, il_1, il_2, il_3, il_4, il_5, il_6, il_7, il_16, il_20, il_40, il_160, pk_mul, nI_add]; done) | (simp only [il_0, il_1, il_2, il_3, il_4, il_5, il_6, il_7, il_16, il_20, il_40, il_160, pk_mul, nI_add]; exact congrArg nI (by omega)))) rfl rfl ?_
      refine ih h1 (fun e he => ?_)
      by_cases q : e = k
      · rw [q]
        exact h2
      · exact hf e (by omega)
    · have h2 := li_nle (by omega) (by omega) h2
      refine X_run 1 (pc' := 20) (L' := [some (.inr (some (18, x))), some (.inr (some (a, i))), some (.inl (nI k))]) (st' := [.inl (0)]) rfl ?_
      exact X_iret rfl rfl rfl (Nat.le_refl _) (Nat.le_refl _) (hq false ⟨fun z => (by cases z), fun z => (by have := z k h1; omega)⟩)
theorem c_De_includeIn {σ : Sg} {x a i : Nat} {m : Nat → Nat} (hx : DE σ F B E x) (hk : rKd a = 1 ∧ rTg a = 0) (hE : E a i = true) (hl : rLn a = 4) (hm : ∀ e, e < 4 → B a i e = nI (m e) ∧ m e < 1000) (hq : ∀ f : Nat → Int32, (∀ e, e < 4 → f e = nI (if e = x / 40 then max (m e) (x % 40 + 1) else m e)) → Q none (cH F (uR B a i f) C Wr E r)) : X M_De_includeIn (rmo M_De_includeIn 0 0) (Zm Q 0 0) 0 (ini M_De_includeIn [.inr (some (18, x)), .inr (some (a, i))]) [] (cH F B C Wr E r) 0 0 := by
  obtain ⟨hx0, h18, h19, hd, hn, -⟩ := hx
  have hx4 : x / 40 < 4 := by omega
  have hm2 := hm _ hx4
  show X M_De_includeIn _ _ 0 [some (.inr (some (18, x))), some (.inr (some (a, i)))] [] (cH F B C Wr E r) 0 0
  refine X_run 2 (pc' := 2) (L' := [some (.inr (some (18, x))), some (.inr (some (a, i)))]) (st' := [.inr (some (18, x)), .inr (some (a, i))]) rfl ?_
  refine XC_get (a := 18) (i := x) (v := .inl (F 18 x 0)) rfl f_De_9 ⟨rfl, rfl⟩ (by assumption) rfl rfl ?_
  refine X_eq (st' := [.inl (nI (x / 40)), .inr (some (a, i))]) rfl (congrArg (fun zz9 => Sum.inl zz9 :: _) (hd)) rfl ?_
  refine X_run 2 (pc' := 7) (L' := [some (.inr (some (18, x))), some (.inr (some (a, i)))]) (st' := [.inr (some (18, x)), .inr (some (a, i)), .inl (nI (x / 40)), .inr (some (a, i))]) rfl ?_
  refine XC_get (a := 18) (i := x) (v := .inl (F 18 x 0)) rfl f_De_9 ⟨rfl, rfl⟩ (by assumption) rfl rfl ?_
  refine X_eq (st' := [.inl (nI (x / 40)), .inr (some (a, i)), .inl (nI (x / 40)), .inr (some (a, i))]) rfl (congrArg (fun zz9 => Sum.inl zz9 :: _) (hd)) rfl ?_
  refine XC_ild (a := a) (i := i) (j := (x / 40)) rfl hk (by assumption) (by rw [hl]; omega) rfl ?_
  refine X_eq (st' := [.inl (nI (m (x / 40))), .inl (nI (x / 40)), .inr (some (a, i))]) rfl (congrArg (fun zz9 => Sum.inl zz9 :: _) (hm2.1)) rfl ?_
  refine X_run 1 (pc' := 12) (L' := [some (.inr (some (18, x))), some (.inr (some (a, i)))]) (st' := [.inr (some (18, x)), .inl (nI (m (x / 40))), .inl (nI (x / 40)), .inr (some (a, i))]) rfl ?_
  refine XC_get (a := 18) (i := x) (v := .inl (F 18 x 1)) rfl f_De_15 ⟨rfl, rfl⟩ (by assumption) rfl rfl ?_
  refine X_eq (st' := [.inl (nI (x % 40)), .inl (nI (m (x / 40))), .inl (nI (x / 40)), .inr (some (a, i))]) rfl (congrArg (fun zz9 => Sum.inl zz9 :: _) (hn)) rfl ?_
  refine X_run 2 (pc' := 17) (L' := [some (.inr (some (18, x))), some (.inr (some (a, i)))]) (st' := [.inl ((nI (x % 40)) + 1), .inl (nI (m (x / 40))), .inl (nI (x / 40)), .inr (some (a, i))]) rfl ?_
  refine X_eq (st' := [.inl (nI (x % 40 + 1)), .inl (nI (m (x / 40))), .inl (nI (x / 40)), .inr (some (a, i))]) rfl (congrArg (fun zz9 => Sum.inl zz9 :: _) (by first | rfl | (simp only [il_0, il_1, il_2, il_3, il_4, il_5, il_6, il_7, il_16, il_20, il_40, il_160, pk_mul, nI_add]; done) | (simp only [il_0, il_1, il_2, il_3, il_4, il_5, il_6, il_7, il_16, il_20, il_40, il_160, pk_mul, nI_add]; exact congrArg nI (by omega)))) rfl ?_
  refine X_max rfl x_De_37 (Nat.le_of_ble_eq_true rfl) (Nat.le_of_ble_eq_true rfl) (Nat.le_of_ble_eq_true rfl) (Nat.le_of_ble_eq_true rfl) (Nat.le_of_ble_eq_true rfl) rfl ?_
  refine X_eq (st' := [.inl (nI (max (m (x / 40)) (x % 40 + 1))), .inl (nI (x / 40)), .inr (some (a, i))]) rfl (congrArg (fun zz9 => Sum.inl zz9 :: _) (mx_nat (by omega) (by omega))) rfl ?_
  refine XC_ist (a := a) (i := i) (j := (x / 40)) rfl hk (by assumption) (by rw [hl]; omega) rfl ?_
  rw [← uR_self B a i, uR_u3]
  refine X_vret rfl rfl (Nat.le_refl _) (Nat.le_refl _) (hq _ (fun e he => ?_))
  by_cases q : e = x / 40
  · simp [upd, q]
  · simp only [upd, q, if_false]
    exact (hm e he).1
theorem c_De_tell {σ : Sg} {x : Nat} {w : Int32} (hx : DE σ F B E x) (hq : Q (some (.inl (if w = 0 then nI (so σ x) else if w = 1 then nI (sp σ x) else if w = 2 then nI (tg σ x) else if w = 3 then nI (kn σ x 0 + kn σ x 1 + kn σ x 2 + kn σ x 3) else -1))) (cH F B C Wr E r)) : X M_De_tell (rmo M_De_tell 0 0) (Zm Q 0 0) 0 (ini M_De_tell [.inr (some (18, x)), .inl w]) [] (cH F B C Wr E r) 0 0 := by
  obtain ⟨hx0, h18, h19, hd, hn, hso, hsp, htg, -, -, -, hkw, -⟩ := hx
  show X M_De_tell _ _ 0 [some (.inr (some (18, x))), some (.inl (w))] [] (cH F B C Wr E r) 0 0
  refine X_run 1 (pc' := 1) (L' := [some (.inr (some (18, x))), some (.inl (w))]) (st' := [.inl (w)]) rfl ?_
  refine X_sw_0_4 (t0 := 32) (t1 := 37) (t2 := 42) (t3 := 47) (tout := 57) rfl rfl rfl rfl rfl rfl (fun hw => ?_) (fun hw => ?_) (fun hw => ?_) (fun hw => ?_) (fun hw0 hw1 hw2 hw3 => ?_)
  · refine X_run 1 (pc' := 33) (L' := [some (.inr (some (18, x))), some (.inl (w))]) (st' := [.inr (some (18, x))]) rfl ?_
    refine XC_get (a := 18) (i := x) (v := .inl (F 18 x 2)) rfl f_De_18 ⟨rfl, rfl⟩ (by assumption) rfl rfl ?_
    refine X_eq (st' := [.inl (nI (so σ x))]) rfl (congrArg (fun zz9 => Sum.inl zz9 :: _) (hso)) rfl ?_
    exact X_iret rfl rfl rfl (Nat.le_refl _) (Nat.le_refl _) (qi (by rw [hw]; rfl) hq)
  · refine X_run 1 (pc' := 38) (L' := [some (.inr (some (18, x))), some (.inl (w))]) (st' := [.inr (some (18, x))]) rfl ?_
    refine XC_get (a := 18) (i := x) (v := .inl (F 18 x 3)) rfl f_De_21 ⟨rfl, rfl⟩ (by assumption) rfl rfl ?_
    refine X_eq (st' := [.inl (nI (sp σ x))]) rfl (congrArg (fun zz9 => Sum.inl zz9 :: _) (hsp)) rfl ?_
    exact X_iret rfl rfl rfl (Nat.le_refl _) (Nat.le_refl _) (qi (by rw [hw]; rfl) hq)
  · refine X_run 1 (pc' := 43) (L' := [some (.inr (some (18, x))), some (.inl (w))]) (st' := [.inr (some (18, x))]) rfl ?_
    refine XC_get (a := 18) (i := x) (v := .inl (F 18 x 4)) rfl f_De_24 ⟨rfl, rfl⟩ (by assumption) rfl rfl ?_
    refine X_eq (st' := [.inl (nI (tg σ x))]) rfl (congrArg (fun zz9 => Sum.inl zz9 :: _) (htg)) rfl ?_
    exact X_iret rfl rfl rfl (Nat.le_refl _) (Nat.le_refl _) (qi (by rw [hw]; rfl) hq)
  · refine X_run 1 (pc' := 48) (L' := [some (.inr (some (18, x))), some (.inl (w))]) (st' := [.inr (some (18, x))]) rfl ?_
    refine XC_get (a := 18) (i := x) (v := .inr (some (19, x))) rfl f_De_33 ⟨rfl, rfl⟩ (by assumption) rfl rfl ?_
    refine X_callS (vs := [.inr (some (19, x))]) (st := []) (mc := 0) (ms := 0) rfl ok_Pl_sumOf s_De_43 rfl rfl (Nat.le_of_ble_eq_true rfl) (Nat.le_of_ble_eq_true rfl) (Nat.le_of_ble_eq_true rfl) (Nat.le_of_ble_eq_true rfl) (Nat.le_of_ble_eq_true rfl) (Nat.le_of_ble_eq_true rfl) rfl ?_
    refine c_Pl_sumOf (m := kw σ x) ⟨rfl, rfl⟩ h19 rfl (fun e he => (hkw e he).1) ?_
    show X M_De_tell _ _ 54 [some (.inr (some (18, x))), some (.inl (w))] [.inl (nI ((List.range 4).foldl (fun n e => n + kw σ x e) 0))] (cH F B C Wr E r) 0 0
    refine X_run 2 (pc' := 56) (L' := [some (.inr (some (18, x))), some (.inl (w))]) (st' := [.inl ((nI ((List.range 4).foldl (fun n e => n + kw σ x e) 0)) - 1)]) rfl ?_
    refine X_iret rfl rfl rfl (Nat.le_refl _) (Nat.le_refl _) (qi ?_ hq)
    rw [hw]
    show _ = nI (kn σ x 0 + kn σ x 1 + kn σ x 2 + kn σ x 3)
    have e : (List.range 4).foldl (fun n e => n + kw σ x e) 0 = (kn σ x 0 + kn σ x 1 + kn σ x 2 + kn σ x 3) + 1 := by
      have h4 : x / 40 = 0 ∨ x / 40 = 1 ∨ x / 40 = 2 ∨ x / 40 = 3 := by omega
      simp only [List.range, List.range.loop, List.foldl, kw]
      rcases h4 with h4 | h4 | h4 | h4 <;> rw [h4] <;> simp <;> omega
    rw [e, ← nI_add]
    exact Int32.add_sub_cancel _ 1
  · refine X_run 1 (pc' := 58) (L' := [some (.inr (some (18, x))), some (.inl (w))]) (st' := [.inl (-1)]) rfl ?_
    refine X_iret rfl rfl rfl (Nat.le_refl _) (Nat.le_refl _) (qi ?_ hq)
    rw [if_neg (show ¬ w = 0 from hw0), if_neg (show ¬ w = 1 from hw1), if_neg (show ¬ w = 2 from hw2), if_neg (show ¬ w = 3 from hw3)]
end

