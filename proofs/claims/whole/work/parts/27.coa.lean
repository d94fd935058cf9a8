/-! the component's leaves -/
section
variable {F : CF} {B : CB} {C : CC} {Wr : Nat → Option Nd} {E : Nat → Nat → Bool} {r : AH} {Q : Option AV → AH → Prop} {h : AH}
theorem c_Pl_numberOf {a b : Nat} (hq : Q (some (.inl (nI (40 * a + b)))) h) : X M_Pl_numberOf (rmo M_Pl_numberOf 0 0) (Zm Q 0 0) 0 (ini M_Pl_numberOf [.inl (nI a), .inl (nI b)]) [] h 0 0 := by
  show X M_Pl_numberOf _ _ 0 [some (.inl (nI a)), some (.inl (nI b))] [] h 0 0
  refine X_run 5 (pc' := 6) (L' := [some (.inl (nI a)), some (.inl (nI b))]) (st' := [.inl ((40 * (nI a)) + (nI b))]) rfl ?_
  refine X_eq (st' := [.inl (nI (40 * a + b))]) rfl (congrArg (fun zz9 => Sum.inl zz9 :: _) (by first | rfl | (simp only [il_0, il_1, il_2, il_3, il_4, il_5, il_6, il_7, il_16, il_20, il_40, il_160, pk_mul, nI_add]; done) | (simp only [il_0, il_1, il_2, il_3, il_4, il_5, il_6, il_7, il_16, il_20, il_40, il_160, pk_mul, nI_add]; exact congrArg nI (by omega)))) rfl ?_
  exact X_iret rfl rfl rfl (Nat.le_refl _) (Nat.le_refl _) hq
theorem c_Pl_asInt {b : Bool} (hq : Q (some (.inl (b2i b))) h) : X M_Pl_asInt (rmo M_Pl_asInt 0 0) (Zm Q 0 0) 0 (ini M_Pl_asInt [.inl (b2i b)]) [] h 0 0 := by
  show X M_Pl_asInt _ _ 0 [some (.inl (b2i b))] [] h 0 0
  refine X_run 1 (pc' := 1) (L' := [some (.inl (b2i b))]) (st' := [.inl (b2i b)]) rfl ?_
  refine X_if_eq (tgt := 8) (nx := 4) rfl rfl rfl (fun h1 => ?_) (fun h1 => ?_)
  · rw [b2i_0] at h1
    refine X_run 1 (pc' := 9) (L' := [some (.inl (b2i b))]) (st' := [.inl (0)]) rfl ?_
    exact X_iret rfl rfl rfl (Nat.le_refl _) (Nat.le_refl _) (qf h1 hq)
  · rw [b2i_n0] at h1
    refine X_run 2 (pc' := 9) (L' := [some (.inl (b2i b))]) (st' := [.inl (1)]) rfl ?_
    exact X_iret rfl rfl rfl (Nat.le_refl _) (Nat.le_refl _) (qt h1 hq)
theorem c_Pl_isName {v : Int32} (hq : Q (some (.inl (b2i (decide (1 ≤ v.toInt ∧ v.toInt ≤ 999))))) h) : X M_Pl_isName (rmo M_Pl_isName 0 0) (Zm Q 0 0) 0 (ini M_Pl_isName [.inl v]) [] h 0 0 := by
  have e1 : (1 : Int32).toInt = 1 := by decide
  have e9 : (999 : Int32).toInt = 999 := by decide
  show X M_Pl_isName _ _ 0 [some (.inl (v))] [] h 0 0
  refine X_run 2 (pc' := 2) (L' := [some (.inl (v))]) (st' := [.inl (1), .inl (v)]) rfl ?_
  refine X_ic_lt (tgt := 16) (nx := 5) rfl rfl rfl (fun h1 => ?_) (fun h1 => ?_)
  · rw [i32_lt, e1] at h1
    refine X_run 1 (pc' := 17) (L' := [some (.inl (v))]) (st' := [.inl (0)]) rfl ?_
    exact X_iret rfl rfl rfl (Nat.le_refl _) (Nat.le_refl _) (qf (decide_eq_false (by omega)) hq)
  · rw [i32_lt, e1] at h1
    refine X_run 2 (pc' := 9) (L' := [some (.inl (v))]) (st' := [.inl (999), .inl (v)]) rfl ?_
    refine X_ic_gt (tgt := 16) (nx := 12) rfl rfl rfl (fun h2 => ?_) (fun h2 => ?_)
    · rw [i32_lt, e9] at h2
      refine X_run 1 (pc' := 17) (L' := [some (.inl (v))]) (st' := [.inl (0)]) rfl ?_
      exact X_iret rfl rfl rfl (Nat.le_refl _) (Nat.le_refl _) (qf (decide_eq_false (by omega)) hq)
    · rw [i32_lt, e9] at h2
      refine X_run 2 (pc' := 17) (L' := [some (.inl (v))]) (st' := [.inl (1)]) rfl ?_
      exact X_iret rfl rfl rfl (Nat.le_refl _) (Nat.le_refl _) (qt (decide_eq_true (by omega)) hq)
theorem c_Dv_known {d : Nat} (hd : d < 4) (h15 : E 15 d = true) (h16 : E 16 d = true) (hn : F 15 d 0 = nI d) (hq : Q (some (.inr (some (17, 4 * d + d)))) (cH F B C Wr E r)) : X M_Dv_known (rmo M_Dv_known 0 0) (Zm Q 0 0) 0 (ini M_Dv_known [.inr (some (15, d))]) [] (cH F B C Wr E r) 0 0 := by
  show X M_Dv_known _ _ 0 [some (.inr (some (15, d)))] [] (cH F B C Wr E r) 0 0
  refine X_run 1 (pc' := 1) (L' := [some (.inr (some (15, d)))]) (st' := [.inr (some (15, d))]) rfl ?_
  refine XC_get (a := 15) (i := d) (v := .inr (some (16, d))) rfl f_Dv_11 ⟨rfl, rfl⟩ (by assumption) rfl rfl ?_
  refine X_run 1 (pc' := 5) (L' := [some (.inr (some (15, d)))]) (st' := [.inr (some (15, d)), .inr (some (16, d))]) rfl ?_
  refine XC_get (a := 15) (i := d) (v := .inl (F 15 d 0)) rfl f_Dv_16 ⟨rfl, rfl⟩ (by assumption) rfl rfl ?_
  refine X_eq (st' := [.inl (nI d), .inr (some (16, d))]) rfl (congrArg (fun zz9 => Sum.inl zz9 :: _) hn) rfl ?_
  refine XC_ald (a := 16) (i := d) (j := d) (v := (some (17, 4 * d + d))) rfl ⟨rfl, by decide, by decide⟩ (by assumption) (by simp only [rLn]; omega) (if_pos (by omega)) rfl ?_
  exact X_aret rfl rfl (Or.inr ⟨_, rfl⟩) (Nat.le_refl _) (Nat.le_refl _) hq
theorem c_Dv_done {d : Nat} (hd : d < 4) (h15 : E 15 d = true) (h16 : E 16 d = true) (h17 : E 17 (4 * d + d) = true) (hn : F 15 d 0 = nI d) (hq : Q (some (.inl (B 17 (4 * d + d) d))) (cH F B C Wr E r)) : X M_Dv_done (rmo M_Dv_done 0 0) (Zm Q 0 0) 0 (ini M_Dv_done [.inr (some (15, d))]) [] (cH F B C Wr E r) 0 0 := by
  show X M_Dv_done _ _ 0 [some (.inr (some (15, d)))] [] (cH F B C Wr E r) 0 0
  refine X_run 1 (pc' := 1) (L' := [some (.inr (some (15, d)))]) (st' := [.inr (some (15, d))]) rfl ?_
  refine XC_get (a := 15) (i := d) (v := .inr (some (16, d))) rfl f_Dv_11 ⟨rfl, rfl⟩ (by assumption) rfl rfl ?_
  refine X_run 1 (pc' := 5) (L' := [some (.inr (some (15, d)))]) (st' := [.inr (some (15, d)), .inr (some (16, d))]) rfl ?_
  refine XC_get (a := 15) (i := d) (v := .inl (F 15 d 0)) rfl f_Dv_16 ⟨rfl, rfl⟩ (by assumption) rfl rfl ?_
  refine X_eq (st' := [.inl (nI d), .inr (some (16, d))]) rfl (congrArg (fun zz9 => Sum.inl zz9 :: _) hn) rfl ?_
  refine XC_ald (a := 16) (i := d) (j := d) (v := (some (17, 4 * d + d))) rfl ⟨rfl, by decide, by decide⟩ (by assumption) (by simp only [rLn]; omega) (if_pos (by omega)) rfl ?_
  refine X_run 1 (pc' := 10) (L' := [some (.inr (some (15, d)))]) (st' := [.inr (some (15, d)), .inr (some (17, 4 * d + d))]) rfl ?_
  refine XC_get (a := 15) (i := d) (v := .inl (F 15 d 0)) rfl f_Dv_16 ⟨rfl, rfl⟩ (by assumption) rfl rfl ?_
  refine X_eq (st' := [.inl (nI d), .inr (some (17, 4 * d + d))]) rfl (congrArg (fun zz9 => Sum.inl zz9 :: _) hn) rfl ?_
  refine XC_ild (a := 17) (i := 4 * d + d) (j := d) rfl ⟨rfl, rfl⟩ (by assumption) (by simp only [rLn]; omega) rfl ?_
  exact X_iret rfl rfl rfl (Nat.le_refl _) (Nat.le_refl _) hq
theorem c_Dv_noteOwnDeed {d m : Nat} (hd : d < 4) (h15 : E 15 d = true) (h16 : E 16 d = true) (h17 : E 17 (4 * d + d) = true) (hn : F 15 d 0 = nI d) (hm : B 17 (4 * d + d) d = nI m) (hq : Q none (cH F (u3 B 17 (4 * d + d) d (nI (m + 1))) C Wr E r)) : X M_Dv_noteOwnDeed (rmo M_Dv_noteOwnDeed 0 0) (Zm Q 0 0) 0 (ini M_Dv_noteOwnDeed [.inr (some (15, d))]) [] (cH F B C Wr E r) 0 0 := by
  show X M_Dv_noteOwnDeed _ _ 0 [some (.inr (some (15, d)))] [] (cH F B C Wr E r) 0 0
  refine X_run 1 (pc' := 1) (L' := [some (.inr (some (15, d)))]) (st' := [.inr (some (15, d))]) rfl ?_
  refine XC_get (a := 15) (i := d) (v := .inr (some (16, d))) rfl f_Dv_11 ⟨rfl, rfl⟩ (by assumption) rfl rfl ?_
  refine X_run 1 (pc' := 5) (L' := [some (.inr (some (15, d)))]) (st' := [.inr (some (15, d)), .inr (some (16, d))]) rfl ?_
  refine XC_get (a := 15) (i := d) (v := .inl (F 15 d 0)) rfl f_Dv_16 ⟨rfl, rfl⟩ (by assumption) rfl rfl ?_
  refine X_eq (st' := [.inl (nI d), .inr (some (16, d))]) rfl (congrArg (fun zz9 => Sum.inl zz9 :: _) hn) rfl ?_
  refine XC_ald (a := 16) (i := d) (j := d) (v := (some (17, 4 * d + d))) rfl ⟨rfl, by decide, by decide⟩ (by assumption) (by simp only [rLn]; omega) (if_pos (by omega)) rfl ?_
  refine X_run 1 (pc' := 10) (L' := [some (.inr (some (15, d)))]) (st' := [.inr (some (15, d)), .inr (some (17, 4 * d + d))]) rfl ?_
  refine XC_get (a := 15) (i := d) (v := .inl (F 15 d 0)) rfl f_Dv_16 ⟨rfl, rfl⟩ (by assumption) rfl rfl ?_
  refine X_eq (st' := [.inl (nI d), .inr (some (17, 4 * d + d))]) rfl (congrArg (fun zz9 => Sum.inl zz9 :: _) hn) rfl ?_
  refine X_run 1 (pc' := 14) (L' := [some (.inr (some (15, d)))]) (st' := [.inl (nI d), .inr (some (17, 4 * d + d)), .inl (nI d), .inr (some (17, 4 * d + d))]) rfl ?_
  refine XC_ild (a := 17) (i := 4 * d + d) (j := d) rfl ⟨rfl, rfl⟩ (by assumption) (by simp only [rLn]; omega) rfl ?_
  refine X_eq (st' := [.inl (nI m), .inl (nI d), .inr (some (17, 4 * d + d))]) rfl (congrArg (fun zz9 => Sum.inl zz9 :: _) hm) rfl ?_
  refine X_run 2 (pc' := 17) (L' := [some (.inr (some (15, d)))]) (st' := [.inl ((nI m) + 1), .inl (nI d), .inr (some (17, 4 * d + d))]) rfl ?_
  refine X_eq (st' := [.inl (nI (m + 1)), .inl (nI d), .inr (some (17, 4 * d + d))]) rfl (congrArg (fun zz9 => Sum.inl zz9 :: _) (by first | rfl | (simp only [il_0, il_1, il_2, il_3, il_4, il_5, il_6, il_7, il_16, il_20, il_40, il_160, pk_mul, nI_add]; done) | (simp only [il_0, il_1, il_2, il_3, il_4, il_5, il_6, il_7, il_16, il_20, il_40, il_160, pk_mul, nI_add]; exact congrArg nI (by omega)))) rfl ?_
  refine XC_ist (a := 17) (i := 4 * d + d) (j := d) rfl ⟨rfl, rfl⟩ (by assumption) (by simp only [rLn]; omega) rfl ?_
  exact X_vret rfl rfl (Nat.le_refl _) (Nat.le_refl _) hq
theorem c_De_standsBefore {x y : Nat} {σ : Sg} (hx : E 18 x = true) (hy : E 18 y = true) (sx : F 18 x 3 = nI (sp σ x)) (sy : F 18 y 3 = nI (sp σ y)) (dx : F 18 x 0 = nI (x / 40)) (dy : F 18 y 0 = nI (y / 40)) (bx : sp σ x < 1000) (bY : sp σ y < 1000) (lx : x < 160) (ly : y < 160) (hq : Q (some (.inl (b2i (ahd σ x y)))) (cH F B C Wr E r)) : X M_De_standsBefore (rmo M_De_standsBefore 0 0) (Zm Q 0 0) 0 (ini M_De_standsBefore [.inr (some (18, x)), .inr (some (18, y))]) [] (cH F B C Wr E r) 0 0 := by
  show X M_De_standsBefore _ _ 0 [some (.inr (some (18, x))), some (.inr (some (18, y)))] [] (cH F B C Wr E r) 0 0
  refine X_run 1 (pc' := 1) (L' := [some (.inr (some (18, x))), some (.inr (some (18, y)))]) (st' := [.inr (some (18, x))]) rfl ?_
  refine XC_get (a := 18) (i := x) (v := .inl (F 18 x 3)) rfl f_De_21 ⟨rfl, rfl⟩ (by assumption) rfl rfl ?_
  refine X_eq (st' := [.inl (nI (sp σ x))]) rfl (congrArg (fun zz9 => Sum.inl zz9 :: _) sx) rfl ?_
  refine X_run 1 (pc' := 5) (L' := [some (.inr (some (18, x))), some (.inr (some (18, y)))]) (st' := [.inr (some (18, y)), .inl (nI (sp σ x))]) rfl ?_
  refine XC_get (a := 18) (i := y) (v := .inl (F 18 y 3)) rfl f_De_21 ⟨rfl, rfl⟩ (by assumption) rfl rfl ?_
  refine X_eq (st' := [.inl (nI (sp σ y)), .inl (nI (sp σ x))]) rfl (congrArg (fun zz9 => Sum.inl zz9 :: _) sy) rfl ?_
  refine X_ic_eq (tgt := 30) (nx := 11) rfl rfl rfl (fun h1 => ?_) (fun h1 => ?_)
  · have h1 := li_eq (by omega) (by omega) h1
    refine X_run 1 (pc' := 31) (L' := [some (.inr (some (18, x))), some (.inr (some (18, y)))]) (st' := [.inr (some (18, x))]) rfl ?_
    refine XC_get (a := 18) (i := x) (v := .inl (F 18 x 0)) rfl f_De_9 ⟨rfl, rfl⟩ (by assumption) rfl rfl ?_
    refine X_eq (st' := [.inl (nI (x / 40))]) rfl (congrArg (fun zz9 => Sum.inl zz9 :: _) dx) rfl ?_
    refine X_run 1 (pc' := 35) (L' := [some (.inr (some (18, x))), some (.inr (some (18, y)))]) (st' := [.inr (some (18, y)), .inl (nI (x / 40))]) rfl ?_
    refine XC_get (a := 18) (i := y) (v := .inl (F 18 y 0)) rfl f_De_9 ⟨rfl, rfl⟩ (by assumption) rfl rfl ?_
    refine X_eq (st' := [.inl (nI (y / 40)), .inl (nI (x / 40))]) rfl (congrArg (fun zz9 => Sum.inl zz9 :: _) dy) rfl ?_
    refine X_ic_ge (tgt := 45) (nx := 41) rfl rfl rfl (fun h2 => ?_) (fun h2 => ?_)
    · have h2 := li_le (by omega) (by omega) h2
      refine X_run 1 (pc' := 46) (L' := [some (.inr (some (18, x))), some (.inr (some (18, y)))]) (st' := [.inl (0)]) rfl ?_
      exact X_iret rfl rfl rfl (Nat.le_refl _) (Nat.le_refl _) (qf (by simp [ahd, h1]; omega) hq)
    · have h2 := li_nle (by omega) (by omega) h2
      refine X_run 2 (pc' := 46) (L' := [some (.inr (some (18, x))), some (.inr (some (18, y)))]) (st' := [.inl (1)]) rfl ?_
      exact X_iret rfl rfl rfl (Nat.le_refl _) (Nat.le_refl _) (qt (by simp [ahd, h1, h2]) hq)
  · have h1 := li_ne h1
    refine X_run 1 (pc' := 12) (L' := [some (.inr (some (18, x))), some (.inr (some (18, y)))]) (st' := [.inr (some (18, x))]) rfl ?_
    refine XC_get (a := 18) (i := x) (v := .inl (F 18 x 3)) rfl f_De_21 ⟨rfl, rfl⟩ (by assumption) rfl rfl ?_
    refine X_eq (st' := [.inl (nI (sp σ x))]) rfl (congrArg (fun zz9 => Sum.inl zz9 :: _) sx) rfl ?_
    refine X_run 1 (pc' := 16) (L' := [some (.inr (some (18, x))), some (.inr (some (18, y)))]) (st' := [.inr (some (18, y)), .inl (nI (sp σ x))]) rfl ?_
    refine XC_get (a := 18) (i := y) (v := .inl (F 18 y 3)) rfl f_De_21 ⟨rfl, rfl⟩ (by assumption) rfl rfl ?_
    refine X_eq (st' := [.inl (nI (sp σ y)), .inl (nI (sp σ x))]) rfl (congrArg (fun zz9 => Sum.inl zz9 :: _) sy) rfl ?_
    refine X_ic_ge (tgt := 26) (nx := 22) rfl rfl rfl (fun h2 => ?_) (fun h2 => ?_)
    · have h2 := li_le (by omega) (by omega) h2
      refine X_run 2 (pc' := 46) (L' := [some (.inr (some (18, x))), some (.inr (some (18, y)))]) (st' := [.inl (0)]) rfl ?_
      exact X_iret rfl rfl rfl (Nat.le_refl _) (Nat.le_refl _) (qf (by simp [ahd, h1]; omega) hq)
    · have h2 := li_nle (by omega) (by omega) h2
      refine X_run 2 (pc' := 46) (L' := [some (.inr (some (18, x))), some (.inr (some (18, y)))]) (st' := [.inl (1)]) rfl ?_
      exact X_iret rfl rfl rfl (Nat.le_refl _) (Nat.le_refl _) (qt (by simp [ahd, h2]) hq)
end

