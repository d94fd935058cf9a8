/-! the model's small methods -/
section
variable {g : AH} {I : Nat → Int32} {A : Nat → Nat → Int32} {Q : Option AV → AH → Prop}
theorem c_Mo_in {h : AH} {v a b : Int32} (hq : Q (some (.inl (b2i (decide (a ≤ v ∧ v ≤ b))))) h) : X M_Mo_in (rmo M_Mo_in 0 0) (Zm Q 0 0) 0 (ini M_Mo_in [.inl v, .inl a, .inl b]) [] h 0 0 := by
  show X M_Mo_in _ _ 0 [some (.inl (v)), some (.inl (a)), some (.inl (b))] [] h 0 0
  refine X_run 2 (pc' := 2) (L' := [some (.inl (v)), some (.inl (a)), some (.inl (b))]) (st' := [.inl (a), .inl (v)]) rfl ?_
  refine X_ic_lt (tgt := 14) (nx := 5) rfl rfl rfl (fun h1 => ?_) (fun h1 => ?_)
  · refine X_run 1 (pc' := 15) (L' := [some (.inl (v)), some (.inl (a)), some (.inl (b))]) (st' := [.inl (0)]) rfl ?_
    exact X_iret rfl rfl rfl (Nat.le_refl _) (Nat.le_refl _) (qf (by simp [Int32.not_le.mpr h1]) hq)
  · refine X_run 2 (pc' := 7) (L' := [some (.inl (v)), some (.inl (a)), some (.inl (b))]) (st' := [.inl (b), .inl (v)]) rfl ?_
    refine X_ic_gt (tgt := 14) (nx := 10) rfl rfl rfl (fun h2 => ?_) (fun h2 => ?_)
    · refine X_run 1 (pc' := 15) (L' := [some (.inl (v)), some (.inl (a)), some (.inl (b))]) (st' := [.inl (0)]) rfl ?_
      exact X_iret rfl rfl rfl (Nat.le_refl _) (Nat.le_refl _) (qf (by simp [Int32.not_le.mpr h2]) hq)
    · refine X_run 2 (pc' := 15) (L' := [some (.inl (v)), some (.inl (a)), some (.inl (b))]) (st' := [.inl (1)]) rfl ?_
      exact X_iret rfl rfl rfl (Nat.le_refl _) (Nat.le_refl _) (qt (by simp [Int32.not_lt.mp h1, Int32.not_lt.mp h2]) hq)
theorem c_Mo_isDevice {d : Int32} {n : Nat} (hn : I 1 = nI n) (h4 : n ≤ 4) (hq : Q (some (.inl (b2i (decide (0 ≤ d.toInt ∧ d.toInt < n))))) (mH g I A)) : X M_Mo_isDevice (rmo M_Mo_isDevice 0 0) (Zm Q 0 0) 0 (ini M_Mo_isDevice [mo, .inl d]) [] (mH g I A) 0 0 := by
  show X M_Mo_isDevice _ _ 0 [some (.inr (some (10, 0))), some (.inl (d))] [] (mH g I A) 0 0
  refine X_run 3 (pc' := 3) (L' := [some (.inr (some (10, 0))), some (.inl (d))]) (st' := [.inr (some (10, 0)), .inl (0), .inl (d)]) rfl ?_
  refine XM_get (v := .inl (I 1)) rfl f_Mo_67 rfl rfl ?_
  refine X_run 2 (pc' := 8) (L' := [some (.inr (some (10, 0))), some (.inl (d))]) (st' := [.inl ((I 1) - 1), .inl (0), .inl (d)]) rfl ?_
  refine X_callS (vs := [.inl (d), .inl (0), .inl ((I 1) - 1)]) (st := []) (mc := 0) (ms := 0) rfl ok_Mo_in s_Mo_70 rfl rfl (Nat.le_of_ble_eq_true rfl) (Nat.le_of_ble_eq_true rfl) (Nat.le_of_ble_eq_true rfl) (Nat.le_of_ble_eq_true rfl) (Nat.le_of_ble_eq_true rfl) (Nat.le_of_ble_eq_true rfl) rfl ?_
  refine c_Mo_in ?_
  show X M_Mo_isDevice _ _ 11 [some (.inr (some (10, 0))), some (.inl (d))] [.inl (b2i (decide (0 ≤ d ∧ d ≤ I 1 - 1)))] (mH g I A) 0 0
  refine X_iret rfl rfl (b2i_nar _) (Nat.le_refl _) (Nat.le_refl _) (qi (congrArg b2i (decide_eq_decide.mpr ?_)) hq)
  rw [i32_le, i32_le, hn, il_1, fb_subI0 h4]
  show 0 ≤ _ ∧ _ ↔ _
  omega
theorem c_Mo_known {d e : Nat} (hd : d < 4) (he : e < 4) (hq : Q (some (.inl (A 9 (20 * d + e)))) (mH g I A)) : X M_Mo_known (rmo M_Mo_known 0 0) (Zm Q 0 0) 0 (ini M_Mo_known [mo, .inl (nI d), .inl (nI e)]) [] (mH g I A) 0 0 := by
  show X M_Mo_known _ _ 0 [some (.inr (some (10, 0))), some (.inl (nI d)), some (.inl (nI e))] [] (mH g I A) 0 0
  refine X_run 1 (pc' := 1) (L' := [some (.inr (some (10, 0))), some (.inl (nI d)), some (.inl (nI e))]) (st' := [.inr (some (10, 0))]) rfl ?_
  refine XM_get (v := .inr (some (11, 9))) rfl f_Mo_31 rfl rfl ?_
  refine X_run 9 (pc' := 14) (L' := [some (.inr (some (10, 0))), some (.inl (nI d)), some (.inl (nI e))]) (st' := [.inl (((16 * (nI d)) + (4 * (nI d))) + (nI e)), .inr (some (11, 9))]) rfl ?_
  refine X_eq (st' := [.inl (nI (20 * d + e)), .inr (some (11, 9))]) rfl (congrArg (fun z => Sum.inl z :: _) (by first | rfl | (simp only [il_0, il_1, il_2, il_3, il_4, il_5, il_6, il_7, il_16, il_20, il_40, il_160, pk_mul, nI_add]; done) | (simp only [il_0, il_1, il_2, il_3, il_4, il_5, il_6, il_7, il_16, il_20, il_40, il_160, pk_mul, nI_add]; exact congrArg nI (by omega)))) rfl ?_
  refine XM_ald (k := 9) (i := (20 * d + e)) rfl (by decide) (by simp only [mln]; omega) rfl ?_
  exact X_iret rfl rfl rfl (Nat.le_refl _) (Nat.le_refl _) hq
end

