/-! the model does a deed; may it be done -/
def stkF (σ : Sg) (see : Nat → Nat) (t : Nat) : Bool := strF σ see (unF σ see) (thF σ see) t
def canT (σ : Sg) (d t : Int32) (b : Bool) : Bool := canD σ d && decide (0 ≤ t.toInt ∧ t.toInt ≤ 159) && thF σ (rk σ d.toNatClampNeg d.toNatClampNeg) t.toNatClampNeg && (stkF σ (rk σ d.toNatClampNeg d.toNatClampNeg) t.toNatClampNeg == b)
theorem rng_nI {t : Int32} {n : Nat} (hn : n < 2 ^ 31) (h : 0 ≤ t.toInt ∧ t.toInt ≤ n) : ∃ k, k ≤ n ∧ t = nI k := by
  obtain ⟨j, hj, e⟩ := nI_of (x := t) (by rw [i32_lt]; show ¬ t.toInt < 0; omega)
  refine ⟨j, ?_, e⟩
  rw [e, nI_toInt hj] at h
  omega
theorem canD_t {σ : Sg} (hB : nd σ ≤ 4) {d : Int32} (h : canD σ d = true) : ∃ k, k < nd σ ∧ d = nI k ∧ mny σ k < 40 ∧ d.toNatClampNeg = k := by
  simp only [canD, Bool.and_eq_true] at h
  obtain ⟨k, hk, e⟩ := isD_t h.1
  have hcl : (nI k).toNatClampNeg = k := nI_clamp (by omega)
  refine ⟨k, hk, e, ?_, by rw [e, hcl]⟩
  have h2 := of_decide_eq_true h.2
  rwa [e, hcl] at h2
theorem in159 {v : Int32} : decide ((0 : Int32) ≤ v ∧ v ≤ 159) = decide (0 ≤ v.toInt ∧ v.toInt ≤ 159) := by
  refine decide_eq_decide.mpr ?_
  rw [i32_le, i32_le]
  rfl
section
variable {g : AH} {I : Nat → Int32} {A : Nat → Nat → Int32} {Q : Option AV → AH → Prop} {σ : Sg} {see : Nat → Nat}
theorem c_Mo_can {d t : Int32} {b : Bool} (hM : MB σ I A) (hW : WF σ)
    (hq : ∀ (I' : Nat → Int32) (A' : Nat → Nat → Int32), MB σ I' A' → (canT σ d t b = true → MV σ (rk σ d.toNatClampNeg d.toNatClampNeg) I' A') → Q (some (.inl (b2i (canT σ d t b)))) (mH g I' A')) : X M_Mo_can (rmo M_Mo_can 0 0) (Zm Q 0 0) 0 (ini M_Mo_can [mo, .inl d, .inl t, .inl (b2i b)]) [] (mH g I A) 0 0 := by
  show X M_Mo_can _ _ 0 [some (.inr (some (10, 0))), some (.inl (d)), some (.inl (t)), some (.inl (b2i b))] [] (mH g I A) 0 0
  refine X_run 2 (pc' := 2) (L' := [some (.inr (some (10, 0))), some (.inl (d)), some (.inl (t)), some (.inl (b2i b))]) (st' := [.inl (d), .inr (some (10, 0))]) rfl ?_
  refine X_callV (vs := [.inl (d)]) (st := []) (mc := 0) (ms := 0) rfl ok_Mo_canDo v_Mo_124 rfl rfl rfl (Nat.le_of_ble_eq_true rfl) (Nat.le_of_ble_eq_true rfl) (Nat.le_of_ble_eq_true rfl) (Nat.le_of_ble_eq_true rfl) (Nat.le_of_ble_eq_true rfl) (Nat.le_of_ble_eq_true rfl) rfl ?_
  refine c_Mo_canDo hM ?_
  show X M_Mo_can _ _ 5 [some (.inr (some (10, 0))), some (.inl (d)), some (.inl (t)), some (.inl (b2i b))] [.inl (b2i (canD σ d))] (mH g I A) 0 0
  refine X_if_eq (tgt := 19) (nx := 8) rfl rfl rfl (fun h1 => ?_) (fun h1 => ?_)
  · rw [b2i_0] at h1
    have e : canT σ d t b = false := by simp [canT, h1]
    refine X_run 1 (pc' := 20) (L' := [some (.inr (some (10, 0))), some (.inl (d)), some (.inl (t)), some (.inl (b2i b))]) (st' := [.inl (0)]) rfl ?_
    exact X_iret rfl rfl rfl (Nat.le_refl _) (Nat.le_refl _) (qf e (hq I A hM (fun z => by rw [e] at z; cases z)))
  · rw [b2i_n0] at h1
    refine X_run 3 (pc' := 13) (L' := [some (.inr (some (10, 0))), some (.inl (d)), some (.inl (t)), some (.inl (b2i b))]) (st' := [.inl (159), .inl (0), .inl (t)]) rfl ?_
    refine X_callS (vs := [.inl (t), .inl (0), .inl (159)]) (st := []) (mc := 0) (ms := 0) rfl ok_Mo_in s_Mo_70 rfl rfl (Nat.le_of_ble_eq_true rfl) (Nat.le_of_ble_eq_true rfl) (Nat.le_of_ble_eq_true rfl) (Nat.le_of_ble_eq_true rfl) (Nat.le_of_ble_eq_true rfl) (Nat.le_of_ble_eq_true rfl) rfl ?_
    refine c_Mo_in ?_
    show X M_Mo_can _ _ 16 [some (.inr (some (10, 0))), some (.inl (d)), some (.inl (t)), some (.inl (b2i b))] [.inl (b2i (decide ((0 : Int32) ≤ t ∧ t ≤ 159)))] (mH g I A) 0 0
    refine X_eq (st' := [.inl (b2i (decide (0 ≤ t.toInt ∧ t.toInt ≤ 159)))]) rfl (congrArg (fun z => Sum.inl z :: _) (congrArg b2i in159)) rfl ?_
    refine X_if_ne (tgt := 21) (nx := 19) rfl rfl rfl (fun h2 => ?_) (fun h2 => ?_)
    · rw [b2i_n0] at h2
      obtain ⟨k, hk, rfl, hm, hcl⟩ := canD_t hM.1.1.1 h1
      obtain ⟨y, hy, rfl⟩ := rng_nI (n := 159) (by decide) (of_decide_eq_true h2)
      have hcy : (nI y).toNatClampNeg = y := nI_clamp (by omega)
      have h4 := hM.1.1.1
      rw [hcl] at hq
      refine X_run 2 (pc' := 23) (L' := [some (.inr (some (10, 0))), some (.inl (nI k)), some (.inl (nI y)), some (.inl (b2i b))]) (st' := [.inl (nI k), .inr (some (10, 0))]) rfl ?_
      refine X_callV (vs := [.inl (nI k)]) (st := []) (mc := 0) (ms := 0) rfl ok_Mo_sees v_Mo_127 rfl rfl rfl (Nat.le_of_ble_eq_true rfl) (Nat.le_of_ble_eq_true rfl) (Nat.le_of_ble_eq_true rfl) (Nat.le_of_ble_eq_true rfl) (Nat.le_of_ble_eq_true rfl) (Nat.le_of_ble_eq_true rfl) rfl ?_
      refine c_Mo_sees hM hW (by omega) (fun I2 A2 hM2 hV => ?_)
      show X M_Mo_can _ _ 26 [some (.inr (some (10, 0))), some (.inl (nI k)), some (.inl (nI y)), some (.inl (b2i b))] [] (mH g I2 A2) 0 0
      obtain ⟨v1, v2, v3, v4⟩ := hV
      refine X_run 1 (pc' := 27) (L' := [some (.inr (some (10, 0))), some (.inl (nI k)), some (.inl (nI y)), some (.inl (b2i b))]) (st' := [.inr (some (10, 0))]) rfl ?_
      refine XM_get (v := .inr (some (11, 16))) rfl f_Mo_51 rfl rfl ?_
      refine X_run 1 (pc' := 31) (L' := [some (.inr (some (10, 0))), some (.inl (nI k)), some (.inl (nI y)), some (.inl (b2i b))]) (st' := [.inl (nI y), .inr (some (11, 16))]) rfl ?_
      refine XM_zld (k := 16) (i := y) rfl (by decide) (by simp only [mln]; omega) rfl ?_
      refine X_eq (st' := [.inl (b2i (thF σ (rk σ k k) y))]) rfl (congrArg (fun z => Sum.inl z :: _) (v3 y (by omega))) rfl ?_
      refine X_if_eq (tgt := 48) (nx := 35) rfl rfl rfl (fun h3 => ?_) (fun h3 => ?_)
      · rw [b2i_0] at h3
        have e : canT σ (nI k) (nI y) b = false := by simp [canT, hcl, hcy, h3]
        refine X_run 1 (pc' := 49) (L' := [some (.inr (some (10, 0))), some (.inl (nI k)), some (.inl (nI y)), some (.inl (b2i b))]) (st' := [.inl (0)]) rfl ?_
        exact X_iret rfl rfl rfl (Nat.le_refl _) (Nat.le_refl _) (qf e (hq I2 A2 hM2 (fun z => by rw [e] at z; cases z)))
      · rw [b2i_n0] at h3
        refine X_run 2 (pc' := 37) (L' := [some (.inr (some (10, 0))), some (.inl (nI k)), some (.inl (nI y)), some (.inl (b2i b))]) (st' := [.inl (nI y), .inr (some (10, 0))]) rfl ?_
        refine X_callV (vs := [.inl (nI y)]) (st := []) (mc := 0) (ms := 0) rfl ok_Mo_isStruck v_Mo_131 rfl rfl rfl (Nat.le_of_ble_eq_true rfl) (Nat.le_of_ble_eq_true rfl) (Nat.le_of_ble_eq_true rfl) (Nat.le_of_ble_eq_true rfl) (Nat.le_of_ble_eq_true rfl) (Nat.le_of_ble_eq_true rfl) rfl ?_
        refine c_Mo_isStruck hM2.1 v1 v2 v3 (by omega) hM2.2.1 ?_
        show X M_Mo_can _ _ 40 [some (.inr (some (10, 0))), some (.inl (nI k)), some (.inl (nI y)), some (.inl (b2i b))] [.inl (b2i (stkF σ (rk σ k k) y))] (mH g I2 A2) 0 0
        refine X_run 1 (pc' := 41) (L' := [some (.inr (some (10, 0))), some (.inl (nI k)), some (.inl (nI y)), some (.inl (b2i b))]) (st' := [.inl (b2i b), .inl (b2i (stkF σ (rk σ k k) y))]) rfl ?_
        refine X_ic_ne (tgt := 48) (nx := 44) rfl rfl rfl (fun h5 => ?_) (fun h5 => ?_)
        · have h5 : stkF σ (rk σ k k) y ≠ b := fun z => h5 (by rw [z])
          have e : canT σ (nI k) (nI y) b = false := by
            simp only [canT, hcl, hcy]
            rw [show (stkF σ (rk σ k k) y == b) = false by simpa using h5, Bool.and_false]
          refine X_run 1 (pc' := 49) (L' := [some (.inr (some (10, 0))), some (.inl (nI k)), some (.inl (nI y)), some (.inl (b2i b))]) (st' := [.inl (0)]) rfl ?_
          exact X_iret rfl rfl rfl (Nat.le_refl _) (Nat.le_refl _) (qf e (hq I2 A2 hM2 (fun z => by rw [e] at z; cases z)))
        · have h5 : stkF σ (rk σ k k) y = b := by
            revert h5
            cases stkF σ (rk σ k k) y <;> cases b <;> simp [b2i]
          have e : canT σ (nI k) (nI y) b = true := by
            simp only [canT, hcl, hcy, h1, h2, h3, h5]
            simp
          refine X_run 2 (pc' := 49) (L' := [some (.inr (some (10, 0))), some (.inl (nI k)), some (.inl (nI y)), some (.inl (b2i b))]) (st' := [.inl (1)]) rfl ?_
          exact X_iret rfl rfl rfl (Nat.le_refl _) (Nat.le_refl _) (qt e (hq I2 A2 hM2 (fun _ => ⟨v1, v2, v3, v4⟩)))
    · rw [b2i_0] at h2
      have e : canT σ d t b = false := by
        simp only [canT]
        rw [h2]
        simp
      refine X_run 1 (pc' := 20) (L' := [some (.inr (some (10, 0))), some (.inl (d)), some (.inl (t)), some (.inl (b2i b))]) (st' := [.inl (0)]) rfl ?_
      exact X_iret rfl rfl rfl (Nat.le_refl _) (Nat.le_refl _) (qf e (hq I A hM (fun z => by rw [e] at z; cases z)))
theorem c_Mo_does {d w t : Nat} {v n : Int32} (hM : MB σ I A) (hd : d < 4) (hm : mny σ d < 40) (hsg : sgB (doS σ d w t v n))
    (hq : ∀ (A' : Nat → Nat → Int32), MB (doS σ d w t v n) I A' → Q (some (.inl (nI (40 * d + mny σ d)))) (mH g I A')) : X M_Mo_does (rmo M_Mo_does 0 0) (Zm Q 0 0) 0 (ini M_Mo_does [mo, .inl (nI d), .inl (nI w), .inl (nI t), .inl v, .inl n]) [] (mH g I A) 0 0 := by
  obtain ⟨x, hx⟩ : ∃ x, x = 40 * d + mny σ d := ⟨_, rfl⟩
  have hx2 : x < 160 := by omega
  have hB := hM.1.1
  rw [← hx] at hq
  show X M_Mo_does _ _ 0 [some (.inr (some (10, 0))), some (.inl (nI d)), some (.inl (nI w)), some (.inl (nI t)), some (.inl (v)), some (.inl (n)), none, none, none] [] (mH g I A) 0 0
  refine X_run 4 (pc' := 5) (L' := [some (.inr (some (10, 0))), some (.inl (nI d)), some (.inl (nI w)), some (.inl (nI t)), some (.inl (v)), some (.inl (n)), none, none, none]) (st' := [.inr (some (10, 0)), .inl (40 * (nI d))]) rfl ?_
  refine XM_get (v := .inr (some (11, 2))) rfl f_Mo_7 rfl rfl ?_
  refine X_run 1 (pc' := 9) (L' := [some (.inr (some (10, 0))), some (.inl (nI d)), some (.inl (nI w)), some (.inl (nI t)), some (.inl (v)), some (.inl (n)), none, none, none]) (st' := [.inl (nI d), .inr (some (11, 2)), .inl (40 * (nI d))]) rfl ?_
  refine XM_ald (k := 2) (i := d) rfl (by decide) (by simp only [mln]; omega) rfl ?_
  refine X_eq (st' := [.inl (nI (mny σ d)), .inl (40 * (nI d))]) rfl (congrArg (fun z => Sum.inl z :: _) (hM.2.2.2.1 d hd)) rfl ?_
  refine X_run 1 (pc' := 11) (L' := [some (.inr (some (10, 0))), some (.inl (nI d)), some (.inl (nI w)), some (.inl (nI t)), some (.inl (v)), some (.inl (n)), none, none, none]) (st' := [.inl ((40 * (nI d)) + (nI (mny σ d)))]) rfl ?_
  refine X_eq (st' := [.inl (nI x)]) rfl (congrArg (fun z => Sum.inl z :: _) (by rw [hx, il_40, pk_mul, nI_add])) rfl ?_
  refine X_run 2 (pc' := 14) (L' := [some (.inr (some (10, 0))), some (.inl (nI d)), some (.inl (nI w)), some (.inl (nI t)), some (.inl (v)), some (.inl (n)), some (.inl (nI x)), none, none]) (st' := [.inr (some (10, 0))]) rfl ?_
  refine XM_get (v := .inr (some (11, 3))) rfl f_Mo_13 rfl rfl ?_
  refine X_run 2 (pc' := 20) (L' := [some (.inr (some (10, 0))), some (.inl (nI d)), some (.inl (nI w)), some (.inl (nI t)), some (.inl (v)), some (.inl (n)), some (.inl (nI x)), none, none]) (st' := [.inl (nI w), .inl (nI x), .inr (some (11, 3))]) rfl ?_
  refine XM_ast (k := 3) (i := x) rfl (by decide) (by simp only [mln]; omega) rfl ?_
  refine X_run 1 (pc' := 22) (L' := [some (.inr (some (10, 0))), some (.inl (nI d)), some (.inl (nI w)), some (.inl (nI t)), some (.inl (v)), some (.inl (n)), some (.inl (nI x)), none, none]) (st' := [.inr (some (10, 0))]) rfl ?_
  refine XM_get (v := .inr (some (11, 5))) rfl f_Mo_19 rfl rfl ?_
  refine X_run 2 (pc' := 28) (L' := [some (.inr (some (10, 0))), some (.inl (nI d)), some (.inl (nI w)), some (.inl (nI t)), some (.inl (v)), some (.inl (n)), some (.inl (nI x)), none, none]) (st' := [.inl (nI t), .inl (nI x), .inr (some (11, 5))]) rfl ?_
  refine XM_ast (k := 5) (i := x) rfl (by decide) (by simp only [mln]; omega) rfl ?_
  refine X_run 1 (pc' := 30) (L' := [some (.inr (some (10, 0))), some (.inl (nI d)), some (.inl (nI w)), some (.inl (nI t)), some (.inl (v)), some (.inl (n)), some (.inl (nI x)), none, none]) (st' := [.inr (some (10, 0))]) rfl ?_
  refine XM_get (v := .inr (some (11, 6))) rfl f_Mo_22 rfl rfl ?_
  refine X_run 2 (pc' := 37) (L' := [some (.inr (some (10, 0))), some (.inl (nI d)), some (.inl (nI w)), some (.inl (nI t)), some (.inl (v)), some (.inl (n)), some (.inl (nI x)), none, none]) (st' := [.inl (v), .inl (nI x), .inr (some (11, 6))]) rfl ?_
  refine XM_ast (k := 6) (i := x) rfl (by decide) (by simp only [mln]; omega) rfl ?_
  refine X_run 1 (pc' := 39) (L' := [some (.inr (some (10, 0))), some (.inl (nI d)), some (.inl (nI w)), some (.inl (nI t)), some (.inl (v)), some (.inl (n)), some (.inl (nI x)), none, none]) (st' := [.inr (some (10, 0))]) rfl ?_
  refine XM_get (v := .inr (some (11, 7))) rfl f_Mo_25 rfl rfl ?_
  refine X_run 2 (pc' := 46) (L' := [some (.inr (some (10, 0))), some (.inl (nI d)), some (.inl (nI w)), some (.inl (nI t)), some (.inl (v)), some (.inl (n)), some (.inl (nI x)), none, none]) (st' := [.inl (n), .inl (nI x), .inr (some (11, 7))]) rfl ?_
  refine XM_ast (k := 7) (i := x) rfl (by decide) (by simp only [mln]; omega) rfl ?_
  refine X_run 1 (pc' := 48) (L' := [some (.inr (some (10, 0))), some (.inl (nI d)), some (.inl (nI w)), some (.inl (nI t)), some (.inl (v)), some (.inl (n)), some (.inl (nI x)), none, none]) (st' := [.inr (some (10, 0))]) rfl ?_
  refine XM_get (v := .inr (some (11, 4))) rfl f_Mo_16 rfl rfl ?_
  refine X_run 2 (pc' := 54) (L' := [some (.inr (some (10, 0))), some (.inl (nI d)), some (.inl (nI w)), some (.inl (nI t)), some (.inl (v)), some (.inl (n)), some (.inl (nI x)), none, none]) (st' := [.inl (1), .inl (nI x), .inr (some (11, 4))]) rfl ?_
  refine XM_ast (k := 4) (i := x) rfl (by decide) (by simp only [mln]; omega) rfl ?_
  refine X_run 2 (pc' := 58) (L' := [some (.inr (some (10, 0))), some (.inl (nI d)), some (.inl (nI w)), some (.inl (nI t)), some (.inl (v)), some (.inl (n)), some (.inl (nI x)), some (.inl (0)), none]) (st' := []) rfl ?_
  refine X_eq (L' := [some (.inr (some (10, 0))), some (.inl (nI d)), some (.inl (nI w)), some (.inl (nI t)), some (.inl (v)), some (.inl (n)), some (.inl (nI x)), some (.inl (nI (0))), none]) (congrArg (fun z : Int32 => ([some (.inr (some (10, 0))), some (.inl (nI d)), some (.inl (nI w)), some (.inl (nI t)), some (.inl (v)), some (.inl (n)), some (.inl (nI x)), some (.inl z), none] : List (Option AV))) (by first | rfl | (simp only [il_0, il_1, il_2, il_3, il_4, il_5, il_6, il_7, il_16, il_20, il_40, il_160, pk_mul, nI_add]; done) | (simp only [il_0, il_1, il_2, il_3, il_4, il_5, il_6, il_7, il_16, il_20, il_40, il_160, pk_mul, nI_add]; exact congrArg nI (by omega)))) rfl rfl ?_
  generalize hA1 : ua (ua (ua (ua (ua A 3 x (nI w)) 5 x (nI t)) 6 x v) 7 x n) 4 x 1 = A1
  have k1 : ∀ k, k ≠ 3 → k ≠ 4 → k ≠ 5 → k ≠ 6 → k ≠ 7 → A1 k = A k := fun k a b c d e => by
    rw [← hA1]
    funext j
    rw [ua_k b, ua_k e, ua_k d, ua_k c, ua_k a]
  have a3 : ∀ j, A1 3 j = if j = x then nI w else A 3 j := fun j => by
    rw [← hA1, ua_k (by omega), ua_k (by omega), ua_k (by omega), ua_k (by omega)]
    by_cases q : j = x
    · rw [q, ua_eq, if_pos rfl]
    · rw [ua_i q, if_neg q]
  have a5 : ∀ j, A1 5 j = if j = x then nI t else A 5 j := fun j => by
    rw [← hA1, ua_k (by omega), ua_k (by omega), ua_k (by omega)]
    by_cases q : j = x
    · rw [q, ua_eq, if_pos rfl]
    · rw [ua_i q, if_neg q, ua_k (by omega)]
  have a6 : ∀ j, A1 6 j = if j = x then v else A 6 j := fun j => by
    rw [← hA1, ua_k (by omega), ua_k (by omega)]
    by_cases q : j = x
    · rw [q, ua_eq, if_pos rfl]
    · rw [ua_i q, if_neg q, ua_k (by omega), ua_k (by omega)]
  have a7 : ∀ j, A1 7 j = if j = x then n else A 7 j := fun j => by
    rw [← hA1, ua_k (by omega)]
    by_cases q : j = x
    · rw [q, ua_eq, if_pos rfl]
    · rw [ua_i q, if_neg q, ua_k (by omega), ua_k (by omega), ua_k (by omega)]
  have a4 : ∀ j, A1 4 j = if j = x then 1 else A 4 j := fun j => by
    rw [← hA1]
    by_cases q : j = x
    · rw [q, ua_eq, if_pos rfl]
    · rw [ua_i q, if_neg q, ua_k (by omega), ua_k (by omega), ua_k (by omega), ua_k (by omega)]
  refine up_ind 4 (fun i => ∀ (A2 : Nat → Nat → Int32) (l8 : Option AV), stpE σ d i ≤ 1000 → A2 4 x = nI (stpE σ d i) → (∀ j, j ≠ x → A2 4 j = A 4 j) → (∀ j, A2 8 j = if 4 * x ≤ j ∧ j < 4 * x + i then nI (rk σ d d (j - 4 * x)) else A 8 j) → (∀ k, k ≠ 4 → k ≠ 8 → A2 k = A1 k) →
    X M_Mo_does (rmo M_Mo_does 0 0) (Zm Q 0 0) 58 [some (.inr (some (10, 0))), some (.inl (nI d)), some (.inl (nI w)), some (.inl (nI t)), some (.inl v), some (.inl n), some (.inl (nI x)), some (.inl (nI i)), l8] [] (mH g I A2) 0 0) ?_ 0 (by omega) A1 none (by show 1 ≤ 1000; omega) (by rw [a4, if_pos rfl]; rfl) (fun j hj => by rw [a4, if_neg hj]) (fun j => by rw [if_neg (by omega), k1 8 (by omega) (by omega) (by omega) (by omega) (by omega)]) (fun _ _ _ => rfl)
  intro i hi ih A2 l8 hs hs4 ho4 h8 hk
  refine X_run 2 (pc' := 61) (L' := [some (.inr (some (10, 0))), some (.inl (nI d)), some (.inl (nI w)), some (.inl (nI t)), some (.inl (v)), some (.inl (n)), some (.inl (nI x)), some (.inl (nI i)), l8]) (st' := [.inl (4), .inl (nI i)]) rfl ?_
  refine X_ic_ge (tgt := 165) (nx := 64) rfl rfl rfl (fun h1 => ?_) (fun h1 => ?_)
  · have h1 := li_le (a := 4) (by decide) (by omega) h1
    have e4 : i = 4 := by omega
    rw [e4] at hs4 h8
    refine X_run 1 (pc' := 166) (L' := [some (.inr (some (10, 0))), some (.inl (nI d)), some (.inl (nI w)), some (.inl (nI t)), some (.inl (v)), some (.inl (n)), some (.inl (nI x)), some (.inl (nI i)), l8]) (st' := [.inr (some (10, 0))]) rfl ?_
    refine XM_get (v := .inr (some (11, 2))) rfl f_Mo_7 rfl rfl ?_
    refine X_run 2 (pc' := 171) (L' := [some (.inr (some (10, 0))), some (.inl (nI d)), some (.inl (nI w)), some (.inl (nI t)), some (.inl (v)), some (.inl (n)), some (.inl (nI x)), some (.inl (nI i)), l8]) (st' := [.inl (nI d), .inr (some (11, 2)), .inl (nI d), .inr (some (11, 2))]) rfl ?_
    refine XM_ald (k := 2) (i := d) rfl (by decide) (by simp only [mln]; omega) rfl ?_
    refine X_eq (st' := [.inl (nI (mny σ d)), .inl (nI d), .inr (some (11, 2))]) rfl (congrArg (fun z => Sum.inl z :: _) (by rw [hk 2 (by omega) (by omega), k1 2 (by omega) (by omega) (by omega) (by omega) (by omega)]; exact hM.2.2.2.1 d hd)) rfl ?_
    refine X_run 2 (pc' := 174) (L' := [some (.inr (some (10, 0))), some (.inl (nI d)), some (.inl (nI w)), some (.inl (nI t)), some (.inl (v)), some (.inl (n)), some (.inl (nI x)), some (.inl (nI i)), l8]) (st' := [.inl ((nI (mny σ d)) + 1), .inl (nI d), .inr (some (11, 2))]) rfl ?_
    refine X_eq (st' := [.inl (nI (mny σ d + 1)), .inl (nI d), .inr (some (11, 2))]) rfl (congrArg (fun z => Sum.inl z :: _) (by first | rfl | (simp only [il_0, il_1, il_2, il_3, il_4, il_5, il_6, il_7, il_16, il_20, il_40, il_160, pk_mul, nI_add]; done) | (simp only [il_0, il_1, il_2, il_3, il_4, il_5, il_6, il_7, il_16, il_20, il_40, il_160, pk_mul, nI_add]; exact congrArg nI (by omega)))) rfl ?_
    refine XM_ast (k := 2) (i := d) rfl (by decide) (by simp only [mln]; omega) rfl ?_
    refine X_run 1 (pc' := 176) (L' := [some (.inr (some (10, 0))), some (.inl (nI d)), some (.inl (nI w)), some (.inl (nI t)), some (.inl (v)), some (.inl (n)), some (.inl (nI x)), some (.inl (nI i)), l8]) (st' := [.inr (some (10, 0))]) rfl ?_
    refine XM_get (v := .inr (some (11, 9))) rfl f_Mo_31 rfl rfl ?_
    refine X_run 6 (pc' := 186) (L' := [some (.inr (some (10, 0))), some (.inl (nI d)), some (.inl (nI w)), some (.inl (nI t)), some (.inl (v)), some (.inl (n)), some (.inl (nI x)), some (.inl (nI i)), l8]) (st' := [.inr (some (10, 0)), .inl ((20 * (nI d)) + (nI d)), .inr (some (11, 9))]) rfl ?_
    refine XM_get (v := .inr (some (11, 2))) rfl f_Mo_7 rfl rfl ?_
    refine X_run 1 (pc' := 190) (L' := [some (.inr (some (10, 0))), some (.inl (nI d)), some (.inl (nI w)), some (.inl (nI t)), some (.inl (v)), some (.inl (n)), some (.inl (nI x)), some (.inl (nI i)), l8]) (st' := [.inl (nI d), .inr (some (11, 2)), .inl ((20 * (nI d)) + (nI d)), .inr (some (11, 9))]) rfl ?_
    refine XM_ald (k := 2) (i := d) rfl (by decide) (by simp only [mln]; omega) rfl ?_
    refine X_eq (st' := [.inl (nI (mny σ d + 1)), .inl ((20 * (nI d)) + (nI d)), .inr (some (11, 9))]) rfl (congrArg (fun z => Sum.inl z :: _) (ua_eq _ _ _ _)) rfl ?_
    refine X_eq (st' := [.inl (nI (mny σ d + 1)), .inl (nI (21 * d)), .inr (some (11, 9))]) rfl (congrArg (fun z : Int32 => ([.inl (nI (mny σ d + 1)), .inl z, .inr (some (11, 9))] : List AV)) (by first | rfl | (simp only [il_0, il_1, il_2, il_3, il_4, il_5, il_6, il_7, il_16, il_20, il_40, il_160, pk_mul, nI_add]; done) | (simp only [il_0, il_1, il_2, il_3, il_4, il_5, il_6, il_7, il_16, il_20, il_40, il_160, pk_mul, nI_add]; exact congrArg nI (by omega)))) rfl ?_
    refine XM_ast (k := 9) (i := (21 * d)) rfl (by decide) (by simp only [mln]; omega) rfl ?_
    refine X_run 1 (pc' := 194) (L' := [some (.inr (some (10, 0))), some (.inl (nI d)), some (.inl (nI w)), some (.inl (nI t)), some (.inl (v)), some (.inl (n)), some (.inl (nI x)), some (.inl (nI i)), l8]) (st' := [.inl (nI x)]) rfl ?_
    refine X_iret rfl rfl rfl (Nat.le_refl _) (Nat.le_refl _) (hq _ ?_)
    have kk : ∀ k, k ≠ 2 → k ≠ 9 → k ≠ 4 → k ≠ 8 → ua (ua A2 2 d (nI (mny σ d + 1))) 9 (21 * d) (nI (mny σ d + 1)) k = A1 k := fun k b1 b2 b3 b4 => by
      funext j
      rw [ua_k b2, ua_k b1, hk k b3 b4]
    refine ⟨⟨hsg, fun y hy => ?_⟩, hM.2.1, hM.2.2.1, fun d' hd' => ?_, fun d' f e b1 b2 b3 => ?_, hM.2.2.2.2.2.1, hM.2.2.2.2.2.2⟩
    · have old := hM.1.2 y hy
      have eso : so (doS σ d w t v n) y = if y = x then w else so σ y := by rw [hx]; rfl
      have esp : sp (doS σ d w t v n) y = if y = x then stpF σ d else sp σ y := by rw [hx]; rfl
      have etg : tg (doS σ d w t v n) y = if y = x then t else tg σ y := by rw [hx]; rfl
      have evl : vl (doS σ d w t v n) y = if y = x then v else vl σ y := by rw [hx]; rfl
      have enu : nu (doS σ d w t v n) y = if y = x then n else nu σ y := by rw [hx]; rfl
      have ekn : ∀ e, kn (doS σ d w t v n) y e = if y = x then rk σ d d e else kn σ y e := fun e => by
        rw [hx]
        show up1 (kn σ) (40 * d + mny σ d) (rk σ d d) y e = _
        unfold up1
        split <;> rfl
      rw [kk 3 (by omega) (by omega) (by omega) (by omega), kk 5 (by omega) (by omega) (by omega) (by omega), kk 6 (by omega) (by omega) (by omega) (by omega), kk 7 (by omega) (by omega) (by omega) (by omega), a3, a5, a6, a7, eso, etg, evl, enu, esp]
      have e44 : ua (ua A2 2 d (nI (mny σ d + 1))) 9 (21 * d) (nI (mny σ d + 1)) 4 y = A2 4 y := by rw [ua_k (by omega), ua_k (by omega)]
      rw [e44]
      refine ⟨?_, ?_, ?_, ?_, ?_, fun e he => ?_⟩
      · split
        · rfl
        · exact old.1
      · by_cases q : y = x
        · rw [if_pos q, q, hs4]; rfl
        · rw [if_neg q, ho4 y q]; exact old.2.1
      · split
        · rfl
        · exact old.2.2.1
      · split
        · rfl
        · exact old.2.2.2.1
      · split
        · rfl
        · exact old.2.2.2.2.1
      · rw [ua_k (by omega), ua_k (by omega), h8, ekn]
        by_cases q : y = x
        · rw [if_pos (by omega), if_pos q]
          exact congrArg (fun z => nI (rk σ d d z)) (by omega)
        · rw [if_neg (by omega), if_neg q]
          exact old.2.2.2.2.2 e he
    · have er : rk (doS σ d w t v n) d' d' d' = if d' = d then mny σ d + 1 else rk σ d' d' d' := by
        show (if d' = d ∧ d' = d ∧ d' = d then _ else _) = _
        simp
      rw [ua_k (by omega), er]
      by_cases q : d' = d
      · rw [q, ua_eq, if_pos rfl]
      · rw [ua_i q, if_neg q, hk 2 (by omega) (by omega), k1 2 (by omega) (by omega) (by omega) (by omega) (by omega)]
        exact hM.2.2.2.1 d' hd'
    · have er : rk (doS σ d w t v n) d' f e = if d' = d ∧ f = d ∧ e = d then mny σ d + 1 else rk σ d' f e := rfl
      rw [er]
      by_cases q : d' = d ∧ f = d ∧ e = d
      · rw [if_pos q, q.1, q.2.1, q.2.2, show 16 * d + 4 * d + d = 21 * d by omega, ua_eq]
      · have hne : 16 * d' + 4 * f + e ≠ 21 * d := by
          intro z
          have z1 : d' = d := by omega
          have z2 : f = d := by omega
          exact q ⟨z1, z2, by omega⟩
        rw [if_neg q, ua_i hne, ua_k (by omega), hk 9 (by omega) (by omega), k1 9 (by omega) (by omega) (by omega) (by omega) (by omega)]
        exact hM.2.2.2.2.1 d' f e b1 b2 b3
  · have h1 := li_nle (a := 4) (by decide) (by omega) h1
    have hrk : ∀ A3 : Nat → Nat → Int32, (∀ k, k ≠ 4 → k ≠ 8 → A3 k = A1 k) → A3 9 (20 * d + i) = nI (rk σ d d i) := fun A3 h3 => by
      rw [h3 9 (by omega) (by omega), k1 9 (by omega) (by omega) (by omega) (by omega) (by omega), show 20 * d + i = 16 * d + 4 * d + i by omega]
      exact hM.2.2.2.2.1 d d i hd hd h1
    have hr40 := hB.2.1 d d i
    refine X_run 1 (pc' := 65) (L' := [some (.inr (some (10, 0))), some (.inl (nI d)), some (.inl (nI w)), some (.inl (nI t)), some (.inl (v)), some (.inl (n)), some (.inl (nI x)), some (.inl (nI i)), l8]) (st' := [.inr (some (10, 0))]) rfl ?_
    refine XM_get (v := .inr (some (11, 8))) rfl f_Mo_28 rfl rfl ?_
    refine X_run 5 (pc' := 75) (L' := [some (.inr (some (10, 0))), some (.inl (nI d)), some (.inl (nI w)), some (.inl (nI t)), some (.inl (v)), some (.inl (n)), some (.inl (nI x)), some (.inl (nI i)), l8]) (st' := [.inl ((4 * (nI x)) + (nI i)), .inr (some (11, 8))]) rfl ?_
    refine X_eq (st' := [.inl (nI (4 * x + i)), .inr (some (11, 8))]) rfl (congrArg (fun z => Sum.inl z :: _) (by first | rfl | (simp only [il_0, il_1, il_2, il_3, il_4, il_5, il_6, il_7, il_16, il_20, il_40, il_160, pk_mul, nI_add]; done) | (simp only [il_0, il_1, il_2, il_3, il_4, il_5, il_6, il_7, il_16, il_20, il_40, il_160, pk_mul, nI_add]; exact congrArg nI (by omega)))) rfl ?_
    refine X_run 3 (pc' := 79) (L' := [some (.inr (some (10, 0))), some (.inl (nI d)), some (.inl (nI w)), some (.inl (nI t)), some (.inl (v)), some (.inl (n)), some (.inl (nI x)), some (.inl (nI i)), l8]) (st' := [.inl (nI i), .inl (nI d), .inr (some (10, 0)), .inl (nI (4 * x + i)), .inr (some (11, 8))]) rfl ?_
    refine X_callV (vs := [.inl (nI d), .inl (nI i)]) (st := [.inl (nI (4 * x + i)), .inr (some (11, 8))]) (mc := 0) (ms := 0) rfl ok_Mo_known v_Mo_82 rfl rfl rfl (Nat.le_of_ble_eq_true rfl) (Nat.le_of_ble_eq_true rfl) (Nat.le_of_ble_eq_true rfl) (Nat.le_of_ble_eq_true rfl) (Nat.le_of_ble_eq_true rfl) (Nat.le_of_ble_eq_true rfl) rfl ?_
    refine c_Mo_known hd h1 ?_
    show X M_Mo_does _ _ 82 [some (.inr (some (10, 0))), some (.inl (nI d)), some (.inl (nI w)), some (.inl (nI t)), some (.inl (v)), some (.inl (n)), some (.inl (nI x)), some (.inl (nI i)), l8] [.inl (A2 9 (20 * d + i)), .inl (nI (4 * x + i)), .inr (some (11, 8))] (mH g I A2) 0 0
    refine X_eq (st' := [.inl (nI (rk σ d d i)), .inl (nI (4 * x + i)), .inr (some (11, 8))]) rfl (congrArg (fun z => Sum.inl z :: _) (hrk A2 hk)) rfl ?_
    refine XM_ast (k := 8) (i := (4 * x + i)) rfl (by decide) (by simp only [mln]; omega) rfl ?_
    refine X_run 2 (pc' := 86) (L' := [some (.inr (some (10, 0))), some (.inl (nI d)), some (.inl (nI w)), some (.inl (nI t)), some (.inl (v)), some (.inl (n)), some (.inl (nI x)), some (.inl (nI i)), some (.inl (0))]) (st' := []) rfl ?_
    refine X_eq (L' := [some (.inr (some (10, 0))), some (.inl (nI d)), some (.inl (nI w)), some (.inl (nI t)), some (.inl (v)), some (.inl (n)), some (.inl (nI x)), some (.inl (nI i)), some (.inl (nI (0)))]) (congrArg (fun z : Int32 => ([some (.inr (some (10, 0))), some (.inl (nI d)), some (.inl (nI w)), some (.inl (nI t)), some (.inl (v)), some (.inl (n)), some (.inl (nI x)), some (.inl (nI i)), some (.inl z)] : List (Option AV))) (by first | rfl | (simp only [il_0, il_1, il_2, il_3, il_4, il_5, il_6, il_7, il_16, il_20, il_40, il_160, pk_mul, nI_add]; done) | (simp only [il_0, il_1, il_2, il_3, il_4, il_5, il_6, il_7, il_16, il_20, il_40, il_160, pk_mul, nI_add]; exact congrArg nI (by omega)))) rfl rfl ?_
    refine up_ind (rk σ d d i) (fun j => ∀ (A3 : Nat → Nat → Int32), stpK σ (stpE σ d i) i j ≤ 1000 → A3 4 x = nI (stpK σ (stpE σ d i) i j) → (∀ q, q ≠ x → A3 4 q = A 4 q) → (∀ q, A3 8 q = if 4 * x ≤ q ∧ q < 4 * x + (i + 1) then nI (rk σ d d (q - 4 * x)) else A 8 q) → (∀ k, k ≠ 4 → k ≠ 8 → A3 k = A1 k) →
      X M_Mo_does (rmo M_Mo_does 0 0) (Zm Q 0 0) 86 [some (.inr (some (10, 0))), some (.inl (nI d)), some (.inl (nI w)), some (.inl (nI t)), some (.inl v), some (.inl n), some (.inl (nI x)), some (.inl (nI i)), some (.inl (nI j))] [] (mH g I A3) 0 0) ?_ 0 (by omega) _ (by exact hs) (by rw [ua_k (by omega)]; exact hs4) (fun q hq => by rw [ua_k (by omega)]; exact ho4 q hq) (fun q => ?_) (fun k b1 b2 => by funext j; rw [ua_k b2, hk k b1 b2])
    rotate_left
    · by_cases e : q = 4 * x + i
      · rw [e, ua_eq, if_pos (by omega)]
        exact congrArg (fun z => nI (rk σ d d z)) (by omega)
      · rw [ua_i e, h8]
        by_cases e2 : 4 * x ≤ q ∧ q < 4 * x + i
        · rw [if_pos e2, if_pos (by omega)]
        · rw [if_neg e2, if_neg (by omega)]
    intro j hj ih2 A3 hs3 hs43 ho43 h83 hk3
    refine X_run 4 (pc' := 92) (L' := [some (.inr (some (10, 0))), some (.inl (nI d)), some (.inl (nI w)), some (.inl (nI t)), some (.inl (v)), some (.inl (n)), some (.inl (nI x)), some (.inl (nI i)), some (.inl (nI j))]) (st' := [.inl (nI i), .inl (nI d), .inr (some (10, 0)), .inl (nI j)]) rfl ?_
    refine X_callV (vs := [.inl (nI d), .inl (nI i)]) (st := [.inl (nI j)]) (mc := 0) (ms := 0) rfl ok_Mo_known v_Mo_82 rfl rfl rfl (Nat.le_of_ble_eq_true rfl) (Nat.le_of_ble_eq_true rfl) (Nat.le_of_ble_eq_true rfl) (Nat.le_of_ble_eq_true rfl) (Nat.le_of_ble_eq_true rfl) (Nat.le_of_ble_eq_true rfl) rfl ?_
    refine c_Mo_known hd h1 ?_
    show X M_Mo_does _ _ 95 [some (.inr (some (10, 0))), some (.inl (nI d)), some (.inl (nI w)), some (.inl (nI t)), some (.inl (v)), some (.inl (n)), some (.inl (nI x)), some (.inl (nI i)), some (.inl (nI j))] [.inl (A3 9 (20 * d + i)), .inl (nI j)] (mH g I A3) 0 0
    refine X_eq (st' := [.inl (nI (rk σ d d i)), .inl (nI j)]) rfl (congrArg (fun z => Sum.inl z :: _) (hrk A3 hk3)) rfl ?_
    refine X_ic_ge (tgt := 159) (nx := 98) rfl rfl rfl (fun h2 => ?_) (fun h2 => ?_)
    · have h2 := li_le (by omega) (by omega) h2
      have ej : j = rk σ d d i := by omega
      have eE : stpE σ d (i + 1) = stpK σ (stpE σ d i) i j := by
        rw [ej]
        unfold stpE
        rw [List.range_succ, List.foldl_append]
        rfl
      refine X_run 2 (pc' := 58) (L' := [some (.inr (some (10, 0))), some (.inl (nI d)), some (.inl (nI w)), some (.inl (nI t)), some (.inl (v)), some (.inl (n)), some (.inl (nI x)), some (.inl (nI i + 1)), some (.inl (nI j))]) (st' := []) rfl ?_
      refine X_eq (L' := [some (.inr (some (10, 0))), some (.inl (nI d)), some (.inl (nI w)), some (.inl (nI t)), some (.inl (v)), some (.inl (n)), some (.inl (nI x)), some (.inl (nI (i + 1))), some (.inl (nI j))]) (congrArg (fun z : Int32 => ([some (.inr (some (10, 0))), some (.inl (nI d)), some (.inl (nI w)), some (.inl (nI t)), some (.inl (v)), some (.inl (n)), some (.inl (nI x)), some (.inl z), some (.inl (nI j))] : List (Option AV))) (by first | rfl | (simp only [il_0, il_1, il_2, il_3, il_4, il_5, il_6, il_7, il_16, il_20, il_40, il_160, pk_mul, nI_add]; done) | (simp only [il_0, il_1, il_2, il_3, il_4, il_5, il_6, il_7, il_16, il_20, il_40, il_160, pk_mul, nI_add]; exact congrArg nI (by omega)))) rfl rfl ?_
      exact ih h1 A3 _ (by rw [eE]; exact hs3) (by rw [eE]; exact hs43) ho43 h83 hk3
    · have h2 := li_nle (by omega) (by omega) h2
      have hne : 40 * i + j ≠ x := by
        by_cases q : i = d
        · rw [q] at h2 ⊢
          unfold mny at hx
          omega
        · unfold mny at hm hx
          omega
      have esj : A3 4 (40 * i + j) = nI (sp σ (40 * i + j)) := by
        rw [ho43 _ hne]
        exact (hM.1.2 _ (by omega)).2.1
      have bsj := (hB.2.2 (40 * i + j)).2.1
      have eK : stpK σ (stpE σ d i) i (j + 1) = if stpK σ (stpE σ d i) i j ≤ sp σ (40 * i + j) then sp σ (40 * i + j) + 1 else stpK σ (stpE σ d i) i j := by
        unfold stpK
        rw [List.range_succ, List.foldl_append]
        rfl
      have next : ∀ y : Int32, y = nI (stpK σ (stpE σ d i) i (j + 1)) → stpK σ (stpE σ d i) i (j + 1) ≤ 1000 → X M_Mo_does (rmo M_Mo_does 0 0) (Zm Q 0 0) 152 [some (.inr (some (10, 0))), some (.inl (nI d)), some (.inl (nI w)), some (.inl (nI t)), some (.inl v), some (.inl n), some (.inl (nI x)), some (.inl (nI i)), some (.inl (nI j))] [.inl y, .inl (nI x), .inr (some (11, 4))] (mH g I A3) 0 0 := by
        intro y hy hb
        refine XM_ast (k := 4) (i := x) rfl (by decide) (by simp only [mln]; omega) rfl ?_
        refine X_run 2 (pc' := 86) (L' := [some (.inr (some (10, 0))), some (.inl (nI d)), some (.inl (nI w)), some (.inl (nI t)), some (.inl (v)), some (.inl (n)), some (.inl (nI x)), some (.inl (nI i)), some (.inl (nI j + 1))]) (st' := []) rfl ?_
        refine X_eq (L' := [some (.inr (some (10, 0))), some (.inl (nI d)), some (.inl (nI w)), some (.inl (nI t)), some (.inl (v)), some (.inl (n)), some (.inl (nI x)), some (.inl (nI i)), some (.inl (nI (j + 1)))]) (congrArg (fun z : Int32 => ([some (.inr (some (10, 0))), some (.inl (nI d)), some (.inl (nI w)), some (.inl (nI t)), some (.inl (v)), some (.inl (n)), some (.inl (nI x)), some (.inl (nI i)), some (.inl z)] : List (Option AV))) (by first | rfl | (simp only [il_0, il_1, il_2, il_3, il_4, il_5, il_6, il_7, il_16, il_20, il_40, il_160, pk_mul, nI_add]; done) | (simp only [il_0, il_1, il_2, il_3, il_4, il_5, il_6, il_7, il_16, il_20, il_40, il_160, pk_mul, nI_add]; exact congrArg nI (by omega)))) rfl rfl ?_
        exact ih2 h2 _ hb (by rw [ua_eq]; exact hy) (fun q hq => by rw [ua_i hq]; exact ho43 q hq) (fun q => by rw [ua_k (by omega)]; exact h83 q) (fun k b1 b2 => by funext q; rw [ua_k b1, hk3 k b1 b2])
      refine X_run 1 (pc' := 99) (L' := [some (.inr (some (10, 0))), some (.inl (nI d)), some (.inl (nI w)), some (.inl (nI t)), some (.inl (v)), some (.inl (n)), some (.inl (nI x)), some (.inl (nI i)), some (.inl (nI j))]) (st' := [.inr (some (10, 0))]) rfl ?_
      refine XM_get (v := .inr (some (11, 4))) rfl f_Mo_16 rfl rfl ?_
      refine X_run 2 (pc' := 105) (L' := [some (.inr (some (10, 0))), some (.inl (nI d)), some (.inl (nI w)), some (.inl (nI t)), some (.inl (v)), some (.inl (n)), some (.inl (nI x)), some (.inl (nI i)), some (.inl (nI j))]) (st' := [.inr (some (10, 0)), .inl (nI x), .inr (some (11, 4))]) rfl ?_
      refine XM_get (v := .inr (some (11, 4))) rfl f_Mo_16 rfl rfl ?_
      refine X_run 5 (pc' := 116) (L' := [some (.inr (some (10, 0))), some (.inl (nI d)), some (.inl (nI w)), some (.inl (nI t)), some (.inl (v)), some (.inl (n)), some (.inl (nI x)), some (.inl (nI i)), some (.inl (nI j))]) (st' := [.inl ((40 * (nI i)) + (nI j)), .inr (some (11, 4)), .inl (nI x), .inr (some (11, 4))]) rfl ?_
      refine X_eq (st' := [.inl (nI (40 * i + j)), .inr (some (11, 4)), .inl (nI x), .inr (some (11, 4))]) rfl (congrArg (fun z => Sum.inl z :: _) (by first | rfl | (simp only [il_0, il_1, il_2, il_3, il_4, il_5, il_6, il_7, il_16, il_20, il_40, il_160, pk_mul, nI_add]; done) | (simp only [il_0, il_1, il_2, il_3, il_4, il_5, il_6, il_7, il_16, il_20, il_40, il_160, pk_mul, nI_add]; exact congrArg nI (by omega)))) rfl ?_
      refine XM_ald (k := 4) (i := (40 * i + j)) rfl (by decide) (by simp only [mln]; omega) rfl ?_
      refine X_eq (st' := [.inl (nI (sp σ (40 * i + j))), .inl (nI x), .inr (some (11, 4))]) rfl (congrArg (fun z => Sum.inl z :: _) esj) rfl ?_
      refine X_run 1 (pc' := 118) (L' := [some (.inr (some (10, 0))), some (.inl (nI d)), some (.inl (nI w)), some (.inl (nI t)), some (.inl (v)), some (.inl (n)), some (.inl (nI x)), some (.inl (nI i)), some (.inl (nI j))]) (st' := [.inr (some (10, 0)), .inl (nI (sp σ (40 * i + j))), .inl (nI x), .inr (some (11, 4))]) rfl ?_
      refine XM_get (v := .inr (some (11, 4))) rfl f_Mo_16 rfl rfl ?_
      refine X_run 1 (pc' := 123) (L' := [some (.inr (some (10, 0))), some (.inl (nI d)), some (.inl (nI w)), some (.inl (nI t)), some (.inl (v)), some (.inl (n)), some (.inl (nI x)), some (.inl (nI i)), some (.inl (nI j))]) (st' := [.inl (nI x), .inr (some (11, 4)), .inl (nI (sp σ (40 * i + j))), .inl (nI x), .inr (some (11, 4))]) rfl ?_
      refine XM_ald (k := 4) (i := x) rfl (by decide) (by simp only [mln]; omega) rfl ?_
      refine X_eq (st' := [.inl (nI (stpK σ (stpE σ d i) i j)), .inl (nI (sp σ (40 * i + j))), .inl (nI x), .inr (some (11, 4))]) rfl (congrArg (fun z => Sum.inl z :: _) hs43) rfl ?_
      refine X_ic_lt (tgt := 145) (nx := 127) rfl rfl rfl (fun h3 => ?_) (fun h3 => ?_)
      · have h3 := li_lt (by omega) (by omega) h3
        refine X_run 1 (pc' := 146) (L' := [some (.inr (some (10, 0))), some (.inl (nI d)), some (.inl (nI w)), some (.inl (nI t)), some (.inl (v)), some (.inl (n)), some (.inl (nI x)), some (.inl (nI i)), some (.inl (nI j))]) (st' := [.inr (some (10, 0)), .inl (nI x), .inr (some (11, 4))]) rfl ?_
        refine XM_get (v := .inr (some (11, 4))) rfl f_Mo_16 rfl rfl ?_
        refine X_run 1 (pc' := 151) (L' := [some (.inr (some (10, 0))), some (.inl (nI d)), some (.inl (nI w)), some (.inl (nI t)), some (.inl (v)), some (.inl (n)), some (.inl (nI x)), some (.inl (nI i)), some (.inl (nI j))]) (st' := [.inl (nI x), .inr (some (11, 4)), .inl (nI x), .inr (some (11, 4))]) rfl ?_
        refine XM_ald (k := 4) (i := x) rfl (by decide) (by simp only [mln]; omega) rfl ?_
        exact next _ (by rw [hs43, eK, if_neg (by omega)]) (by rw [eK, if_neg (by omega)]; exact hs3)
      · have h3 := li_nlt (by omega) (by omega) h3
        refine X_run 1 (pc' := 128) (L' := [some (.inr (some (10, 0))), some (.inl (nI d)), some (.inl (nI w)), some (.inl (nI t)), some (.inl (v)), some (.inl (n)), some (.inl (nI x)), some (.inl (nI i)), some (.inl (nI j))]) (st' := [.inr (some (10, 0)), .inl (nI x), .inr (some (11, 4))]) rfl ?_
        refine XM_get (v := .inr (some (11, 4))) rfl f_Mo_16 rfl rfl ?_
        refine X_run 5 (pc' := 139) (L' := [some (.inr (some (10, 0))), some (.inl (nI d)), some (.inl (nI w)), some (.inl (nI t)), some (.inl (v)), some (.inl (n)), some (.inl (nI x)), some (.inl (nI i)), some (.inl (nI j))]) (st' := [.inl ((40 * (nI i)) + (nI j)), .inr (some (11, 4)), .inl (nI x), .inr (some (11, 4))]) rfl ?_
        refine X_eq (st' := [.inl (nI (40 * i + j)), .inr (some (11, 4)), .inl (nI x), .inr (some (11, 4))]) rfl (congrArg (fun z => Sum.inl z :: _) (by first | rfl | (simp only [il_0, il_1, il_2, il_3, il_4, il_5, il_6, il_7, il_16, il_20, il_40, il_160, pk_mul, nI_add]; done) | (simp only [il_0, il_1, il_2, il_3, il_4, il_5, il_6, il_7, il_16, il_20, il_40, il_160, pk_mul, nI_add]; exact congrArg nI (by omega)))) rfl ?_
        refine XM_ald (k := 4) (i := (40 * i + j)) rfl (by decide) (by simp only [mln]; omega) rfl ?_
        refine X_eq (st' := [.inl (nI (sp σ (40 * i + j))), .inl (nI x), .inr (some (11, 4))]) rfl (congrArg (fun z => Sum.inl z :: _) esj) rfl ?_
        refine X_run 3 (pc' := 152) (L' := [some (.inr (some (10, 0))), some (.inl (nI d)), some (.inl (nI w)), some (.inl (nI t)), some (.inl (v)), some (.inl (n)), some (.inl (nI x)), some (.inl (nI i)), some (.inl (nI j))]) (st' := [.inl ((nI (sp σ (40 * i + j))) + 1), .inl (nI x), .inr (some (11, 4))]) rfl ?_
        exact next _ (by rw [eK, if_pos (by omega)]; exact nI_1 _) (by rw [eK, if_pos (by omega)]; omega)
end

