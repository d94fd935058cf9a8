/-! the component's deeds from outside -/
theorem sOn_nar (σ : Sg) (d t : Int32) (w : Nat) (b : Bool) (v : Int32) (ok : Bool) : narrow .boolean (.int (sOn σ d t w b v ok).2) = .int (sOn σ d t w b v ok).2 := by
  unfold sOn
  split
  · exact b2i_nar true
  · exact b2i_nar false
section
variable {F : CF} {B : CB} {C : CC} {Wr : Nat → Option Nd} {E : Nat → Nat → Bool} {r : AH} {Q : Option AV → AH → Prop} {h : AH} {σ : Sg} {see m : Nat → Nat}
theorem c_Pl_strike {d t : Int32} (hW : W2 σ) (hI : CI σ F B C E) (hq : ∀ (F' : CF) (B' : CB) (C' : CC) (Wr' : Nat → Option Nd) (E' : Nat → Nat → Bool), CI (sOn σ d t 3 false 0 true).1 F' B' C' E' → Q (some (.inl (sOn σ d t 3 false 0 true).2)) (cH F' B' C' Wr' E' r)) : X M_Pl_strike (rmo M_Pl_strike 802 4652) (Zm Q 802 4652) 0 (ini M_Pl_strike [.inr (some (0, 0)), .inl d, .inl t]) [] (cH F B C Wr E r) 0 0 := by
  have h0 : E 0 0 = true := by obtain ⟨see, h, -⟩ := hI; exact h.1
  show X M_Pl_strike _ _ 0 [some (.inr (some (0, 0))), some (.inl (d)), some (.inl (t))] [] (cH F B C Wr E r) 0 0
  refine X_run 6 (pc' := 6) (L' := [some (.inr (some (0, 0))), some (.inl (d)), some (.inl (t))]) (st' := [.inl (-1), .inl (-1), .inl (t), .inl (3), .inl (d), .inr (some (0, 0))]) rfl ?_
  refine X_eq (st' := [.inl (-1), .inl (-1), .inl (t), .inl (nI (3)), .inl (d), .inr (some (0, 0))]) rfl (congrArg (fun zz9 : Int32 => ([.inl (-1), .inl (-1), .inl (t), .inl zz9, .inl (d), .inr (some (0, 0))] : List AV)) (by first | rfl | exact congrArg nI (by omega) | (simp only [il_0, il_1, il_2, il_3, il_4, il_5, il_6, il_7, il_16, il_20, il_40, il_160, pk_mul, nI_add]; done) | (simp only [il_0, il_1, il_2, il_3, il_4, il_5, il_6, il_7, il_16, il_20, il_40, il_160, pk_mul, nI_add]; exact congrArg nI (by omega)))) rfl ?_
  refine X_callV (vs := [.inl (d), .inl (nI (3)), .inl (t), .inl (-1), .inl (-1)]) (st := []) (mc := 802) (ms := 4652) rfl ok_Pl_performOn v_Pl_86 (cH_obj rfl (by assumption)) rfl rfl (Nat.le_of_ble_eq_true rfl) (Nat.le_of_ble_eq_true rfl) (Nat.le_of_ble_eq_true rfl) (Nat.le_of_ble_eq_true rfl) (Nat.le_of_ble_eq_true rfl) (Nat.le_of_ble_eq_true rfl) rfl ?_
  refine c_Pl_performOn (v := 0) (mc := 800) (ms := 4640) hW (hI.dw _) (by omega) (fun z => by omega) (fun z => by omega) (fun z => by omega) (fun z => by omega) (fun z => by omega) (fun F1 B1 C1 W1 E1 hI1 => ?_)
  show X M_Pl_strike _ _ 9 [some (.inr (some (0, 0))), some (.inl (d)), some (.inl (t))] [.inl ((sOn σ d t 3 false 0 true).2)] (cH F1 B1 C1 W1 E1 r) 802 4652
  exact X_iret rfl rfl (sOn_nar _ _ _ _ _ _ _) (Nat.le_refl _) (Nat.le_refl _) (hq _ _ _ _ _ hI1)
theorem c_Pl_back {d t : Int32} (hW : W2 σ) (hI : CI σ F B C E) (hq : ∀ (F' : CF) (B' : CB) (C' : CC) (Wr' : Nat → Option Nd) (E' : Nat → Nat → Bool), CI (sOn σ d t 4 true 0 true).1 F' B' C' E' → Q (some (.inl (sOn σ d t 4 true 0 true).2)) (cH F' B' C' Wr' E' r)) : X M_Pl_back (rmo M_Pl_back 802 4652) (Zm Q 802 4652) 0 (ini M_Pl_back [.inr (some (0, 0)), .inl d, .inl t]) [] (cH F B C Wr E r) 0 0 := by
  have h0 : E 0 0 = true := by obtain ⟨see, h, -⟩ := hI; exact h.1
  show X M_Pl_back _ _ 0 [some (.inr (some (0, 0))), some (.inl (d)), some (.inl (t))] [] (cH F B C Wr E r) 0 0
  refine X_run 6 (pc' := 6) (L' := [some (.inr (some (0, 0))), some (.inl (d)), some (.inl (t))]) (st' := [.inl (-1), .inl (-1), .inl (t), .inl (4), .inl (d), .inr (some (0, 0))]) rfl ?_
  refine X_eq (st' := [.inl (-1), .inl (-1), .inl (t), .inl (nI (4)), .inl (d), .inr (some (0, 0))]) rfl (congrArg (fun zz9 : Int32 => ([.inl (-1), .inl (-1), .inl (t), .inl zz9, .inl (d), .inr (some (0, 0))] : List AV)) (by first | rfl | exact congrArg nI (by omega) | (simp only [il_0, il_1, il_2, il_3, il_4, il_5, il_6, il_7, il_16, il_20, il_40, il_160, pk_mul, nI_add]; done) | (simp only [il_0, il_1, il_2, il_3, il_4, il_5, il_6, il_7, il_16, il_20, il_40, il_160, pk_mul, nI_add]; exact congrArg nI (by omega)))) rfl ?_
  refine X_callV (vs := [.inl (d), .inl (nI (4)), .inl (t), .inl (-1), .inl (-1)]) (st := []) (mc := 802) (ms := 4652) rfl ok_Pl_performOn v_Pl_86 (cH_obj rfl (by assumption)) rfl rfl (Nat.le_of_ble_eq_true rfl) (Nat.le_of_ble_eq_true rfl) (Nat.le_of_ble_eq_true rfl) (Nat.le_of_ble_eq_true rfl) (Nat.le_of_ble_eq_true rfl) (Nat.le_of_ble_eq_true rfl) rfl ?_
  refine c_Pl_performOn (v := 0) (mc := 800) (ms := 4640) hW (hI.dw _) (by omega) (fun z => by omega) (fun z => by omega) (fun z => by omega) (fun z => by omega) (fun z => by omega) (fun F1 B1 C1 W1 E1 hI1 => ?_)
  show X M_Pl_back _ _ 9 [some (.inr (some (0, 0))), some (.inl (d)), some (.inl (t))] [.inl ((sOn σ d t 4 true 0 true).2)] (cH F1 B1 C1 W1 E1 r) 802 4652
  exact X_iret rfl rfl (sOn_nar _ _ _ _ _ _ _) (Nat.le_refl _) (Nat.le_refl _) (hq _ _ _ _ _ hI1)
theorem c_Pl_count {d t v : Int32} (hW : W2 σ) (hI : CI σ F B C E) (hq : ∀ (F' : CF) (B' : CB) (C' : CC) (Wr' : Nat → Option Nd) (E' : Nat → Nat → Bool), CI (sOn σ d t 1 false v (decide (-99 ≤ v.toInt ∧ v.toInt ≤ 99) && decide (v ≠ 0))).1 F' B' C' E' → Q (some (.inl (sOn σ d t 1 false v (decide (-99 ≤ v.toInt ∧ v.toInt ≤ 99) && decide (v ≠ 0))).2)) (cH F' B' C' Wr' E' r)) : X M_Pl_count (rmo M_Pl_count 802 4652) (Zm Q 802 4652) 0 (ini M_Pl_count [.inr (some (0, 0)), .inl d, .inl t, .inl v]) [] (cH F B C Wr E r) 0 0 := by
  have h0 : E 0 0 = true := by obtain ⟨see, h, -⟩ := hI; exact h.1
  have e1 : (-99 : Int32).toInt = -99 := by decide
  have e9 : (99 : Int32).toInt = 99 := by decide
  have no : (decide (-99 ≤ v.toInt ∧ v.toInt ≤ 99) && decide (v ≠ 0)) = false → Q (some (.inl 0)) (cH F B C Wr E r) := fun z => by
    have := hq F B C Wr E
    rw [z] at this
    exact this hI
  show X M_Pl_count _ _ 0 [some (.inr (some (0, 0))), some (.inl (d)), some (.inl (t)), some (.inl (v))] [] (cH F B C Wr E r) 0 0
  refine X_run 1 (pc' := 1) (L' := [some (.inr (some (0, 0))), some (.inl (d)), some (.inl (t)), some (.inl (v))]) (st' := [.inl (v)]) rfl ?_
  refine X_if_eq (tgt := 16) (nx := 4) rfl rfl rfl (fun n1 => ?_) (fun n1 => ?_)
  · refine X_run 1 (pc' := 17) (L' := [some (.inr (some (0, 0))), some (.inl (d)), some (.inl (t)), some (.inl (v))]) (st' := [.inl (0)]) rfl ?_
    exact X_iret rfl rfl rfl (Nat.zero_le _) (Nat.zero_le _) (no (by rw [n1]; rfl))
  · refine X_run 2 (pc' := 7) (L' := [some (.inr (some (0, 0))), some (.inl (d)), some (.inl (t)), some (.inl (v))]) (st' := [.inl (-99), .inl (v)]) rfl ?_
    refine X_ic_lt (tgt := 16) (nx := 10) rfl rfl rfl (fun n2 => ?_) (fun n2 => ?_)
    · rw [i32_lt, e1] at n2
      refine X_run 1 (pc' := 17) (L' := [some (.inr (some (0, 0))), some (.inl (d)), some (.inl (t)), some (.inl (v))]) (st' := [.inl (0)]) rfl ?_
      exact X_iret rfl rfl rfl (Nat.zero_le _) (Nat.zero_le _) (no (by rw [decide_eq_false (by omega)]; rfl))
    · rw [i32_lt, e1] at n2
      refine X_run 2 (pc' := 13) (L' := [some (.inr (some (0, 0))), some (.inl (d)), some (.inl (t)), some (.inl (v))]) (st' := [.inl (99), .inl (v)]) rfl ?_
      refine X_ic_le (tgt := 18) (nx := 16) rfl rfl rfl (fun n3 => ?_) (fun n3 => ?_)
      · rw [i32_le, e9] at n3
        have okE : (decide (-99 ≤ v.toInt ∧ v.toInt ≤ 99) && decide (v ≠ 0)) = true := by rw [decide_eq_true (by omega), decide_eq_true n1]; rfl
        rw [okE] at hq
        refine X_run 6 (pc' := 24) (L' := [some (.inr (some (0, 0))), some (.inl (d)), some (.inl (t)), some (.inl (v))]) (st' := [.inl (-1), .inl (v), .inl (t), .inl (1), .inl (d), .inr (some (0, 0))]) rfl ?_
        refine X_eq (st' := [.inl (-1), .inl (v), .inl (t), .inl (nI (1)), .inl (d), .inr (some (0, 0))]) rfl (congrArg (fun zz9 : Int32 => ([.inl (-1), .inl (v), .inl (t), .inl zz9, .inl (d), .inr (some (0, 0))] : List AV)) (by first | rfl | exact congrArg nI (by omega) | (simp only [il_0, il_1, il_2, il_3, il_4, il_5, il_6, il_7, il_16, il_20, il_40, il_160, pk_mul, nI_add]; done) | (simp only [il_0, il_1, il_2, il_3, il_4, il_5, il_6, il_7, il_16, il_20, il_40, il_160, pk_mul, nI_add]; exact congrArg nI (by omega)))) rfl ?_
        refine X_callV (vs := [.inl (d), .inl (nI (1)), .inl (t), .inl (v), .inl (-1)]) (st := []) (mc := 802) (ms := 4652) rfl ok_Pl_performOn v_Pl_86 (cH_obj rfl (by assumption)) rfl rfl (Nat.le_of_ble_eq_true rfl) (Nat.le_of_ble_eq_true rfl) (Nat.le_of_ble_eq_true rfl) (Nat.le_of_ble_eq_true rfl) (Nat.le_of_ble_eq_true rfl) (Nat.le_of_ble_eq_true rfl) rfl ?_
        refine c_Pl_performOn (v := v) (mc := 800) (ms := 4640) hW (hI.dw _) (by omega) (fun z => rfl) (fun z => by omega) (fun z => by omega) (fun z => by omega) (fun z => by omega) (fun F1 B1 C1 W1 E1 hI1 => ?_)
        show X M_Pl_count _ _ 27 [some (.inr (some (0, 0))), some (.inl (d)), some (.inl (t)), some (.inl (v))] [.inl ((sOn σ d t 1 false v true).2)] (cH F1 B1 C1 W1 E1 r) 802 4652
        exact X_iret rfl rfl (sOn_nar _ _ _ _ _ _ _) (Nat.le_refl _) (Nat.le_refl _) (hq _ _ _ _ _ hI1)
      · rw [i32_le, e9] at n3
        refine X_run 1 (pc' := 17) (L' := [some (.inr (some (0, 0))), some (.inl (d)), some (.inl (t)), some (.inl (v))]) (st' := [.inl (0)]) rfl ?_
        exact X_iret rfl rfl rfl (Nat.zero_le _) (Nat.zero_le _) (no (by rw [decide_eq_false (by omega)]; rfl))
theorem c_Pl_buy {d t v : Int32} (hW : W2 σ) (hI : CI σ F B C E) (hq : ∀ (F' : CF) (B' : CB) (C' : CC) (Wr' : Nat → Option Nd) (E' : Nat → Nat → Bool), CI (sOn σ d t 2 false v (decide (1 ≤ v.toInt ∧ v.toInt ≤ 99))).1 F' B' C' E' → Q (some (.inl (sOn σ d t 2 false v (decide (1 ≤ v.toInt ∧ v.toInt ≤ 99))).2)) (cH F' B' C' Wr' E' r)) : X M_Pl_buy (rmo M_Pl_buy 802 4652) (Zm Q 802 4652) 0 (ini M_Pl_buy [.inr (some (0, 0)), .inl d, .inl t, .inl v]) [] (cH F B C Wr E r) 0 0 := by
  have h0 : E 0 0 = true := by obtain ⟨see, h, -⟩ := hI; exact h.1
  have e1 : (1 : Int32).toInt = 1 := by decide
  have e9 : (99 : Int32).toInt = 99 := by decide
  have no : decide (1 ≤ v.toInt ∧ v.toInt ≤ 99) = false → Q (some (.inl 0)) (cH F B C Wr E r) := fun z => by
    have := hq F B C Wr E
    rw [z] at this
    exact this hI
  show X M_Pl_buy _ _ 0 [some (.inr (some (0, 0))), some (.inl (d)), some (.inl (t)), some (.inl (v))] [] (cH F B C Wr E r) 0 0
  refine X_run 2 (pc' := 2) (L' := [some (.inr (some (0, 0))), some (.inl (d)), some (.inl (t)), some (.inl (v))]) (st' := [.inl (1), .inl (v)]) rfl ?_
  refine X_ic_lt (tgt := 11) (nx := 5) rfl rfl rfl (fun n2 => ?_) (fun n2 => ?_)
  · rw [i32_lt, e1] at n2
    refine X_run 1 (pc' := 12) (L' := [some (.inr (some (0, 0))), some (.inl (d)), some (.inl (t)), some (.inl (v))]) (st' := [.inl (0)]) rfl ?_
    exact X_iret rfl rfl rfl (Nat.zero_le _) (Nat.zero_le _) (no (decide_eq_false (by omega)))
  · rw [i32_lt, e1] at n2
    refine X_run 2 (pc' := 8) (L' := [some (.inr (some (0, 0))), some (.inl (d)), some (.inl (t)), some (.inl (v))]) (st' := [.inl (99), .inl (v)]) rfl ?_
    refine X_ic_le (tgt := 13) (nx := 11) rfl rfl rfl (fun n3 => ?_) (fun n3 => ?_)
    · rw [i32_le, e9] at n3
      rw [decide_eq_true (show 1 ≤ v.toInt ∧ v.toInt ≤ 99 by omega)] at hq
      refine X_run 6 (pc' := 19) (L' := [some (.inr (some (0, 0))), some (.inl (d)), some (.inl (t)), some (.inl (v))]) (st' := [.inl (-1), .inl (v), .inl (t), .inl (2), .inl (d), .inr (some (0, 0))]) rfl ?_
      refine X_eq (st' := [.inl (-1), .inl (v), .inl (t), .inl (nI (2)), .inl (d), .inr (some (0, 0))]) rfl (congrArg (fun zz9 : Int32 => ([.inl (-1), .inl (v), .inl (t), .inl zz9, .inl (d), .inr (some (0, 0))] : List AV)) (by first | rfl | exact congrArg nI (by omega) | (simp only [il_0, il_1, il_2, il_3, il_4, il_5, il_6, il_7, il_16, il_20, il_40, il_160, pk_mul, nI_add]; done) | (simp only [il_0, il_1, il_2, il_3, il_4, il_5, il_6, il_7, il_16, il_20, il_40, il_160, pk_mul, nI_add]; exact congrArg nI (by omega)))) rfl ?_
      refine X_callV (vs := [.inl (d), .inl (nI (2)), .inl (t), .inl (v), .inl (-1)]) (st := []) (mc := 802) (ms := 4652) rfl ok_Pl_performOn v_Pl_86 (cH_obj rfl (by assumption)) rfl rfl (Nat.le_of_ble_eq_true rfl) (Nat.le_of_ble_eq_true rfl) (Nat.le_of_ble_eq_true rfl) (Nat.le_of_ble_eq_true rfl) (Nat.le_of_ble_eq_true rfl) (Nat.le_of_ble_eq_true rfl) rfl ?_
      refine c_Pl_performOn (v := v) (mc := 800) (ms := 4640) hW (hI.dw _) (by omega) (fun z => rfl) (fun z => by omega) (fun z => by omega) (fun z => by omega) (fun z => by omega) (fun F1 B1 C1 W1 E1 hI1 => ?_)
      show X M_Pl_buy _ _ 22 [some (.inr (some (0, 0))), some (.inl (d)), some (.inl (t)), some (.inl (v))] [.inl ((sOn σ d t 2 false v true).2)] (cH F1 B1 C1 W1 E1 r) 802 4652
      exact X_iret rfl rfl (sOn_nar _ _ _ _ _ _ _) (Nat.le_refl _) (Nat.le_refl _) (hq _ _ _ _ _ hI1)
    · rw [i32_le, e9] at n3
      refine X_run 1 (pc' := 12) (L' := [some (.inr (some (0, 0))), some (.inl (d)), some (.inl (t)), some (.inl (v))]) (st' := [.inl (0)]) rfl ?_
      exact X_iret rfl rfl rfl (Nat.zero_le _) (Nat.zero_le _) (no (decide_eq_false (by omega)))
theorem c_Pl_name {d t v : Int32} (hW : W2 σ) (hI : CI σ F B C E) (hq : ∀ (F' : CF) (B' : CB) (C' : CC) (Wr' : Nat → Option Nd) (E' : Nat → Nat → Bool), CI (sOn σ d t 6 false v (decide (1 ≤ v.toInt ∧ v.toInt ≤ 999))).1 F' B' C' E' → Q (some (.inl (sOn σ d t 6 false v (decide (1 ≤ v.toInt ∧ v.toInt ≤ 999))).2)) (cH F' B' C' Wr' E' r)) : X M_Pl_name (rmo M_Pl_name 802 4652) (Zm Q 802 4652) 0 (ini M_Pl_name [.inr (some (0, 0)), .inl d, .inl t, .inl v]) [] (cH F B C Wr E r) 0 0 := by
  have h0 : E 0 0 = true := by obtain ⟨see, h, -⟩ := hI; exact h.1
  show X M_Pl_name _ _ 0 [some (.inr (some (0, 0))), some (.inl (d)), some (.inl (t)), some (.inl (v))] [] (cH F B C Wr E r) 0 0
  refine X_run 1 (pc' := 1) (L' := [some (.inr (some (0, 0))), some (.inl (d)), some (.inl (t)), some (.inl (v))]) (st' := [.inl (v)]) rfl ?_
  refine X_callS (vs := [.inl (v)]) (st := []) (mc := 0) (ms := 0) rfl ok_Pl_isName s_Pl_70 rfl rfl (Nat.le_of_ble_eq_true rfl) (Nat.le_of_ble_eq_true rfl) (Nat.le_of_ble_eq_true rfl) (Nat.le_of_ble_eq_true rfl) (Nat.le_of_ble_eq_true rfl) (Nat.le_of_ble_eq_true rfl) rfl ?_
  refine c_Pl_isName ?_
  show X M_Pl_name _ _ 4 [some (.inr (some (0, 0))), some (.inl (d)), some (.inl (t)), some (.inl (v))] [.inl (b2i (decide (1 ≤ v.toInt ∧ v.toInt ≤ 999)))] (cH F B C Wr E r) 0 0
  refine X_if_ne (tgt := 9) (nx := 7) rfl rfl rfl (fun n1 => ?_) (fun n1 => ?_)
  · rw [b2i_n0] at n1
    have nb := of_decide_eq_true n1
    rw [n1] at hq
    refine X_run 6 (pc' := 16) (L' := [some (.inr (some (0, 0))), some (.inl (d)), some (.inl (t)), some (.inl (v))]) (st' := [.inl (v), .inl (-1), .inl (t), .inl (6), .inl (d), .inr (some (0, 0))]) rfl ?_
    refine X_eq (st' := [.inl (v), .inl (-1), .inl (t), .inl (nI (6)), .inl (d), .inr (some (0, 0))]) rfl (congrArg (fun zz9 : Int32 => ([.inl (v), .inl (-1), .inl (t), .inl zz9, .inl (d), .inr (some (0, 0))] : List AV)) (by first | rfl | exact congrArg nI (by omega) | (simp only [il_0, il_1, il_2, il_3, il_4, il_5, il_6, il_7, il_16, il_20, il_40, il_160, pk_mul, nI_add]; done) | (simp only [il_0, il_1, il_2, il_3, il_4, il_5, il_6, il_7, il_16, il_20, il_40, il_160, pk_mul, nI_add]; exact congrArg nI (by omega)))) rfl ?_
    refine X_callV (vs := [.inl (d), .inl (nI (6)), .inl (t), .inl (-1), .inl (v)]) (st := []) (mc := 802) (ms := 4652) rfl ok_Pl_performOn v_Pl_86 (cH_obj rfl (by assumption)) rfl rfl (Nat.le_of_ble_eq_true rfl) (Nat.le_of_ble_eq_true rfl) (Nat.le_of_ble_eq_true rfl) (Nat.le_of_ble_eq_true rfl) (Nat.le_of_ble_eq_true rfl) (Nat.le_of_ble_eq_true rfl) rfl ?_
    refine c_Pl_performOn (v := v) (mc := 800) (ms := 4640) hW (hI.dw _) (by omega) (fun z => by omega) (fun z => rfl) (fun z => by omega) (fun z => by omega) (fun z => nb) (fun F1 B1 C1 W1 E1 hI1 => ?_)
    show X M_Pl_name _ _ 19 [some (.inr (some (0, 0))), some (.inl (d)), some (.inl (t)), some (.inl (v))] [.inl ((sOn σ d t 6 false v true).2)] (cH F1 B1 C1 W1 E1 r) 802 4652
    exact X_iret rfl rfl (sOn_nar _ _ _ _ _ _ _) (Nat.le_refl _) (Nat.le_refl _) (hq _ _ _ _ _ hI1)
  · rw [b2i_0] at n1
    rw [n1] at hq
    refine X_run 1 (pc' := 8) (L' := [some (.inr (some (0, 0))), some (.inl (d)), some (.inl (t)), some (.inl (v))]) (st' := [.inl (0)]) rfl ?_
    exact X_iret rfl rfl rfl (Nat.zero_le _) (Nat.zero_le _) (hq F B C Wr E hI)
theorem c_Pl_move {d t b : Int32} (hW : W2 σ) (hI : CI σ F B C E) (hq : ∀ (F' : CF) (B' : CB) (C' : CC) (Wr' : Nat → Option Nd) (E' : Nat → Nat → Bool), CI (sOn σ d t 5 false b (okM σ d t b)).1 F' B' C' E' → Q (some (.inl (sOn σ d t 5 false b (okM σ d t b)).2)) (cH F' B' C' Wr' E' r)) : X M_Pl_move (rmo M_Pl_move 802 4652) (Zm Q 802 4652) 0 (ini M_Pl_move [.inr (some (0, 0)), .inl d, .inl t, .inl b]) [] (cH F B C Wr E r) 0 0 := by
  have hw := hW.1
  have h4 := hw.1.1
  have hI' := hI
  obtain ⟨see0, hB, -, -⟩ := hI'
  have h0 := hB.1
  have no : (okM σ d t b && canT σ d t false) = false → ∀ (F' : CF) (B' : CB) (C' : CC) (Wr' : Nat → Option Nd) (E' : Nat → Nat → Bool), CI σ F' B' C' E' → Q (some (.inl 0)) (cH F' B' C' Wr' E' r) := fun hc F' B' C' W' E' hI' => by
    have := hq F' B' C' W' E'
    unfold sOn at this
    rw [hc] at this
    exact this hI'
  show X M_Pl_move _ _ 0 [some (.inr (some (0, 0))), some (.inl (d)), some (.inl (t)), some (.inl (b)), none] [] (cH F B C Wr E r) 0 0
  refine X_run 2 (pc' := 2) (L' := [some (.inr (some (0, 0))), some (.inl (d)), some (.inl (t)), some (.inl (b)), none]) (st' := [.inl (d), .inr (some (0, 0))]) rfl ?_
  refine X_callV (vs := [.inl (d)]) (st := []) (mc := 0) (ms := 0) rfl ok_Pl_findDoer v_Pl_67 (cH_obj rfl (by assumption)) rfl rfl (Nat.le_of_ble_eq_true rfl) (Nat.le_of_ble_eq_true rfl) (Nat.le_of_ble_eq_true rfl) (Nat.le_of_ble_eq_true rfl) (Nat.le_of_ble_eq_true rfl) (Nat.le_of_ble_eq_true rfl) rfl ?_
  refine c_Pl_findDoer hB h4 (fun k hk ek hmk => ?_) (fun hno => ?_)
  rotate_left
  · show X M_Pl_move _ _ 5 [some (.inr (some (0, 0))), some (.inl (d)), some (.inl (t)), some (.inl (b)), none] [.inr none] (cH F B C Wr E r) 0 0
    refine X_run 2 (pc' := 9) (L' := [some (.inr (some (0, 0))), some (.inl (d)), some (.inl (t)), some (.inl (b)), some (.inr none)]) (st' := [.inr none]) rfl ?_
    refine X_ifnull (tgt := 17) (nx := 12) rfl rfl rfl (fun n1 => ?_) (fun nn n1 => ?_)
    · refine X_run 1 (pc' := 18) (L' := [some (.inr (some (0, 0))), some (.inl (d)), some (.inl (t)), some (.inl (b)), some (.inr none)]) (st' := [.inl (0)]) rfl ?_
      exact X_iret rfl rfl rfl (Nat.zero_le _) (Nat.zero_le _) (no (by unfold canT; rw [hno]; simp) F B C Wr E hI)
    · cases n1
  have kc : d.toNatClampNeg = k := by rw [ek]; exact nI_clamp (by omega)
  obtain ⟨k4, h15, h16, hn15, hr⟩ := hB.2.2.2.2.2.2.2.2.2.2.1 k hk
  have h17 := (hr k k4).1
  have h2' := hB.2.2.2.1.1
  have hP5 := hB.2.2.1.1
  show X M_Pl_move _ _ 5 [some (.inr (some (0, 0))), some (.inl (d)), some (.inl (t)), some (.inl (b)), none] [.inr (some (15, k))] (cH F B C Wr E r) 0 0
  refine X_run 2 (pc' := 9) (L' := [some (.inr (some (0, 0))), some (.inl (d)), some (.inl (t)), some (.inl (b)), some (.inr (some (15, k)))]) (st' := [.inr (some (15, k))]) rfl ?_
  refine X_ifnull (tgt := 17) (nx := 12) rfl rfl rfl (fun n1 => ?_) (fun nn n1 => ?_)
  · cases n1
  · refine X_run 2 (pc' := 14) (L' := [some (.inr (some (0, 0))), some (.inl (d)), some (.inl (t)), some (.inl (b)), some (.inr (some (15, k)))]) (st' := [.inl (b), .inl (t)]) rfl ?_
    refine X_ic_ne (tgt := 19) (nx := 17) rfl rfl rfl (fun n2 => ?_) (fun n2 => ?_)
    rotate_left
    · refine X_run 1 (pc' := 18) (L' := [some (.inr (some (0, 0))), some (.inl (d)), some (.inl (t)), some (.inl (b)), some (.inr (some (15, k)))]) (st' := [.inl (0)]) rfl ?_
      exact X_iret rfl rfl rfl (Nat.zero_le _) (Nat.zero_le _) (no (by unfold okM; rw [decide_eq_false (fun z => z n2)]; rfl) F B C Wr E hI)
    refine X_run 1 (pc' := 20) (L' := [some (.inr (some (0, 0))), some (.inl (d)), some (.inl (t)), some (.inl (b)), some (.inr (some (15, k)))]) (st' := [.inr (some (0, 0))]) rfl ?_
    refine XC_get (a := 0) (i := 0) (v := .inr (some (5, 0))) rfl f_Pl_41 ⟨rfl, rfl⟩ (by assumption) rfl rfl ?_
    refine X_run 1 (pc' := 24) (L' := [some (.inr (some (0, 0))), some (.inl (d)), some (.inl (t)), some (.inl (b)), some (.inr (some (15, k)))]) (st' := [.inr (some (0, 0)), .inr (some (5, 0))]) rfl ?_
    refine XC_get (a := 0) (i := 0) (v := .inr (some (2, 0))) rfl f_Pl_22 ⟨rfl, rfl⟩ (by assumption) rfl rfl ?_
    refine X_run 1 (pc' := 29) (L' := [some (.inr (some (0, 0))), some (.inl (d)), some (.inl (t)), some (.inl (b)), some (.inr (some (15, k)))]) (st' := [.inr (some (15, k)), .inr (some (2, 0)), .inr (some (5, 0))]) rfl ?_
    refine X_callV (vs := []) (st := [.inr (some (2, 0)), .inr (some (5, 0))]) (mc := 0) (ms := 0) rfl ok_Dv_known v_Pl_59 (cH_obj rfl (by assumption)) rfl rfl (Nat.le_of_ble_eq_true rfl) (Nat.le_of_ble_eq_true rfl) (Nat.le_of_ble_eq_true rfl) (Nat.le_of_ble_eq_true rfl) (Nat.le_of_ble_eq_true rfl) (Nat.le_of_ble_eq_true rfl) rfl ?_
    refine c_Dv_known k4 h15 h16 hn15 ?_
    show X M_Pl_move _ _ 32 [some (.inr (some (0, 0))), some (.inl (d)), some (.inl (t)), some (.inl (b)), some (.inr (some (15, k)))] [.inr (some (17, 4 * k + k)), .inr (some (2, 0)), .inr (some (5, 0))] (cH F B C Wr E r) 0 0
    refine X_callV (vs := [.inr (some (2, 0)), .inr (some (17, 4 * k + k))]) (st := []) (mc := 800) (ms := 4640) rfl ok_Pi_draw v_Pl_90 (cH_obj rfl (by assumption)) rfl rfl (Nat.le_of_ble_eq_true rfl) (Nat.le_of_ble_eq_true rfl) (Nat.le_of_ble_eq_true rfl) (Nat.le_of_ble_eq_true rfl) (Nat.le_of_ble_eq_true rfl) (Nat.le_of_ble_eq_true rfl) rfl ?_
    refine c_Pi_drawU (m := rk σ k k) hW (hI.dw _) ⟨rfl, rfl, rfl⟩ h17 (fun e he => ((hr k k4).2 e he).1) (okS_d hw k) (CL_d hW k) (fun F1 B1 C1 W1 E1 fd hCD => ?_)
    show X M_Pl_move _ _ 35 [some (.inr (some (0, 0))), some (.inl (d)), some (.inl (t)), some (.inl (b)), some (.inr (some (15, k)))] [] (cH F1 B1 C1 W1 E1 r) 800 4640
    have hI1 := hCD.1
    have q0 := hI1.1
    have hP1 := hI1.2.2.1
    have hP15 := hP1.1
    have fin : ((b = -1 ∨ ∃ j, j < 160 ∧ b = nI j) ∧ okM σ d t b = true) → X M_Pl_move (rmo M_Pl_move 802 4652) (Zm Q 802 4652) 53 [some (.inr (some (0, 0))), some (.inl d), some (.inl t), some (.inl b), some (.inr (some (15, k)))] [] (cH F1 B1 C1 W1 E1 r) 800 4640 := by
      rintro ⟨hb, hok⟩
      rw [hok] at hq
      refine X_run 6 (pc' := 59) (L' := [some (.inr (some (0, 0))), some (.inl (d)), some (.inl (t)), some (.inl (b)), some (.inr (some (15, k)))]) (st' := [.inl (-1), .inl (b), .inl (t), .inl (5), .inl (d), .inr (some (0, 0))]) rfl ?_
      refine X_eq (st' := [.inl (-1), .inl (b), .inl (t), .inl (nI (5)), .inl (d), .inr (some (0, 0))]) rfl (congrArg (fun zz9 : Int32 => ([.inl (-1), .inl (b), .inl (t), .inl zz9, .inl (d), .inr (some (0, 0))] : List AV)) (by first | rfl | exact congrArg nI (by omega) | (simp only [il_0, il_1, il_2, il_3, il_4, il_5, il_6, il_7, il_16, il_20, il_40, il_160, pk_mul, nI_add]; done) | (simp only [il_0, il_1, il_2, il_3, il_4, il_5, il_6, il_7, il_16, il_20, il_40, il_160, pk_mul, nI_add]; exact congrArg nI (by omega)))) rfl ?_
      refine X_callV (vs := [.inl (d), .inl (nI (5)), .inl (t), .inl (b), .inl (-1)]) (st := []) (mc := 2) (ms := 12) rfl ok_Pl_performOn v_Pl_86 (cH_obj rfl (by assumption)) rfl rfl (Nat.le_of_ble_eq_true rfl) (Nat.le_of_ble_eq_true rfl) (Nat.le_of_ble_eq_true rfl) (Nat.le_of_ble_eq_true rfl) (Nat.le_of_ble_eq_true rfl) (Nat.le_of_ble_eq_true rfl) rfl ?_
      refine c_Pl_performOn (v := b) (mc := 0) (ms := 0) hW ⟨rk σ k k, hCD, Or.inr ⟨rfl, rfl, by rw [kc]⟩⟩ (by omega) (fun z => rfl) (fun z => by omega) (fun z _ => ⟨hb, fun z => n2 z.symm⟩) (fun z => by omega) (fun z => by omega) (fun F2 B2 C2 W2 E2 hI2 => ?_)
      show X M_Pl_move _ _ 62 [some (.inr (some (0, 0))), some (.inl (d)), some (.inl (t)), some (.inl (b)), some (.inr (some (15, k)))] [.inl ((sOn σ d t 5 false b true).2)] (cH F2 B2 C2 W2 E2 r) 802 4652
      exact X_iret rfl rfl (sOn_nar _ _ _ _ _ _ _) (Nat.le_refl _) (Nat.le_refl _) (hq _ _ _ _ _ hI2)
    refine X_run 2 (pc' := 37) (L' := [some (.inr (some (0, 0))), some (.inl (d)), some (.inl (t)), some (.inl (b)), some (.inr (some (15, k)))]) (st' := [.inl (-1), .inl (b)]) rfl ?_
    refine X_ic_eq (tgt := 53) (nx := 40) rfl rfl rfl (fun n3 => ?_) (fun n3 => ?_)
    · refine fin ⟨Or.inl n3, ?_⟩
      unfold okM
      rw [decide_eq_true n2, decide_eq_true n3]
      rfl
    · refine X_run 1 (pc' := 41) (L' := [some (.inr (some (0, 0))), some (.inl (d)), some (.inl (t)), some (.inl (b)), some (.inr (some (15, k)))]) (st' := [.inr (some (0, 0))]) rfl ?_
      refine XC_get (a := 0) (i := 0) (v := .inr (some (5, 0))) rfl f_Pl_41 ⟨rfl, rfl⟩ (by assumption) rfl rfl ?_
      refine X_run 1 (pc' := 45) (L' := [some (.inr (some (0, 0))), some (.inl (d)), some (.inl (t)), some (.inl (b)), some (.inr (some (15, k)))]) (st' := [.inl (b), .inr (some (5, 0))]) rfl ?_
      refine X_callV (vs := [.inl (b)]) (st := []) (mc := 0) (ms := 0) rfl ok_Pi_find v_Pl_94 (cH_obj rfl (by assumption)) rfl rfl (Nat.le_of_ble_eq_true rfl) (Nat.le_of_ble_eq_true rfl) (Nat.le_of_ble_eq_true rfl) (Nat.le_of_ble_eq_true rfl) (Nat.le_of_ble_eq_true rfl) (Nat.le_of_ble_eq_true rfl) rfl ?_
      refine c_Pi_find hP1 hCD.2.2.2.1.TH (fun z hz => ?_)
      rcases hz with ⟨y, y160, ey, hth, ez⟩ | ⟨ez, hno⟩
      · rw [ez]
        show X M_Pl_move _ _ 48 [some (.inr (some (0, 0))), some (.inl (d)), some (.inl (t)), some (.inl (b)), some (.inr (some (15, k)))] [.inr (some (20, y))] (cH F1 B1 C1 W1 E1 r) 800 4640
        refine X_ifnonnull (tgt := 53) (nx := 51) rfl rfl rfl (fun nn n4 => ?_) (fun n4 => ?_)
        · refine fin ⟨Or.inr ⟨y, y160, ey⟩, ?_⟩
          unfold okM
          have : (nI y).toNatClampNeg = y := nI_clamp (by omega)
          rw [decide_eq_true n2, kc, ey, this, hth, nI_toInt (by omega), decide_eq_true (show (0 : Int) ≤ (y : Int) ∧ (y : Int) ≤ 159 by omega)]
          simp
        · cases n4
      · rw [ez]
        show X M_Pl_move _ _ 48 [some (.inr (some (0, 0))), some (.inl (d)), some (.inl (t)), some (.inl (b)), some (.inr (some (15, k)))] [.inr none] (cH F1 B1 C1 W1 E1 r) 800 4640
        refine X_ifnonnull (tgt := 53) (nx := 51) rfl rfl rfl (fun nn n4 => ?_) (fun n4 => ?_)
        · cases n4
        · refine X_run 1 (pc' := 52) (L' := [some (.inr (some (0, 0))), some (.inl (d)), some (.inl (t)), some (.inl (b)), some (.inr (some (15, k)))]) (st' := [.inl (0)]) rfl ?_
          refine X_iret rfl rfl rfl (Nat.le_of_ble_eq_true rfl) (Nat.le_of_ble_eq_true rfl) (no ?_ F1 B1 C1 W1 E1 ⟨_, hCD⟩)
          have : okM σ d t b = false := by
            unfold okM
            rw [decide_eq_false n3, kc]
            by_cases q : 0 ≤ b.toInt ∧ b.toInt ≤ 159
            · obtain ⟨y, hy, e2⟩ := rng_nI (n := 159) (by decide) q
              have hn := hno y (by omega) e2
              rw [e2, nI_clamp (by omega), hn]
              simp
            · rw [decide_eq_false q]
              simp
          rw [this]
          rfl
end

