/-! the component: put, undo, view, questions -/
theorem CI_v {σ : Sg} {F : CF} {B : CB} {C : CC} {E : Nat → Nat → Bool} (h : CI σ F B C E) (hW : W2 σ) {d : Nat} {n : Int32} (hd : d < nd σ) (hn : n = -1 ∨ ∃ m, m < mny σ d ∧ n = nI m) : CI (setV σ (nI d) n) (u3 (u3 F 0 0 5 (nI d)) 0 0 6 n) B C E := by
  have hW' := setV_W2 hW hd hn
  obtain ⟨see, ⟨i1, i2, i3, i4, i5, i6, i7, i8, i9, i10, i11, i12⟩, h2, h3⟩ := h
  have hF : ∀ a i k, a ≠ 0 → (u3 (u3 F 0 0 5 (nI d)) 0 0 6 n) a i k = F a i k := fun a i k ha => by rw [u3_ne (by omega), u3_ne (by omega)]
  obtain ⟨l1, l2, l3, l4, l5, l6, l7, l8, l9⟩ := i4
  refine ⟨see, ⟨i1, i2, i3, ⟨l1, l2, l3, by rw [hF _ _ _ (by decide)]; exact l4, l5, l6, l7, fun x hx => ?_, l9⟩, by rw [u3_ne (by omega), u3_ne (by omega)]; exact i5, by rw [u3_ne (by omega), u3_ne (by omega)]; exact i6, by rw [u3_ne (by omega), u3_eq]; rfl, by rw [u3_eq]; rfl, by rw [hF _ _ _ (by decide)]; exact i9, i10, fun a ha => ?_, i12⟩, h2, ?_⟩
  · obtain ⟨a1, a2, a3, a4⟩ := l8 x hx
    refine ⟨a1, a2, a3, ?_⟩
    rw [hF 18 x 0 (by decide), hF 18 x 1 (by decide), hF 18 x 2 (by decide), hF 18 x 3 (by decide), hF 18 x 4 (by decide), hF 18 x 5 (by decide), hF 18 x 6 (by decide)]
    exact a4
  · obtain ⟨a1, a2, a3, a4, a5⟩ := i11 a ha
    exact ⟨a1, a2, a3, by rw [hF 15 a 0 (by decide)]; exact a4, a5⟩
  · exact (h3.agr (τ := setV σ (nI d) n) ⟨rfl, rfl, fun _ _ => ⟨rfl, rfl, rfl, rfl, rfl, rfl⟩⟩ hW.1 h2).fr hW'.1 h2 (fun a i k ha => hF a i k (by omega)) rfl ⟨rfl, rfl⟩ (fun _ _ _ => rfl)
theorem kp_nd {σ : Sg} (h : WF σ) (d : Nat) : kpN σ d 4 = kpN σ d (nd σ) := by
  have h4 := h.1.1
  have z : ∀ e, nd σ ≤ e → rk σ d d e - kpA σ d e (nd σ) = 0 := fun e he => by
    rw [(h.p12 d d e).2.2 (Or.inr (Or.inr he))]
    omega
  have step : ∀ k, nd σ ≤ k → kpN σ d (k + 1) = kpN σ d k := fun k hk => by
    rw [kpN_succ, z k hk]
    rfl
  have key : ∀ m, kpN σ d (nd σ + m) = kpN σ d (nd σ) := by
    intro m
    induction m with
    | zero => rfl
    | succ m ih => rw [show nd σ + (m + 1) = (nd σ + m) + 1 by omega, step _ (by omega), ih]
  have := key (4 - nd σ)
  rwa [show nd σ + (4 - nd σ) = 4 by omega] at this
section
variable {F : CF} {B : CB} {C : CC} {Wr : Nat → Option Nd} {E : Nat → Nat → Bool} {r : AH} {Q : Option AV → AH → Prop} {h : AH} {σ : Sg} {see m : Nat → Nat}
theorem c_Pl_put {d nm ct : Int32} (hW : W2 σ) (hI : CI σ F B C E) (hq : ∀ (F' : CF) (B' : CB) (C' : CC) (Wr' : Nat → Option Nd) (E' : Nat → Nat → Bool), CI (sPut σ d nm ct).1 F' B' C' E' → Q (some (.inl (sPut σ d nm ct).2)) (cH F' B' C' Wr' E' r)) : X M_Pl_put (rmo M_Pl_put 2 12) (Zm Q 2 12) 0 (ini M_Pl_put [.inr (some (0, 0)), .inl d, .inl nm, .inl ct]) [] (cH F B C Wr E r) 0 0 := by
  have hw := hW.1
  have h4 := hw.1.1
  obtain ⟨see0, hCD⟩ := id hI
  have hB := hCD.1
  have h0 := hB.1
  have e0 : (0 : Int32).toInt = 0 := rfl
  have e9 : (99 : Int32).toInt = 99 := by decide
  have no : (canD σ d && decide (1 ≤ nm.toInt ∧ nm.toInt ≤ 999) && decide (0 ≤ ct.toInt ∧ ct.toInt ≤ 99)) = false → Q (some (.inl (-1))) (cH F B C Wr E r) := fun hc => by
    have := hq F B C Wr E
    unfold sPut at this
    rw [hc] at this
    exact this hI
  show X M_Pl_put _ _ 0 [some (.inr (some (0, 0))), some (.inl (d)), some (.inl (nm)), some (.inl (ct)), none, none] [] (cH F B C Wr E r) 0 0
  refine X_run 2 (pc' := 2) (L' := [some (.inr (some (0, 0))), some (.inl (d)), some (.inl (nm)), some (.inl (ct)), none, none]) (st' := [.inl (d), .inr (some (0, 0))]) rfl ?_
  refine X_callV (vs := [.inl (d)]) (st := []) (mc := 0) (ms := 0) rfl ok_Pl_findDoer v_Pl_67 (cH_obj rfl (by assumption)) rfl rfl (Nat.le_of_ble_eq_true rfl) (Nat.le_of_ble_eq_true rfl) (Nat.le_of_ble_eq_true rfl) (Nat.le_of_ble_eq_true rfl) (Nat.le_of_ble_eq_true rfl) (Nat.le_of_ble_eq_true rfl) rfl ?_
  refine c_Pl_findDoer hB h4 (fun k hk ek hmk => ?_) (fun hno => ?_)
  rotate_left
  · show X M_Pl_put _ _ 5 [some (.inr (some (0, 0))), some (.inl (d)), some (.inl (nm)), some (.inl (ct)), none, none] [.inr none] (cH F B C Wr E r) 0 0
    refine X_run 2 (pc' := 9) (L' := [some (.inr (some (0, 0))), some (.inl (d)), some (.inl (nm)), some (.inl (ct)), some (.inr none), none]) (st' := [.inr none]) rfl ?_
    refine X_ifnull (tgt := 29) (nx := 12) rfl rfl rfl (fun n1 => ?_) (fun nn n1 => ?_)
    · refine X_run 1 (pc' := 30) (L' := [some (.inr (some (0, 0))), some (.inl (d)), some (.inl (nm)), some (.inl (ct)), some (.inr none), none]) (st' := [.inl (-1)]) rfl ?_
      exact X_iret rfl rfl rfl (Nat.zero_le _) (Nat.zero_le _) (no (by rw [hno]; rfl))
    · cases n1
  have kc : d.toNatClampNeg = k := by rw [ek]; exact nI_clamp (by omega)
  have hcan : canD σ d = true := by
    unfold canD
    rw [kc, ek, isD_nI (by omega), decide_eq_true hk, decide_eq_true hmk]
    rfl
  obtain ⟨k4, h15, h16, hn15, hr⟩ := hB.2.2.2.2.2.2.2.2.2.2.1 k hk
  have h17 := (hr k k4).1
  have hvk := (hr k k4).2 k k4
  show X M_Pl_put _ _ 5 [some (.inr (some (0, 0))), some (.inl (d)), some (.inl (nm)), some (.inl (ct)), none, none] [.inr (some (15, k))] (cH F B C Wr E r) 0 0
  refine X_eq (L' := [some (.inr (some (0, 0))), some (.inl (nI k)), some (.inl (nm)), some (.inl (ct)), none, none]) (congrArg (fun zz9 : Int32 => ([some (.inr (some (0, 0))), some (.inl zz9), some (.inl (nm)), some (.inl (ct)), none, none] : List (Option AV))) (ek)) rfl rfl ?_
  refine X_run 2 (pc' := 9) (L' := [some (.inr (some (0, 0))), some (.inl (nI k)), some (.inl (nm)), some (.inl (ct)), some (.inr (some (15, k))), none]) (st' := [.inr (some (15, k))]) rfl ?_
  refine X_ifnull (tgt := 29) (nx := 12) rfl rfl rfl (fun n1 => ?_) (fun nn n1 => ?_)
  · cases n1
  · refine X_run 1 (pc' := 13) (L' := [some (.inr (some (0, 0))), some (.inl (nI k)), some (.inl (nm)), some (.inl (ct)), some (.inr (some (15, k))), none]) (st' := [.inl (nm)]) rfl ?_
    refine X_callS (vs := [.inl (nm)]) (st := []) (mc := 0) (ms := 0) rfl ok_Pl_isName s_Pl_70 rfl rfl (Nat.le_of_ble_eq_true rfl) (Nat.le_of_ble_eq_true rfl) (Nat.le_of_ble_eq_true rfl) (Nat.le_of_ble_eq_true rfl) (Nat.le_of_ble_eq_true rfl) (Nat.le_of_ble_eq_true rfl) rfl ?_
    refine c_Pl_isName ?_
    show X M_Pl_put _ _ 16 [some (.inr (some (0, 0))), some (.inl (nI k)), some (.inl (nm)), some (.inl (ct)), some (.inr (some (15, k))), none] [.inl (b2i (decide (1 ≤ nm.toInt ∧ nm.toInt ≤ 999)))] (cH F B C Wr E r) 0 0
    refine X_if_eq (tgt := 29) (nx := 19) rfl rfl rfl (fun n2 => ?_) (fun n2 => ?_)
    · rw [b2i_0] at n2
      refine X_run 1 (pc' := 30) (L' := [some (.inr (some (0, 0))), some (.inl (nI k)), some (.inl (nm)), some (.inl (ct)), some (.inr (some (15, k))), none]) (st' := [.inl (-1)]) rfl ?_
      exact X_iret rfl rfl rfl (Nat.zero_le _) (Nat.zero_le _) (no (by rw [n2]; simp))
    · rw [b2i_n0] at n2
      refine X_run 1 (pc' := 20) (L' := [some (.inr (some (0, 0))), some (.inl (nI k)), some (.inl (nm)), some (.inl (ct)), some (.inr (some (15, k))), none]) (st' := [.inl (ct)]) rfl ?_
      refine X_if_lt (tgt := 29) (nx := 23) rfl rfl rfl (fun n3 => ?_) (fun n3 => ?_)
      · rw [i32_lt, e0] at n3
        refine X_run 1 (pc' := 30) (L' := [some (.inr (some (0, 0))), some (.inl (nI k)), some (.inl (nm)), some (.inl (ct)), some (.inr (some (15, k))), none]) (st' := [.inl (-1)]) rfl ?_
        exact X_iret rfl rfl rfl (Nat.zero_le _) (Nat.zero_le _) (no (by rw [decide_eq_false (show ¬ (0 ≤ ct.toInt ∧ ct.toInt ≤ 99) by omega)]; simp))
      · rw [i32_lt, e0] at n3
        refine X_run 2 (pc' := 26) (L' := [some (.inr (some (0, 0))), some (.inl (nI k)), some (.inl (nm)), some (.inl (ct)), some (.inr (some (15, k))), none]) (st' := [.inl (99), .inl (ct)]) rfl ?_
        refine X_ic_le (tgt := 31) (nx := 29) rfl rfl rfl (fun n4 => ?_) (fun n4 => ?_)
        rotate_left
        · rw [i32_le, e9] at n4
          refine X_run 1 (pc' := 30) (L' := [some (.inr (some (0, 0))), some (.inl (nI k)), some (.inl (nm)), some (.inl (ct)), some (.inr (some (15, k))), none]) (st' := [.inl (-1)]) rfl ?_
          exact X_iret rfl rfl rfl (Nat.zero_le _) (Nat.zero_le _) (no (by rw [decide_eq_false (show ¬ (0 ≤ ct.toInt ∧ ct.toInt ≤ 99) by omega)]; simp))
        rw [i32_le, e9] at n4
        have nb := of_decide_eq_true n2
        refine X_run 2 (pc' := 34) (L' := [some (.inr (some (0, 0))), some (.inl (nI k)), some (.inl (nm)), some (.inl (ct)), some (.inr (some (15, k))), none]) (st' := [.inr (some (15, k)), .inl (nI k)]) rfl ?_
        refine X_callV (vs := []) (st := [.inl (nI k)]) (mc := 0) (ms := 0) rfl ok_Dv_done v_Pl_74 (cH_obj rfl (by assumption)) rfl rfl (Nat.le_of_ble_eq_true rfl) (Nat.le_of_ble_eq_true rfl) (Nat.le_of_ble_eq_true rfl) (Nat.le_of_ble_eq_true rfl) (Nat.le_of_ble_eq_true rfl) (Nat.le_of_ble_eq_true rfl) rfl ?_
        refine c_Dv_done k4 h15 h16 h17 hn15 ?_
        show X M_Pl_put _ _ 37 [some (.inr (some (0, 0))), some (.inl (nI k)), some (.inl (nm)), some (.inl (ct)), some (.inr (some (15, k))), none] [.inl (B 17 (4 * k + k) k), .inl (nI k)] (cH F B C Wr E r) 0 0
        refine X_eq (st' := [.inl (nI (mny σ k)), .inl (nI k)]) rfl (congrArg (fun zz9 => Sum.inl zz9 :: _) (hvk.1)) rfl ?_
        refine X_callS (vs := [.inl (nI k), .inl (nI (mny σ k))]) (st := []) (mc := 0) (ms := 0) rfl ok_Pl_numberOf s_Pl_78 rfl rfl (Nat.le_of_ble_eq_true rfl) (Nat.le_of_ble_eq_true rfl) (Nat.le_of_ble_eq_true rfl) (Nat.le_of_ble_eq_true rfl) (Nat.le_of_ble_eq_true rfl) (Nat.le_of_ble_eq_true rfl) rfl ?_
        refine c_Pl_numberOf ?_
        show X M_Pl_put _ _ 40 [some (.inr (some (0, 0))), some (.inl (nI k)), some (.inl (nm)), some (.inl (ct)), some (.inr (some (15, k))), none] [.inl (nI (40 * k + mny σ k))] (cH F B C Wr E r) 0 0
        refine X_run 7 (pc' := 50) (L' := [some (.inr (some (0, 0))), some (.inl (nI k)), some (.inl (nm)), some (.inl (ct)), some (.inr (some (15, k))), some (.inl (nI (40 * k + mny σ k)))]) (st' := [.inl (nm), .inl (ct), .inl (nI (40 * k + mny σ k)), .inl (0), .inr (some (15, k)), .inr (some (0, 0))]) rfl ?_
        refine X_eq (st' := [.inl (nm), .inl (ct), .inl (nI (40 * k + mny σ k)), .inl (nI (0)), .inr (some (15, k)), .inr (some (0, 0))]) rfl (congrArg (fun zz9 : Int32 => ([.inl (nm), .inl (ct), .inl (nI (40 * k + mny σ k)), .inl zz9, .inr (some (15, k)), .inr (some (0, 0))] : List AV)) (by first | rfl | exact congrArg nI (by omega) | (simp only [il_0, il_1, il_2, il_3, il_4, il_5, il_6, il_7, il_16, il_20, il_40, il_160, pk_mul, nI_add]; done) | (simp only [il_0, il_1, il_2, il_3, il_4, il_5, il_6, il_7, il_16, il_20, il_40, il_160, pk_mul, nI_add]; exact congrArg nI (by omega)))) rfl ?_
        have ok : okD σ k 0 (40 * k + mny σ k) ct nm := ⟨hk, hmk, by omega, by omega, fun z => absurd rfl z, fun _ => ⟨rfl, by omega, n4, nb.1, nb.2⟩, fun z => by omega, fun z => by omega, fun z => by omega, fun z => by omega⟩
        refine X_callV (vs := [.inr (some (15, k)), .inl (nI (0)), .inl (nI (40 * k + mny σ k)), .inl (ct), .inl (nm)]) (st := []) (mc := 2) (ms := 12) rfl ok_Pl_perform v_Pl_82 (cH_obj rfl (by assumption)) rfl rfl (Nat.le_of_ble_eq_true rfl) (Nat.le_of_ble_eq_true rfl) (Nat.le_of_ble_eq_true rfl) (Nat.le_of_ble_eq_true rfl) (Nat.le_of_ble_eq_true rfl) (Nat.le_of_ble_eq_true rfl) rfl ?_
        refine c_Pl_perform (v := ct) (n := nm) hW hB ok (fun z => rfl) (fun z => rfl) (fun z => by omega) (fun F2 B2 C2 E2 hI2 hFP => ?_)
        show X M_Pl_put _ _ 53 [some (.inr (some (0, 0))), some (.inl (nI k)), some (.inl (nm)), some (.inl (ct)), some (.inr (some (15, k))), some (.inl (nI (40 * k + mny σ k)))] [] (cH F2 B2 C2 Wr E2 r) 2 12
        refine X_run 1 (pc' := 55) (L' := [some (.inr (some (0, 0))), some (.inl (nI k)), some (.inl (nm)), some (.inl (ct)), some (.inr (some (15, k))), some (.inl (nI (40 * k + mny σ k)))]) (st' := [.inl (nI (40 * k + mny σ k))]) rfl ?_
        refine X_iret rfl rfl rfl (Nat.le_refl _) (Nat.le_refl _) ?_
        have := hq F2 B2 C2 Wr E2
        unfold sPut at this
        rw [hcan, n2, decide_eq_true (show 0 ≤ ct.toInt ∧ ct.toInt ≤ 99 by omega), kc] at this
        exact this ⟨_, CD_do hCD hW ok hI2 hFP⟩
theorem c_Pl_undo {d : Int32} (hW : W2 σ) (hI : CI σ F B C E) (hq : ∀ (F' : CF) (B' : CB) (C' : CC) (Wr' : Nat → Option Nd) (E' : Nat → Nat → Bool), CI (sUndo σ d).1 F' B' C' E' → Q (some (.inl (sUndo σ d).2)) (cH F' B' C' Wr' E' r)) : X M_Pl_undo (rmo M_Pl_undo 2 12) (Zm Q 2 12) 0 (ini M_Pl_undo [.inr (some (0, 0)), .inl d]) [] (cH F B C Wr E r) 0 0 := by
  have hw := hW.1
  have h4 := hw.1.1
  obtain ⟨see0, hCD⟩ := id hI
  have hB := hCD.1
  have h0 := hB.1
  have h2' := hB.2.2.2.1.1
  show X M_Pl_undo _ _ 0 [some (.inr (some (0, 0))), some (.inl (d)), none, none] [] (cH F B C Wr E r) 0 0
  refine X_run 2 (pc' := 2) (L' := [some (.inr (some (0, 0))), some (.inl (d)), none, none]) (st' := [.inl (d), .inr (some (0, 0))]) rfl ?_
  refine X_callV (vs := [.inl (d)]) (st := []) (mc := 0) (ms := 0) rfl ok_Pl_findDoer v_Pl_67 (cH_obj rfl (by assumption)) rfl rfl (Nat.le_of_ble_eq_true rfl) (Nat.le_of_ble_eq_true rfl) (Nat.le_of_ble_eq_true rfl) (Nat.le_of_ble_eq_true rfl) (Nat.le_of_ble_eq_true rfl) (Nat.le_of_ble_eq_true rfl) rfl ?_
  refine c_Pl_findDoer hB h4 (fun k hk ek hmk => ?_) (fun hno => ?_)
  rotate_left
  · show X M_Pl_undo _ _ 5 [some (.inr (some (0, 0))), some (.inl (d)), none, none] [.inr none] (cH F B C Wr E r) 0 0
    refine X_run 2 (pc' := 7) (L' := [some (.inr (some (0, 0))), some (.inl (d)), some (.inr none), none]) (st' := [.inr none]) rfl ?_
    refine X_ifnonnull (tgt := 12) (nx := 10) rfl rfl rfl (fun nn n1 => ?_) (fun n1 => ?_)
    · cases n1
    · refine X_run 1 (pc' := 11) (L' := [some (.inr (some (0, 0))), some (.inl (d)), some (.inr none), none]) (st' := [.inl (-1)]) rfl ?_
      refine X_iret rfl rfl rfl (Nat.zero_le _) (Nat.zero_le _) ?_
      have := hq F B C Wr E
      unfold sUndo at this
      rw [hno] at this
      exact this hI
  have kc : d.toNatClampNeg = k := by rw [ek]; exact nI_clamp (by omega)
  have hcan : canD σ d = true := by
    unfold canD
    rw [kc, ek, isD_nI (by omega), decide_eq_true hk, decide_eq_true hmk]
    rfl
  unfold sUndo at hq
  rw [hcan, kc, lu_bk hW hk] at hq
  obtain ⟨k4, h15, h16, hn15, hr⟩ := hB.2.2.2.2.2.2.2.2.2.2.1 k hk
  have h17 := (hr k k4).1
  have hvk := (hr k k4).2 k k4
  show X M_Pl_undo _ _ 5 [some (.inr (some (0, 0))), some (.inl (d)), none, none] [.inr (some (15, k))] (cH F B C Wr E r) 0 0
  refine X_eq (L' := [some (.inr (some (0, 0))), some (.inl (nI k)), none, none]) (congrArg (fun zz9 : Int32 => ([some (.inr (some (0, 0))), some (.inl zz9), none, none] : List (Option AV))) (ek)) rfl rfl ?_
  refine X_run 2 (pc' := 7) (L' := [some (.inr (some (0, 0))), some (.inl (nI k)), some (.inr (some (15, k))), none]) (st' := [.inr (some (15, k))]) rfl ?_
  refine X_ifnonnull (tgt := 12) (nx := 10) rfl rfl rfl (fun nn n1 => ?_) (fun n1 => ?_)
  rotate_left
  · cases n1
  refine X_run 1 (pc' := 13) (L' := [some (.inr (some (0, 0))), some (.inl (nI k)), some (.inr (some (15, k))), none]) (st' := [.inr (some (0, 0))]) rfl ?_
  refine XC_get (a := 0) (i := 0) (v := .inr (some (2, 0))) rfl f_Pl_22 ⟨rfl, rfl⟩ (by assumption) rfl rfl ?_
  refine X_run 2 (pc' := 18) (L' := [some (.inr (some (0, 0))), some (.inl (nI k)), some (.inr (some (15, k))), none]) (st' := [.inr (some (15, k)), .inl (nI k), .inr (some (2, 0))]) rfl ?_
  refine X_callV (vs := []) (st := [.inl (nI k), .inr (some (2, 0))]) (mc := 0) (ms := 0) rfl ok_Dv_done v_Pl_74 (cH_obj rfl (by assumption)) rfl rfl (Nat.le_of_ble_eq_true rfl) (Nat.le_of_ble_eq_true rfl) (Nat.le_of_ble_eq_true rfl) (Nat.le_of_ble_eq_true rfl) (Nat.le_of_ble_eq_true rfl) (Nat.le_of_ble_eq_true rfl) rfl ?_
  refine c_Dv_done k4 h15 h16 h17 hn15 ?_
  show X M_Pl_undo _ _ 21 [some (.inr (some (0, 0))), some (.inl (nI k)), some (.inr (some (15, k))), none] [.inl (B 17 (4 * k + k) k), .inl (nI k), .inr (some (2, 0))] (cH F B C Wr E r) 0 0
  refine X_eq (st' := [.inl (nI (mny σ k)), .inl (nI k), .inr (some (2, 0))]) rfl (congrArg (fun zz9 => Sum.inl zz9 :: _) (hvk.1)) rfl ?_
  refine X_callV (vs := [.inl (nI k), .inl (nI (mny σ k))]) (st := []) (mc := 0) (ms := 0) rfl ok_Lg_latestToUndo v_Pl_98 (cH_obj rfl (by assumption)) rfl rfl (Nat.le_of_ble_eq_true rfl) (Nat.le_of_ble_eq_true rfl) (Nat.le_of_ble_eq_true rfl) (Nat.le_of_ble_eq_true rfl) (Nat.le_of_ble_eq_true rfl) (Nat.le_of_ble_eq_true rfl) rfl ?_
  refine c_Lg_latestToUndo hB.2.2.2.1 k4 (by omega) (fun j hj => hw.known (d := k) k4 hj) ?_
  cases hbk : bkF σ k 0 (mny σ k) with
  | none =>
    rw [hbk] at hq
    show X M_Pl_undo _ _ 24 [some (.inr (some (0, 0))), some (.inl (nI k)), some (.inr (some (15, k))), none] [.inl (-1)] (cH F B C Wr E r) 0 0
    refine X_run 3 (pc' := 27) (L' := [some (.inr (some (0, 0))), some (.inl (nI k)), some (.inr (some (15, k))), some (.inl (-1))]) (st' := [.inl (-1), .inl (-1)]) rfl ?_
    refine X_ic_eq (tgt := 40) (nx := 30) rfl rfl rfl (fun n2 => ?_) (fun n2 => ?_)
    · refine X_run 1 (pc' := 41) (L' := [some (.inr (some (0, 0))), some (.inl (nI k)), some (.inr (some (15, k))), some (.inl (-1))]) (st' := [.inl (-1)]) rfl ?_
      exact X_iret rfl rfl rfl (Nat.zero_le _) (Nat.zero_le _) (hq F B C Wr E hI)
    · exact absurd rfl n2
  | some j =>
    rw [hbk] at hq
    have hj : j < mny σ k := by
      rw [bk_st] at hbk
      exact (st_dec σ k (mny σ k)).2 j (List.mem_of_getElem? hbk)
    show X M_Pl_undo _ _ 24 [some (.inr (some (0, 0))), some (.inl (nI k)), some (.inr (some (15, k))), none] [.inl (nI j)] (cH F B C Wr E r) 0 0
    refine X_run 3 (pc' := 27) (L' := [some (.inr (some (0, 0))), some (.inl (nI k)), some (.inr (some (15, k))), some (.inl (nI j))]) (st' := [.inl (-1), .inl (nI j)]) rfl ?_
    refine X_ic_eq (tgt := 40) (nx := 30) rfl rfl rfl (fun n2 => ?_) (fun n2 => ?_)
    · have := congrArg Int32.toInt n2
      rw [nI_toInt (by omega)] at this
      have e1 : (-1 : Int32).toInt = -1 := by decide
      omega
    · refine X_run 6 (pc' := 37) (L' := [some (.inr (some (0, 0))), some (.inl (nI k)), some (.inr (some (15, k))), some (.inl (nI j))]) (st' := [.inl (-1), .inl (-1), .inl (nI j), .inl (7), .inr (some (15, k)), .inr (some (0, 0))]) rfl ?_
      refine X_eq (st' := [.inl (-1), .inl (-1), .inl (nI j), .inl (nI (7)), .inr (some (15, k)), .inr (some (0, 0))]) rfl (congrArg (fun zz9 : Int32 => ([.inl (-1), .inl (-1), .inl (nI j), .inl zz9, .inr (some (15, k)), .inr (some (0, 0))] : List AV)) (by first | rfl | exact congrArg nI (by omega) | (simp only [il_0, il_1, il_2, il_3, il_4, il_5, il_6, il_7, il_16, il_20, il_40, il_160, pk_mul, nI_add]; done) | (simp only [il_0, il_1, il_2, il_3, il_4, il_5, il_6, il_7, il_16, il_20, il_40, il_160, pk_mul, nI_add]; exact congrArg nI (by omega)))) rfl ?_
      have ok : okD σ k 7 j 0 0 := ⟨hk, hmk, by omega, by omega, fun _ z => absurd rfl z, fun z => by omega, fun _ => ⟨hj, hbk⟩, fun z => by omega, fun z => by omega, fun z => by omega⟩
      refine X_callV (vs := [.inr (some (15, k)), .inl (nI (7)), .inl (nI j), .inl (-1), .inl (-1)]) (st := []) (mc := 2) (ms := 12) rfl ok_Pl_perform v_Pl_82 (cH_obj rfl (by assumption)) rfl rfl (Nat.le_of_ble_eq_true rfl) (Nat.le_of_ble_eq_true rfl) (Nat.le_of_ble_eq_true rfl) (Nat.le_of_ble_eq_true rfl) (Nat.le_of_ble_eq_true rfl) (Nat.le_of_ble_eq_true rfl) rfl ?_
      refine c_Pl_perform (v := 0) (n := 0) hW hB ok (fun z => by omega) (fun z => by omega) (fun z => by omega) (fun F2 B2 C2 E2 hI2 hFP => ?_)
      show X M_Pl_undo _ _ 40 [some (.inr (some (0, 0))), some (.inl (nI k)), some (.inr (some (15, k))), some (.inl (nI j))] [] (cH F2 B2 C2 Wr E2 r) 2 12
      refine X_run 1 (pc' := 41) (L' := [some (.inr (some (0, 0))), some (.inl (nI k)), some (.inr (some (15, k))), some (.inl (nI j))]) (st' := [.inl (nI j)]) rfl ?_
      exact X_iret rfl rfl rfl (Nat.le_refl _) (Nat.le_refl _) (hq F2 B2 C2 Wr E2 ⟨_, CD_do hCD hW ok hI2 hFP⟩)
theorem c_Pl_view {d n : Int32} (hW : W2 σ) (hI : CI σ F B C E) (hq : ∀ (F' : CF) (B' : CB) (C' : CC) (Wr' : Nat → Option Nd) (E' : Nat → Nat → Bool), CI (sView σ d n).1 F' B' C' E' → Q (some (.inl (sView σ d n).2)) (cH F' B' C' Wr' E' r)) : X M_Pl_view (rmo M_Pl_view 0 0) (Zm Q 0 0) 0 (ini M_Pl_view [.inr (some (0, 0)), .inl d, .inl n]) [] (cH F B C Wr E r) 0 0 := by
  have hw := hW.1
  have h4 := hw.1.1
  obtain ⟨see0, hCD⟩ := id hI
  have hB := hCD.1
  have h0 := hB.1
  have h2' := hB.2.2.2.1.1
  have no : (isD σ d && (decide (n = -1) || decide (0 ≤ n.toInt ∧ n.toInt ≤ (mny σ d.toNatClampNeg : Int) - 1))) = false → Q (some (.inl 0)) (cH F B C Wr E r) := fun hc => by
    have := hq F B C Wr E
    unfold sView at this
    rw [hc] at this
    exact this hI
  show X M_Pl_view _ _ 0 [some (.inr (some (0, 0))), some (.inl (d)), some (.inl (n))] [] (cH F B C Wr E r) 0 0
  refine X_run 2 (pc' := 2) (L' := [some (.inr (some (0, 0))), some (.inl (d)), some (.inl (n))]) (st' := [.inl (d), .inr (some (0, 0))]) rfl ?_
  refine X_callV (vs := [.inl (d)]) (st := []) (mc := 0) (ms := 0) rfl ok_Pl_findDevice v_Pl_45 (cH_obj rfl (by assumption)) rfl rfl (Nat.le_of_ble_eq_true rfl) (Nat.le_of_ble_eq_true rfl) (Nat.le_of_ble_eq_true rfl) (Nat.le_of_ble_eq_true rfl) (Nat.le_of_ble_eq_true rfl) (Nat.le_of_ble_eq_true rfl) rfl ?_
  refine c_Pl_findDevice hB h4 (fun k hk ek => ?_) (fun hno => ?_)
  rotate_left
  · show X M_Pl_view _ _ 5 [some (.inr (some (0, 0))), some (.inl (d)), some (.inl (n))] [.inr none] (cH F B C Wr E r) 0 0
    refine X_ifnull (tgt := 25) (nx := 8) rfl rfl rfl (fun n1 => ?_) (fun nn n1 => ?_)
    · refine X_run 1 (pc' := 26) (L' := [some (.inr (some (0, 0))), some (.inl (d)), some (.inl (n))]) (st' := [.inl (0)]) rfl ?_
      exact X_iret rfl rfl rfl (Nat.le_refl _) (Nat.le_refl _) (no (by rw [hno]; rfl))
    · cases n1
  have kc : d.toNatClampNeg = k := by rw [ek]; exact nI_clamp (by omega)
  have hisd : isD σ d = true := by rw [ek, isD_nI (by omega)]; exact decide_eq_true hk
  have fin : (n = -1 ∨ ∃ m, m < mny σ k ∧ n = nI m) → (decide (n = -1) || decide (0 ≤ n.toInt ∧ n.toInt ≤ (mny σ k : Int) - 1)) = true → X M_Pl_view (rmo M_Pl_view 0 0) (Zm Q 0 0) 27 [some (.inr (some (0, 0))), some (.inl (nI k)), some (.inl n)] [] (cH F B C Wr E r) 0 0 := by
    intro hn hok
    refine X_run 2 (pc' := 29) (L' := [some (.inr (some (0, 0))), some (.inl (nI k)), some (.inl (n))]) (st' := [.inl (nI k), .inr (some (0, 0))]) rfl ?_
    refine XC_put (k := 5) (a := 0) (i := 0) rfl f_Pl_26 rfl rfl rfl ⟨rfl, rfl⟩ ⟨rfl, rfl⟩ (by assumption) (fun _ => ⟨rfl, rfl⟩) rfl ?_
    refine X_run 2 (pc' := 34) (L' := [some (.inr (some (0, 0))), some (.inl (nI k)), some (.inl (n))]) (st' := [.inl (n), .inr (some (0, 0))]) rfl ?_
    refine XC_put (k := 6) (a := 0) (i := 0) rfl f_Pl_29 rfl rfl rfl ⟨rfl, rfl⟩ ⟨rfl, rfl⟩ (by assumption) (fun _ => ⟨rfl, rfl⟩) rfl ?_
    refine X_run 1 (pc' := 38) (L' := [some (.inr (some (0, 0))), some (.inl (nI k)), some (.inl (n))]) (st' := [.inl (1)]) rfl ?_
    refine X_iret rfl rfl rfl (Nat.le_refl _) (Nat.le_refl _) ?_
    have := hq (u3 (u3 F 0 0 5 (nI k)) 0 0 6 n) B C Wr E
    unfold sView at this
    rw [kc, hisd, hok, ek] at this
    exact this (CI_v hI hW hk hn)
  show X M_Pl_view _ _ 5 [some (.inr (some (0, 0))), some (.inl (d)), some (.inl (n))] [.inr (some (15, k))] (cH F B C Wr E r) 0 0
  refine X_eq (L' := [some (.inr (some (0, 0))), some (.inl (nI k)), some (.inl (n))]) (congrArg (fun zz9 : Int32 => ([some (.inr (some (0, 0))), some (.inl zz9), some (.inl (n))] : List (Option AV))) (ek)) rfl rfl ?_
  refine X_ifnull (tgt := 25) (nx := 8) rfl rfl rfl (fun n1 => ?_) (fun nn n1 => ?_)
  · cases n1
  · refine X_run 2 (pc' := 10) (L' := [some (.inr (some (0, 0))), some (.inl (nI k)), some (.inl (n))]) (st' := [.inl (-1), .inl (n)]) rfl ?_
    refine X_ic_eq (tgt := 27) (nx := 13) rfl rfl rfl (fun n2 => ?_) (fun n2 => ?_)
    · exact fin (Or.inl n2) (by rw [decide_eq_true n2]; rfl)
    · refine X_run 1 (pc' := 14) (L' := [some (.inr (some (0, 0))), some (.inl (nI k)), some (.inl (n))]) (st' := [.inr (some (0, 0))]) rfl ?_
      refine XC_get (a := 0) (i := 0) (v := .inr (some (2, 0))) rfl f_Pl_22 ⟨rfl, rfl⟩ (by assumption) rfl rfl ?_
      refine X_run 2 (pc' := 19) (L' := [some (.inr (some (0, 0))), some (.inl (nI k)), some (.inl (n))]) (st' := [.inl (n), .inl (nI k), .inr (some (2, 0))]) rfl ?_
      refine X_callV (vs := [.inl (nI k), .inl (n)]) (st := []) (mc := 0) (ms := 0) rfl ok_Lg_find v_Pl_101 (cH_obj rfl (by assumption)) rfl rfl (Nat.le_of_ble_eq_true rfl) (Nat.le_of_ble_eq_true rfl) (Nat.le_of_ble_eq_true rfl) (Nat.le_of_ble_eq_true rfl) (Nat.le_of_ble_eq_true rfl) (Nat.le_of_ble_eq_true rfl) rfl ?_
      refine c_Lg_find hB.2.2.2.1 (fun z hz => ?_)
      rcases hz with ⟨k', j, z1, z2, z3, z4, z5, z6⟩ | ⟨z1, z2⟩
      · rw [z6]
        have ekk : k' = k := (li_eq (by omega) (by omega) z3).symm
        rw [ekk] at z5
        have h2 := (hw.p2 _).mp z5
        rw [show (40 * k + j) % 40 = j by omega, show (40 * k + j) / 40 = k by omega] at h2
        show X M_Pl_view _ _ 22 [some (.inr (some (0, 0))), some (.inl (nI k)), some (.inl (n))] [.inr (some (18, 40 * k' + j))] (cH F B C Wr E r) 0 0
        refine X_ifnonnull (tgt := 27) (nx := 25) rfl rfl rfl (fun nn n3 => ?_) (fun n3 => ?_)
        · refine fin (Or.inr ⟨j, h2.2, z4⟩) ?_
          rw [z4, nI_toInt (by omega), decide_eq_true (show (0 : Int) ≤ (j : Int) ∧ (j : Int) ≤ (mny σ k : Int) - 1 by omega)]
          simp
        · cases n3
      · rw [z1]
        show X M_Pl_view _ _ 22 [some (.inr (some (0, 0))), some (.inl (nI k)), some (.inl (n))] [.inr none] (cH F B C Wr E r) 0 0
        refine X_ifnonnull (tgt := 27) (nx := 25) rfl rfl rfl (fun nn n3 => ?_) (fun n3 => ?_)
        · cases n3
        · refine X_run 1 (pc' := 26) (L' := [some (.inr (some (0, 0))), some (.inl (nI k)), some (.inl (n))]) (st' := [.inl (0)]) rfl ?_
          refine X_iret rfl rfl rfl (Nat.le_refl _) (Nat.le_refl _) (no ?_)
          rw [decide_eq_false n2, kc]
          by_cases q : 0 ≤ n.toInt ∧ n.toInt ≤ (mny σ k : Int) - 1
          · exfalso
            have m40 : mny σ k ≤ 40 := hw.1.2.1 k k k
            obtain ⟨j, hj, e2⟩ := rng_nI (n := 39) (by decide) ⟨q.1, by omega⟩
            have q2 := q.2
            rw [e2, nI_toInt (by omega)] at q2
            refine z2 k j (by omega) (by omega) rfl e2 ?_
            exact hw.known (d := k) (by omega) (show j < mny σ k by omega)
          · rw [decide_eq_false q]
            simp
theorem c_Pl_rows (hW : W2 σ) (hI : CI σ F B C E) (hq : ∀ (F' : CF) (B' : CB) (C' : CC) (Wr' : Nat → Option Nd) (E' : Nat → Nat → Bool), CI σ F' B' C' E' → Q (some (.inl (sRows σ))) (cH F' B' C' Wr' E' r)) : X M_Pl_rows (rmo M_Pl_rows 800 4640) (Zm Q 800 4640) 0 (ini M_Pl_rows [.inr (some (0, 0))]) [] (cH F B C Wr E r) 0 0 := by
  obtain ⟨see0, hCD⟩ := id hI
  have h0 := hCD.1.1
  show X M_Pl_rows _ _ 0 [some (.inr (some (0, 0)))] [] (cH F B C Wr E r) 0 0
  refine X_run 1 (pc' := 1) (L' := [some (.inr (some (0, 0)))]) (st' := [.inr (some (0, 0))]) rfl ?_
  refine X_callV (vs := []) (st := []) (mc := 800) (ms := 4640) rfl ok_Pl_drawView v_Pl_104 (cH_obj rfl (by assumption)) rfl rfl (Nat.le_of_ble_eq_true rfl) (Nat.le_of_ble_eq_true rfl) (Nat.le_of_ble_eq_true rfl) (Nat.le_of_ble_eq_true rfl) (Nat.le_of_ble_eq_true rfl) (Nat.le_of_ble_eq_true rfl) rfl ?_
  refine c_Pl_drawView hW hI (fun hv => ?_) (fun hv F1 B1 C1 W1 E1 hCD1 => ?_)
  · show X M_Pl_rows _ _ 4 [some (.inr (some (0, 0)))] [.inl (0)] (cH F B C Wr E r) 800 4640
    refine X_if_eq (tgt := 17) (nx := 7) rfl rfl rfl (fun n1 => ?_) (fun n1 => ?_)
    · refine X_run 1 (pc' := 18) (L' := [some (.inr (some (0, 0)))]) (st' := [.inl (-1)]) rfl ?_
      refine X_iret rfl rfl rfl (Nat.le_refl _) (Nat.le_refl _) ?_
      have := hq F B C Wr E hI
      unfold sRows at this
      rw [if_pos hv] at this
      exact this
    · exact absurd rfl n1
  · have q0 := hCD1.1.1
    have q5 := hCD1.1.2.2.1.1
    show X M_Pl_rows _ _ 4 [some (.inr (some (0, 0)))] [.inl (1)] (cH F1 B1 C1 W1 E1 r) 800 4640
    refine X_if_eq (tgt := 17) (nx := 7) rfl rfl rfl (fun n1 => ?_) (fun n1 => ?_)
    · cases n1
    · refine X_run 1 (pc' := 8) (L' := [some (.inr (some (0, 0)))]) (st' := [.inr (some (0, 0))]) rfl ?_
      refine XC_get (a := 0) (i := 0) (v := .inr (some (5, 0))) rfl f_Pl_41 ⟨rfl, rfl⟩ (by assumption) rfl rfl ?_
      refine XC_get (a := 5) (i := 0) (v := .inl (F1 5 0 10)) rfl f_Pl_108 ⟨rfl, rfl⟩ (by assumption) rfl rfl ?_
      refine X_run 1 (pc' := 18) (L' := [some (.inr (some (0, 0)))]) (st' := [.inl (F1 5 0 10)]) rfl ?_
      refine X_iret rfl rfl rfl (Nat.le_refl _) (Nat.le_refl _) ?_
      have := hq F1 B1 C1 W1 E1 ⟨_, hCD1⟩
      unfold sRows at this
      rw [if_neg hv, ← hCD1.2.2.2.2.2.2.1] at this
      exact this
end

