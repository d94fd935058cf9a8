/-! the model: a row; a new one -/
section
variable {g : AH} {I : Nat → Int32} {A : Nat → Nat → Int32} {Q : Option AV → AH → Prop} {σ : Sg} {see : Nat → Nat}
theorem c_Mo_row {i w : Int32} (hM : MB σ I A) (hW : WF σ)
    (hq : ∀ (I' : Nat → Int32) (A' : Nat → Nat → Int32), MB σ I' A' → Q (some (.inl (sRow σ i w))) (mH g I' A')) : X M_Mo_row (rmo M_Mo_row 0 0) (Zm Q 0 0) 0 (ini M_Mo_row [mo, .inl i, .inl w]) [] (mH g I A) 0 0 := by
  show X M_Mo_row _ _ 0 [some (.inr (some (10, 0))), some (.inl (i)), some (.inl (w)), none, none, none, none, none] [] (mH g I A) 0 0
  refine X_run 1 (pc' := 1) (L' := [some (.inr (some (10, 0))), some (.inl (i)), some (.inl (w)), none, none, none, none, none]) (st' := [.inl (i)]) rfl ?_
  refine X_if_lt (tgt := 22) (nx := 4) rfl rfl rfl (fun h1 => ?_) (fun h1 => ?_)
  · refine X_run 1 (pc' := 23) (L' := [some (.inr (some (10, 0))), some (.inl (i)), some (.inl (w)), none, none, none, none, none]) (st' := [.inl (-1)]) rfl ?_
    exact X_iret rfl rfl rfl (Nat.le_refl _) (Nat.le_refl _) (by have := hq I A hM; unfold sRow at this; rw [if_pos h1] at this; exact this)
  · refine X_run 2 (pc' := 6) (L' := [some (.inr (some (10, 0))), some (.inl (i)), some (.inl (w)), none, none, none, none, none]) (st' := [.inr (some (10, 0)), .inl (i)]) rfl ?_
    refine X_callV (vs := []) (st := [.inl (i)]) (mc := 0) (ms := 0) rfl ok_Mo_rows v_Mo_157 rfl rfl rfl (Nat.le_of_ble_eq_true rfl) (Nat.le_of_ble_eq_true rfl) (Nat.le_of_ble_eq_true rfl) (Nat.le_of_ble_eq_true rfl) (Nat.le_of_ble_eq_true rfl) (Nat.le_of_ble_eq_true rfl) rfl ?_
    refine c_Mo_rows hM hW (fun I1 A1 hM1 hV1 => ?_)
    show X M_Mo_row _ _ 9 [some (.inr (some (10, 0))), some (.inl (i)), some (.inl (w)), none, none, none, none, none] [.inl (sRows σ), .inl (i)] (mH g I1 A1) 0 0
    have hq := hq I1 A1 hM1
    refine X_ic_ge (tgt := 22) (nx := 12) rfl rfl rfl (fun h2 => ?_) (fun h2 => ?_)
    · refine X_run 1 (pc' := 23) (L' := [some (.inr (some (10, 0))), some (.inl (i)), some (.inl (w)), none, none, none, none, none]) (st' := [.inl (-1)]) rfl ?_
      exact X_iret rfl rfl rfl (Nat.le_refl _) (Nat.le_refl _) (by unfold sRow at hq; rw [if_neg h1, if_pos h2] at hq; exact hq)
    · have hv : vd σ ≠ -1 := by
        intro q
        unfold sRows at h2
        rw [if_pos q] at h2
        apply h2
        rw [i32_le]
        rw [i32_lt] at h1
        have : (-1 : Int32).toInt = -1 := by decide
        rw [this]
        have h0 : (0 : Int32).toInt = 0 := by decide
        rw [h0] at h1
        omega
      obtain ⟨hV, h20⟩ := hV1 hv
      have eR : sRows σ = nI (KPF σ (vsee σ)).length := by unfold sRows; rw [if_neg hv]
      obtain ⟨v1, v2, v3, v4, v5, v6, v7⟩ := id hV
      have hkl : (KPF σ (vsee σ)).length ≤ 160 := Nat.le_trans (List.length_filter_le _ _) v7.2.1
      obtain ⟨k, hk31, rfl⟩ := nI_of h1
      have hkl2 : k < (KPF σ (vsee σ)).length := by
        rw [eR] at h2
        exact li_nle (by omega) hk31 h2
      obtain ⟨t, ht⟩ : ∃ t, (KPF σ (vsee σ))[k]? = some t := ⟨_, List.getElem?_eq_getElem hkl2⟩
      obtain ⟨et, ht2⟩ := h20 k t ht
      have hck : (nI k).toNatClampNeg = k := nI_clamp hk31
      refine X_run 3 (pc' := 16) (L' := [some (.inr (some (10, 0))), some (.inl (nI k)), some (.inl (w)), none, none, none, none, none]) (st' := [.inl (6), .inl (0), .inl (w)]) rfl ?_
      refine X_callS (vs := [.inl (w), .inl (0), .inl (6)]) (st := []) (mc := 0) (ms := 0) rfl ok_Mo_in s_Mo_70 rfl rfl (Nat.le_of_ble_eq_true rfl) (Nat.le_of_ble_eq_true rfl) (Nat.le_of_ble_eq_true rfl) (Nat.le_of_ble_eq_true rfl) (Nat.le_of_ble_eq_true rfl) (Nat.le_of_ble_eq_true rfl) rfl ?_
      refine c_Mo_in ?_
      show X M_Mo_row _ _ 19 [some (.inr (some (10, 0))), some (.inl (nI k)), some (.inl (w)), none, none, none, none, none] [.inl (b2i (decide ((0 : Int32) ≤ w ∧ w ≤ 6)))] (mH g I1 A1) 0 0
      refine X_eq (st' := [.inl (b2i (decide (0 ≤ w.toInt ∧ w.toInt ≤ 6)))]) rfl (congrArg (fun zz9 => Sum.inl zz9 :: _) (congrArg b2i (in_dec rfl rfl))) rfl ?_
      refine X_if_ne (tgt := 24) (nx := 22) rfl rfl rfl (fun h3 => ?_) (fun h3 => ?_)
      · rw [b2i_n0] at h3
        have h3 := of_decide_eq_true h3
        unfold sRow at hq
        rw [if_neg h1, if_neg h2, if_pos h3, hck, List.getD_eq_getElem?_getD, ht] at hq
        have hq : Q (some (.inl (rwF σ (vsee σ) t w))) (mH g I1 A1) := hq
        generalize hO : ODF σ (vsee σ) = O at v7
        have hO160 := v7.2.1
        refine X_run 1 (pc' := 25) (L' := [some (.inr (some (10, 0))), some (.inl (nI k)), some (.inl (w)), none, none, none, none, none]) (st' := [.inr (some (10, 0))]) rfl ?_
        refine XM_get (v := .inr (some (11, 20))) rfl f_Mo_60 rfl rfl ?_
        refine X_run 1 (pc' := 29) (L' := [some (.inr (some (10, 0))), some (.inl (nI k)), some (.inl (w)), none, none, none, none, none]) (st' := [.inl (nI k), .inr (some (11, 20))]) rfl ?_
        refine XM_ald (k := 20) (i := k) rfl (by decide) (by simp only [mln]; omega) rfl ?_
        refine X_eq (st' := [.inl (nI t)]) rfl (congrArg (fun zz9 => Sum.inl zz9 :: _) et) rfl ?_
        refine X_run 9 (pc' := 43) (L' := [some (.inr (some (10, 0))), some (.inl (nI k)), some (.inl (w)), some (.inl (nI t)), some (.inl (0)), some (.inl (0)), some (.inl (0)), some (.inl (0))]) (st' := []) rfl ?_
        refine X_eq (L' := [some (.inr (some (10, 0))), some (.inl (nI k)), some (.inl (w)), some (.inl (nI t)), some (.inl (0)), some (.inl (0)), some (.inl (0)), some (.inl (nI (0)))]) (congrArg (fun zz9 : Int32 => ([some (.inr (some (10, 0))), some (.inl (nI k)), some (.inl (w)), some (.inl (nI t)), some (.inl (0)), some (.inl (0)), some (.inl (0)), some (.inl zz9)] : List (Option AV))) (by first | rfl | (simp only [il_0, il_1, il_2, il_3, il_4, il_5, il_6, il_7, il_16, il_20, il_40, il_160, pk_mul, nI_add]; done) | (simp only [il_0, il_1, il_2, il_3, il_4, il_5, il_6, il_7, il_16, il_20, il_40, il_160, pk_mul, nI_add]; exact congrArg nI (by omega)))) rfl rfl ?_
        refine up_ind O.length (fun j => ∀ a b c : Int32, a = rsF σ (vsee σ) t 1 (O.take j) → b = rsF σ (vsee σ) t 2 (O.take j) → c = rnF σ (vsee σ) t (O.take j) → X M_Mo_row (rmo M_Mo_row 0 0) (Zm Q 0 0) 43 [some (.inr (some (10, 0))), some (.inl (nI k)), some (.inl w), some (.inl (nI t)), some (.inl a), some (.inl b), some (.inl c), some (.inl (nI j))] [] (mH g I1 A1) 0 0) ?_ 0 (by omega) 0 0 0 rfl rfl rfl
        intro j hj ih a b c ha hb hc
        refine X_run 2 (pc' := 46) (L' := [some (.inr (some (10, 0))), some (.inl (nI k)), some (.inl (w)), some (.inl (nI t)), some (.inl (a)), some (.inl (b)), some (.inl (c)), some (.inl (nI j))]) (st' := [.inr (some (10, 0)), .inl (nI j)]) rfl ?_
        refine XM_get (v := .inl (I1 17)) rfl f_Mo_94 rfl rfl ?_
        refine X_eq (st' := [.inl (nI O.length), .inl (nI j)]) rfl (congrArg (fun zz9 => Sum.inl zz9 :: _) v7.1) rfl ?_
        refine X_ic_ge (tgt := 110) (nx := 52) rfl rfl rfl (fun h5 => ?_) (fun h5 => ?_)
        · have h5 := li_le (by omega) (by omega) h5
          have ej : j = O.length := by omega
          rw [ej, List.take_length, ← hO] at ha hb hc
          have fin : ∀ s : Int32, s = at0 a → X M_Mo_row (rmo M_Mo_row 0 0) (Zm Q 0 0) 121 [some (.inr (some (10, 0))), some (.inl (nI k)), some (.inl w), some (.inl (nI t)), some (.inl a), some (.inl b), some (.inl c), some (.inl (nI j))] [.inl s] (mH g I1 A1) 0 0 := by
            intro s hs
            rw [ha] at hs
            refine X_run 1 (pc' := 123) (L' := [some (.inr (some (10, 0))), some (.inl (nI k)), some (.inl (w)), some (.inl (nI t)), some (.inl (s)), some (.inl (b)), some (.inl (c)), some (.inl (nI j))]) (st' := []) rfl ?_
            refine X_run 1 (pc' := 124) (L' := [some (.inr (some (10, 0))), some (.inl (nI k)), some (.inl (w)), some (.inl (nI t)), some (.inl (s)), some (.inl (b)), some (.inl (c)), some (.inl (nI j))]) (st' := [.inl (w)]) rfl ?_
            refine X_sw_0_6 (t0 := 164) (t1 := 166) (t2 := 172) (t3 := 175) (t4 := 178) (t5 := 195) (tout := 198) rfl rfl rfl rfl rfl rfl rfl rfl (fun hw => ?_) (fun hw => ?_) (fun hw => ?_) (fun hw => ?_) (fun hw => ?_) (fun hw => ?_) (fun hw0 hw1 hw2 hw3 hw4 hw5 => ?_)
            · rw [hw] at hq
              refine X_run 1 (pc' := 165) (L' := [some (.inr (some (10, 0))), some (.inl (nI k)), some (.inl (w)), some (.inl (nI t)), some (.inl (s)), some (.inl (b)), some (.inl (c)), some (.inl (nI j))]) (st' := [.inl (nI t)]) rfl ?_
              exact X_iret rfl rfl rfl (Nat.le_refl _) (Nat.le_refl _) hq
            · rw [hw] at hq
              refine X_run 2 (pc' := 168) (L' := [some (.inr (some (10, 0))), some (.inl (nI k)), some (.inl (w)), some (.inl (nI t)), some (.inl (s)), some (.inl (b)), some (.inl (c)), some (.inl (nI j))]) (st' := [.inl (nI t), .inr (some (10, 0))]) rfl ?_
              refine X_callV (vs := [.inl (nI t)]) (st := []) (mc := 0) (ms := 0) rfl ok_Mo_nameOf v_Mo_148 rfl rfl rfl (Nat.le_of_ble_eq_true rfl) (Nat.le_of_ble_eq_true rfl) (Nat.le_of_ble_eq_true rfl) (Nat.le_of_ble_eq_true rfl) (Nat.le_of_ble_eq_true rfl) (Nat.le_of_ble_eq_true rfl) rfl ?_
              refine c_Mo_nameOf hM1.1 v1 v2 v3 ht2 v4 v5 v6 ?_
              show X M_Mo_row _ _ 171 [some (.inr (some (10, 0))), some (.inl (nI k)), some (.inl (w)), some (.inl (nI t)), some (.inl (s)), some (.inl (b)), some (.inl (c)), some (.inl (nI j))] [.inl (nmF σ (vsee σ) t)] (mH g I1 A1) 0 0
              exact X_iret rfl rfl rfl (Nat.le_refl _) (Nat.le_refl _) hq
            · rw [hw] at hq
              refine X_run 1 (pc' := 174) (L' := [some (.inr (some (10, 0))), some (.inl (nI k)), some (.inl (w)), some (.inl (nI t)), some (.inl (s)), some (.inl (b)), some (.inl (c)), some (.inl (nI j))]) (st' := [.inl (s)]) rfl ?_
              exact X_iret rfl rfl rfl (Nat.le_refl _) (Nat.le_refl _) (by rw [hs]; exact hq)
            · rw [hw] at hq
              refine X_run 1 (pc' := 177) (L' := [some (.inr (some (10, 0))), some (.inl (nI k)), some (.inl (w)), some (.inl (nI t)), some (.inl (s)), some (.inl (b)), some (.inl (c)), some (.inl (nI j))]) (st' := [.inl (b)]) rfl ?_
              exact X_iret rfl rfl rfl (Nat.le_refl _) (Nat.le_refl _) (by rw [hb]; exact hq)
            · rw [hw] at hq
              have hq : Q (some (.inl (if rsF σ (vsee σ) t 2 (ODF σ (vsee σ)) ≤ at0 (rsF σ (vsee σ) t 1 (ODF σ (vsee σ))) then at0 (rsF σ (vsee σ) t 1 (ODF σ (vsee σ))) - rsF σ (vsee σ) t 2 (ODF σ (vsee σ)) else 0))) (mH g I1 A1) := hq
              rw [← hs, ← hb] at hq
              refine X_run 2 (pc' := 182) (L' := [some (.inr (some (10, 0))), some (.inl (nI k)), some (.inl (w)), some (.inl (nI t)), some (.inl (s)), some (.inl (b)), some (.inl (c)), some (.inl (nI j))]) (st' := [.inl (b), .inl (s)]) rfl ?_
              refine X_ic_ge (tgt := 189) (nx := 185) rfl rfl rfl (fun h6 => ?_) (fun h6 => ?_)
              · rw [if_pos h6] at hq
                refine X_run 3 (pc' := 194) (L' := [some (.inr (some (10, 0))), some (.inl (nI k)), some (.inl (w)), some (.inl (nI t)), some (.inl (s)), some (.inl (b)), some (.inl (c)), some (.inl (nI j))]) (st' := [.inl (s - b)]) rfl ?_
                exact X_iret rfl rfl rfl (Nat.le_refl _) (Nat.le_refl _) hq
              · rw [if_neg h6] at hq
                refine X_run 2 (pc' := 194) (L' := [some (.inr (some (10, 0))), some (.inl (nI k)), some (.inl (w)), some (.inl (nI t)), some (.inl (s)), some (.inl (b)), some (.inl (c)), some (.inl (nI j))]) (st' := [.inl (0)]) rfl ?_
                exact X_iret rfl rfl rfl (Nat.le_refl _) (Nat.le_refl _) hq
            · rw [hw] at hq
              refine X_run 1 (pc' := 197) (L' := [some (.inr (some (10, 0))), some (.inl (nI k)), some (.inl (w)), some (.inl (nI t)), some (.inl (s)), some (.inl (b)), some (.inl (c)), some (.inl (nI j))]) (st' := [.inl (c)]) rfl ?_
              exact X_iret rfl rfl rfl (Nat.le_refl _) (Nat.le_refl _) (by rw [hc]; exact hq)
            · have e6 : rwF σ (vsee σ) t w = b2i (dbF σ (vsee σ) t) := by
                unfold rwF
                rw [if_neg (show ¬ w = 0 from hw0), if_neg (show ¬ w = 1 from hw1), if_neg (show ¬ w = 2 from hw2), if_neg (show ¬ w = 3 from hw3), if_neg (show ¬ w = 4 from hw4), if_neg (show ¬ w = 5 from hw5)]
              rw [e6] at hq
              refine X_run 2 (pc' := 200) (L' := [some (.inr (some (10, 0))), some (.inl (nI k)), some (.inl (w)), some (.inl (nI t)), some (.inl (s)), some (.inl (b)), some (.inl (c)), some (.inl (nI j))]) (st' := [.inl (nI t), .inr (some (10, 0))]) rfl ?_
              refine X_callV (vs := [.inl (nI t)]) (st := []) (mc := 0) (ms := 0) rfl ok_Mo_isDouble v_Mo_163 rfl rfl rfl (Nat.le_of_ble_eq_true rfl) (Nat.le_of_ble_eq_true rfl) (Nat.le_of_ble_eq_true rfl) (Nat.le_of_ble_eq_true rfl) (Nat.le_of_ble_eq_true rfl) (Nat.le_of_ble_eq_true rfl) rfl ?_
              refine c_Mo_isDouble hM1 hV ht2 ?_
              show X M_Mo_row _ _ 203 [some (.inr (some (10, 0))), some (.inl (nI k)), some (.inl (w)), some (.inl (nI t)), some (.inl (s)), some (.inl (b)), some (.inl (c)), some (.inl (nI j))] [.inl (b2i (dbF σ (vsee σ) t))] (mH g I1 A1) 0 0
              refine X_if_eq (tgt := 210) (nx := 206) rfl rfl rfl (fun h6 => ?_) (fun h6 => ?_)
              · rw [b2i_0] at h6
                refine X_run 1 (pc' := 211) (L' := [some (.inr (some (10, 0))), some (.inl (nI k)), some (.inl (w)), some (.inl (nI t)), some (.inl (s)), some (.inl (b)), some (.inl (c)), some (.inl (nI j))]) (st' := [.inl (0)]) rfl ?_
                exact X_iret rfl rfl rfl (Nat.le_refl _) (Nat.le_refl _) (qf h6 hq)
              · rw [b2i_n0] at h6
                refine X_run 2 (pc' := 211) (L' := [some (.inr (some (10, 0))), some (.inl (nI k)), some (.inl (w)), some (.inl (nI t)), some (.inl (s)), some (.inl (b)), some (.inl (c)), some (.inl (nI j))]) (st' := [.inl (1)]) rfl ?_
                exact X_iret rfl rfl rfl (Nat.le_refl _) (Nat.le_refl _) (qt h6 hq)
          refine X_run 1 (pc' := 112) (L' := [some (.inr (some (10, 0))), some (.inl (nI k)), some (.inl (w)), some (.inl (nI t)), some (.inl (a)), some (.inl (b)), some (.inl (c)), some (.inl (nI j))]) (st' := [.inl (a)]) rfl ?_
          refine X_if_ge (tgt := 119) (nx := 115) rfl rfl rfl (fun h6 => ?_) (fun h6 => ?_)
          · refine X_run 1 (pc' := 121) (L' := [some (.inr (some (10, 0))), some (.inl (nI k)), some (.inl (w)), some (.inl (nI t)), some (.inl (a)), some (.inl (b)), some (.inl (c)), some (.inl (nI j))]) (st' := [.inl (a)]) rfl ?_
            exact fin a (by unfold at0; rw [if_pos h6])
          · refine X_run 2 (pc' := 121) (L' := [some (.inr (some (10, 0))), some (.inl (nI k)), some (.inl (w)), some (.inl (nI t)), some (.inl (a)), some (.inl (b)), some (.inl (c)), some (.inl (nI j))]) (st' := [.inl (0)]) rfl ?_
            exact fin 0 (by unfold at0; rw [if_neg h6])
        · have h5 := li_nle (by omega) (by omega) h5
          obtain ⟨y, hy⟩ : ∃ y, O[j]? = some y := ⟨_, List.getElem?_eq_getElem h5⟩
          obtain ⟨ey, hy2⟩ := v7.2.2.2 j y hy
          have tk : O.take (j + 1) = O.take j ++ [y] := by rw [List.take_add_one, hy]; rfl
          have r1 : ∀ q, rsF σ (vsee σ) t q (O.take (j + 1)) = if irF σ (vsee σ) y t then rsF σ (vsee σ) t q (O.take j) + smF σ (vsee σ) y q else rsF σ (vsee σ) t q (O.take j) := fun q => by
            rw [tk]
            unfold rsF
            rw [List.foldl_append]
            rfl
          have r2 : rnF σ (vsee σ) t (O.take (j + 1)) = if irF σ (vsee σ) y t then rnF σ (vsee σ) t (O.take j) + 1 else rnF σ (vsee σ) t (O.take j) := by
            rw [tk]
            unfold rnF
            rw [List.foldl_append]
            rfl
          refine X_run 2 (pc' := 54) (L' := [some (.inr (some (10, 0))), some (.inl (nI k)), some (.inl (w)), some (.inl (nI t)), some (.inl (a)), some (.inl (b)), some (.inl (c)), some (.inl (nI j))]) (st' := [.inr (some (10, 0)), .inr (some (10, 0))]) rfl ?_
          refine XM_get (v := .inr (some (11, 18))) rfl f_Mo_54 rfl rfl ?_
          refine X_run 1 (pc' := 59) (L' := [some (.inr (some (10, 0))), some (.inl (nI k)), some (.inl (w)), some (.inl (nI t)), some (.inl (a)), some (.inl (b)), some (.inl (c)), some (.inl (nI j))]) (st' := [.inl (nI j), .inr (some (11, 18)), .inr (some (10, 0))]) rfl ?_
          refine XM_ald (k := 18) (i := j) rfl (by decide) (by simp only [mln]; omega) rfl ?_
          refine X_eq (st' := [.inl (nI y), .inr (some (10, 0))]) rfl (congrArg (fun zz9 => Sum.inl zz9 :: _) ey) rfl ?_
          refine X_run 1 (pc' := 61) (L' := [some (.inr (some (10, 0))), some (.inl (nI k)), some (.inl (w)), some (.inl (nI t)), some (.inl (a)), some (.inl (b)), some (.inl (c)), some (.inl (nI j))]) (st' := [.inl (nI t), .inl (nI y), .inr (some (10, 0))]) rfl ?_
          refine X_callV (vs := [.inl (nI y), .inl (nI t)]) (st := []) (mc := 0) (ms := 0) rfl ok_Mo_isInRow v_Mo_154 rfl rfl rfl (Nat.le_of_ble_eq_true rfl) (Nat.le_of_ble_eq_true rfl) (Nat.le_of_ble_eq_true rfl) (Nat.le_of_ble_eq_true rfl) (Nat.le_of_ble_eq_true rfl) (Nat.le_of_ble_eq_true rfl) rfl ?_
          refine c_Mo_isInRow hM1 hV hy2 ht2 ?_
          show X M_Mo_row _ _ 64 [some (.inr (some (10, 0))), some (.inl (nI k)), some (.inl (w)), some (.inl (nI t)), some (.inl (a)), some (.inl (b)), some (.inl (c)), some (.inl (nI j))] [.inl (b2i (irF σ (vsee σ) y t))] (mH g I1 A1) 0 0
          refine X_if_eq (tgt := 104) (nx := 67) rfl rfl rfl (fun h6 => ?_) (fun h6 => ?_)
          · rw [b2i_0] at h6
            refine X_run 2 (pc' := 43) (L' := [some (.inr (some (10, 0))), some (.inl (nI k)), some (.inl (w)), some (.inl (nI t)), some (.inl (a)), some (.inl (b)), some (.inl (c)), some (.inl (nI j + 1))]) (st' := []) rfl ?_
            refine X_eq (L' := [some (.inr (some (10, 0))), some (.inl (nI k)), some (.inl (w)), some (.inl (nI t)), some (.inl (a)), some (.inl (b)), some (.inl (c)), some (.inl (nI (j + 1)))]) (congrArg (fun zz9 : Int32 => ([some (.inr (some (10, 0))), some (.inl (nI k)), some (.inl (w)), some (.inl (nI t)), some (.inl (a)), some (.inl (b)), some (.inl (c)), some (.inl zz9)] : List (Option AV))) (by first | rfl | (simp only [il_0, il_1, il_2, il_3, il_4, il_5, il_6, il_7, il_16, il_20, il_40, il_160, pk_mul, nI_add]; done) | (simp only [il_0, il_1, il_2, il_3, il_4, il_5, il_6, il_7, il_16, il_20, il_40, il_160, pk_mul, nI_add]; exact congrArg nI (by omega)))) rfl rfl ?_
            exact ih h5 a b c (by rw [r1, h6]; exact ha) (by rw [r1, h6]; exact hb) (by rw [r2, h6]; exact hc)
          · rw [b2i_n0] at h6
            refine X_run 3 (pc' := 71) (L' := [some (.inr (some (10, 0))), some (.inl (nI k)), some (.inl (w)), some (.inl (nI t)), some (.inl (a)), some (.inl (b)), some (.inl (c)), some (.inl (nI j))]) (st' := [.inr (some (10, 0)), .inr (some (10, 0)), .inl (a)]) rfl ?_
            refine XM_get (v := .inr (some (11, 18))) rfl f_Mo_54 rfl rfl ?_
            refine X_run 1 (pc' := 76) (L' := [some (.inr (some (10, 0))), some (.inl (nI k)), some (.inl (w)), some (.inl (nI t)), some (.inl (a)), some (.inl (b)), some (.inl (c)), some (.inl (nI j))]) (st' := [.inl (nI j), .inr (some (11, 18)), .inr (some (10, 0)), .inl (a)]) rfl ?_
            refine XM_ald (k := 18) (i := j) rfl (by decide) (by simp only [mln]; omega) rfl ?_
            refine X_eq (st' := [.inl (nI y), .inr (some (10, 0)), .inl (a)]) rfl (congrArg (fun zz9 => Sum.inl zz9 :: _) ey) rfl ?_
            refine X_run 1 (pc' := 78) (L' := [some (.inr (some (10, 0))), some (.inl (nI k)), some (.inl (w)), some (.inl (nI t)), some (.inl (a)), some (.inl (b)), some (.inl (c)), some (.inl (nI j))]) (st' := [.inl (1), .inl (nI y), .inr (some (10, 0)), .inl (a)]) rfl ?_
            refine X_eq (st' := [.inl (nI (1)), .inl (nI y), .inr (some (10, 0)), .inl (a)]) rfl (congrArg (fun zz9 : Int32 => ([.inl zz9, .inl (nI y), .inr (some (10, 0)), .inl (a)] : List AV)) (by first | rfl | (simp only [il_0, il_1, il_2, il_3, il_4, il_5, il_6, il_7, il_16, il_20, il_40, il_160, pk_mul, nI_add]; done) | (simp only [il_0, il_1, il_2, il_3, il_4, il_5, il_6, il_7, il_16, il_20, il_40, il_160, pk_mul, nI_add]; exact congrArg nI (by omega)))) rfl ?_
            refine X_callV (vs := [.inl (nI y), .inl (nI (1))]) (st := [.inl (a)]) (mc := 0) (ms := 0) rfl ok_Mo_sumOf v_Mo_160 rfl rfl rfl (Nat.le_of_ble_eq_true rfl) (Nat.le_of_ble_eq_true rfl) (Nat.le_of_ble_eq_true rfl) (Nat.le_of_ble_eq_true rfl) (Nat.le_of_ble_eq_true rfl) (Nat.le_of_ble_eq_true rfl) rfl ?_
            refine c_Mo_sumOf hM1.1 v1 v2 v3 hy2 (by omega) ?_
            show X M_Mo_row _ _ 81 [some (.inr (some (10, 0))), some (.inl (nI k)), some (.inl (w)), some (.inl (nI t)), some (.inl (a)), some (.inl (b)), some (.inl (c)), some (.inl (nI j))] [.inl (smF σ (vsee σ) y 1), .inl (a)] (mH g I1 A1) 0 0
            refine X_run 5 (pc' := 88) (L' := [some (.inr (some (10, 0))), some (.inl (nI k)), some (.inl (w)), some (.inl (nI t)), some (.inl (a + (smF σ (vsee σ) y 1))), some (.inl (b)), some (.inl (c)), some (.inl (nI j))]) (st' := [.inr (some (10, 0)), .inr (some (10, 0)), .inl (b)]) rfl ?_
            refine XM_get (v := .inr (some (11, 18))) rfl f_Mo_54 rfl rfl ?_
            refine X_run 1 (pc' := 93) (L' := [some (.inr (some (10, 0))), some (.inl (nI k)), some (.inl (w)), some (.inl (nI t)), some (.inl (a + (smF σ (vsee σ) y 1))), some (.inl (b)), some (.inl (c)), some (.inl (nI j))]) (st' := [.inl (nI j), .inr (some (11, 18)), .inr (some (10, 0)), .inl (b)]) rfl ?_
            refine XM_ald (k := 18) (i := j) rfl (by decide) (by simp only [mln]; omega) rfl ?_
            refine X_eq (st' := [.inl (nI y), .inr (some (10, 0)), .inl (b)]) rfl (congrArg (fun zz9 => Sum.inl zz9 :: _) ey) rfl ?_
            refine X_run 1 (pc' := 95) (L' := [some (.inr (some (10, 0))), some (.inl (nI k)), some (.inl (w)), some (.inl (nI t)), some (.inl (a + (smF σ (vsee σ) y 1))), some (.inl (b)), some (.inl (c)), some (.inl (nI j))]) (st' := [.inl (2), .inl (nI y), .inr (some (10, 0)), .inl (b)]) rfl ?_
            refine X_eq (st' := [.inl (nI (2)), .inl (nI y), .inr (some (10, 0)), .inl (b)]) rfl (congrArg (fun zz9 : Int32 => ([.inl zz9, .inl (nI y), .inr (some (10, 0)), .inl (b)] : List AV)) (by first | rfl | (simp only [il_0, il_1, il_2, il_3, il_4, il_5, il_6, il_7, il_16, il_20, il_40, il_160, pk_mul, nI_add]; done) | (simp only [il_0, il_1, il_2, il_3, il_4, il_5, il_6, il_7, il_16, il_20, il_40, il_160, pk_mul, nI_add]; exact congrArg nI (by omega)))) rfl ?_
            refine X_callV (vs := [.inl (nI y), .inl (nI (2))]) (st := [.inl (b)]) (mc := 0) (ms := 0) rfl ok_Mo_sumOf v_Mo_160 rfl rfl rfl (Nat.le_of_ble_eq_true rfl) (Nat.le_of_ble_eq_true rfl) (Nat.le_of_ble_eq_true rfl) (Nat.le_of_ble_eq_true rfl) (Nat.le_of_ble_eq_true rfl) (Nat.le_of_ble_eq_true rfl) rfl ?_
            refine c_Mo_sumOf hM1.1 v1 v2 v3 hy2 (by omega) ?_
            show X M_Mo_row _ _ 98 [some (.inr (some (10, 0))), some (.inl (nI k)), some (.inl (w)), some (.inl (nI t)), some (.inl (a + (smF σ (vsee σ) y 1))), some (.inl (b)), some (.inl (c)), some (.inl (nI j))] [.inl (smF σ (vsee σ) y 2), .inl (b)] (mH g I1 A1) 0 0
            refine X_run 3 (pc' := 104) (L' := [some (.inr (some (10, 0))), some (.inl (nI k)), some (.inl (w)), some (.inl (nI t)), some (.inl (a + (smF σ (vsee σ) y 1))), some (.inl (b + (smF σ (vsee σ) y 2))), some (.inl (c + 1)), some (.inl (nI j))]) (st' := []) rfl ?_
            refine X_run 2 (pc' := 43) (L' := [some (.inr (some (10, 0))), some (.inl (nI k)), some (.inl (w)), some (.inl (nI t)), some (.inl (a + (smF σ (vsee σ) y 1))), some (.inl (b + (smF σ (vsee σ) y 2))), some (.inl (c + 1)), some (.inl (nI j + 1))]) (st' := []) rfl ?_
            refine X_eq (L' := [some (.inr (some (10, 0))), some (.inl (nI k)), some (.inl (w)), some (.inl (nI t)), some (.inl (a + (smF σ (vsee σ) y 1))), some (.inl (b + (smF σ (vsee σ) y 2))), some (.inl (c + 1)), some (.inl (nI (j + 1)))]) (congrArg (fun zz9 : Int32 => ([some (.inr (some (10, 0))), some (.inl (nI k)), some (.inl (w)), some (.inl (nI t)), some (.inl (a + (smF σ (vsee σ) y 1))), some (.inl (b + (smF σ (vsee σ) y 2))), some (.inl (c + 1)), some (.inl zz9)] : List (Option AV))) (by first | rfl | (simp only [il_0, il_1, il_2, il_3, il_4, il_5, il_6, il_7, il_16, il_20, il_40, il_160, pk_mul, nI_add]; done) | (simp only [il_0, il_1, il_2, il_3, il_4, il_5, il_6, il_7, il_16, il_20, il_40, il_160, pk_mul, nI_add]; exact congrArg nI (by omega)))) rfl rfl ?_
            exact ih h5 _ _ _ (by rw [r1, h6, ha]; rfl) (by rw [r1, h6, hb]; rfl) (by rw [r2, h6, hc]; rfl)
      · rw [b2i_0] at h3
        have h3 := of_decide_eq_false h3
        refine X_run 1 (pc' := 23) (L' := [some (.inr (some (10, 0))), some (.inl (nI k)), some (.inl (w)), none, none, none, none, none]) (st' := [.inl (-1)]) rfl ?_
        exact X_iret rfl rfl rfl (Nat.le_refl _) (Nat.le_refl _) (by unfold sRow at hq; rw [if_neg h1, if_neg h2, if_neg h3] at hq; exact hq)
end
/-- while a model is made: the object's fields V, the arrays that are there S -/
def pH (h : AH) (V : Nat → AV) (S : Nat → Bool) : AH := fun n => if n.1 = 10 then (if n.2 = 0 then some (.inr (.inr (7, V))) else none) else if n.1 = 11 then (if S n.2 then some (.inl (mtag n.2, mln n.2, fun _ => 0)) else none) else h n
theorem pH_new (h : AH) (V : Nat → AV) (S : Nat → Bool) (k : Nat) : hset (pH h V S) (11, k) (.inl (mtag k, mln k, fun _ => 0)) = pH h V (fun j => j == k || S j) := by
  funext n
  obtain ⟨a, b⟩ := n
  by_cases q : (a, b) = (11, k)
  · cases q
    rw [hset_eq]
    simp [pH]
  · rw [hset_ne _ _ q]
    unfold pH
    by_cases q1 : a = 10
    · simp [q1]
    · by_cases q2 : a = 11
      · have q3 : b ≠ k := fun z => q (by rw [q2, z])
        simp [q2, q3]
      · simp [q1, q2]
theorem pH_put (h : AH) (V V' : Nat → AV) (S : Nat → Bool) : hset (pH h V S) (10, 0) (.inr (.inr (7, V'))) = pH h V' S := by
  funext n
  obtain ⟨a, b⟩ := n
  by_cases q : (a, b) = (10, 0)
  · cases q
    rw [hset_eq]
    simp [pH]
  · rw [hset_ne _ _ q]
    unfold pH
    by_cases q1 : a = 10
    · have q3 : b ≠ 0 := fun z => q (by rw [q1, z])
      simp [q1, q3]
    · simp [q1]
section
variable {R : Room} {Z : ZT} {pc : Nat} {L : List (Option AV)} {st : List AV} {h : AH} {c sl : Nat} {V : Nat → AV} {S : Nat → Bool}
theorem XI_new {k N t nx : Nat} {i : Int32} {atype : ArrayType} (hd : mi M_Mo_init pc = some (.newarray atype, 2)) (ha : (atype = .int ∧ t = 0) ∨ (atype = .boolean ∧ t = 1)) (hi : ¬ i < 0) (hN : i.toNatClampNeg = N) (hk : mln k = N ∧ mtag k = t ∧ S k = false) (h1 : c + 1 ≤ R.cells) (h2 : sl + N ≤ R.slots) (hx : pc + 2 = nx)
    (kk : X M_Mo_init R Z nx L (.inr (some (11, k)) :: st) (pH h V (fun j => j == k || S j)) (c + 1) (sl + N)) : X M_Mo_init R Z pc L (.inl i :: st) (pH h V S) c sl := by
  refine X_newa (n := (11, k)) hd ha hi hN ?_ ?_ h1 h2 hx ?_
  · rw [← hk.1]
    unfold mln
    split <;> omega
  · simp [pH, hk.2.2]
  · have := pH_new h V S k
    rw [hk.1, hk.2.1] at this
    rw [this]
    exact kk
theorem XI_put {idx k nx : Nat} {v : AV} (hd : mi M_Mo_init pc = some (.putfield idx, 3)) (hf : mj_F R_Mo idx 7 k) (hfin : (T_Mo k).2.2.2 = false ∨ ((T_Mo k).2.2.2 = true ∧ (T_Mo k).1 = R_Mo)) (hv : ∀ α, narrow (t_Mo k) (cv α v) = cv α v ∧ fits (t_Mo k) (cv α v) = true) (hx : pc + 3 = nx)
    (kk : X M_Mo_init R Z nx L st (pH h (va_up V k v) S) c sl) : X M_Mo_init R Z pc L (v :: .inr (some (10, 0)) :: st) (pH h V S) c sl := by
  refine X_put (q := (R_Mo, T_Mo, 22)) (t := t_Mo) hd hf rfl rfl ?_ rfl hv hx (by rw [pH_put]; exact kk)
  rcases hfin with q | ⟨q1, q2⟩
  · exact Or.inl q
  · exact Or.inr ⟨q1, rfl, q2⟩
end
def I0 (w : Int32) : Nat → Int32 := fun k => if k = 0 then b2i (decide (w ≠ 0)) else if k = 10 ∨ k = 11 then -1 else 0
def A0 : Nat → Nat → Int32 := fun _ _ => 0
theorem pH_0 {h : AH} (hh : ∀ n : Nd, n.1 = 10 ∨ n.1 = 11 → h n = none) (V : Nat → AV) : hset h (10, 0) (.inr (.inr (7, V))) = pH h V (fun _ => false) := by
  funext n
  obtain ⟨a, b⟩ := n
  by_cases q : (a, b) = (10, 0)
  · cases q
    rw [hset_eq]
    simp [pH]
  · rw [hset_ne _ _ q]
    unfold pH
    by_cases q1 : a = 10
    · have q3 : b ≠ 0 := fun z => q (by rw [q1, z])
      simp [q1, q3, hh (10, b) (Or.inl rfl)]
    · by_cases q2 : a = 11
      · simp [q2, hh (11, b) (Or.inr rfl)]
      · simp [q1, q2]
theorem mo_end {h : AH} {w : Int32} (b : Bool) (hb : decide (w ≠ 0) = b) : pH h (va_up (va_up (va_up (va_up (va_up (va_up (va_up (va_up (va_up (va_up (va_up (va_up (va_up (va_up (va_up (va_up (va_up (va_up (fun k => df (t_Mo k)) 2 (.inr (some (11, 2)))) 3 (.inr (some (11, 3)))) 4 (.inr (some (11, 4)))) 5 (.inr (some (11, 5)))) 6 (.inr (some (11, 6)))) 7 (.inr (some (11, 7)))) 8 (.inr (some (11, 8)))) 9 (.inr (some (11, 9)))) 10 (.inl (-1))) 11 (.inl (-1))) 12 (.inr (some (11, 12)))) 14 (.inr (some (11, 14)))) 15 (.inr (some (11, 15)))) 16 (.inr (some (11, 16)))) 18 (.inr (some (11, 18)))) 19 (.inr (some (11, 19)))) 20 (.inr (some (11, 20)))) 0 (.inl (b2i b))) (fun j => j == 20 || (fun j => j == 19 || (fun j => j == 18 || (fun j => j == 16 || (fun j => j == 15 || (fun j => j == 14 || (fun j => j == 12 || (fun j => j == 9 || (fun j => j == 8 || (fun j => j == 7 || (fun j => j == 6 || (fun j => j == 5 || (fun j => j == 4 || (fun j => j == 3 || (fun j => j == 2 || (fun _ => false) j) j) j) j) j) j) j) j) j) j) j) j) j) j) j) = mH h (I0 w) A0 := by
  have hV : (va_up (va_up (va_up (va_up (va_up (va_up (va_up (va_up (va_up (va_up (va_up (va_up (va_up (va_up (va_up (va_up (va_up (va_up (fun k => df (t_Mo k)) 2 (.inr (some (11, 2)))) 3 (.inr (some (11, 3)))) 4 (.inr (some (11, 4)))) 5 (.inr (some (11, 5)))) 6 (.inr (some (11, 6)))) 7 (.inr (some (11, 7)))) 8 (.inr (some (11, 8)))) 9 (.inr (some (11, 9)))) 10 (.inl (-1))) 11 (.inl (-1))) 12 (.inr (some (11, 12)))) 14 (.inr (some (11, 14)))) 15 (.inr (some (11, 15)))) 16 (.inr (some (11, 16)))) 18 (.inr (some (11, 18)))) 19 (.inr (some (11, 19)))) 20 (.inr (some (11, 20)))) 0 (.inl (b2i b))) = mV (I0 w) := by
    funext k
    rcases (show k = 0 ∨ k = 1 ∨ k = 2 ∨ k = 3 ∨ k = 4 ∨ k = 5 ∨ k = 6 ∨ k = 7 ∨ k = 8 ∨ k = 9 ∨ k = 10 ∨ k = 11 ∨ k = 12 ∨ k = 13 ∨ k = 14 ∨ k = 15 ∨ k = 16 ∨ k = 17 ∨ k = 18 ∨ k = 19 ∨ k = 20 ∨ k = 21 ∨ 22 ≤ k by omega) with rfl | rfl | rfl | rfl | rfl | rfl | rfl | rfl | rfl | rfl | rfl | rfl | rfl | rfl | rfl | rfl | rfl | rfl | rfl | rfl | rfl | rfl | hk
    · show Sum.inl (b2i b) = Sum.inl (I0 w 0)
      unfold I0
      rw [if_pos rfl, hb]
    all_goals first | rfl | skip
    · unfold mV va_up
      repeat rw [if_neg (by omega)]
      split <;> first | omega | skip
      rw [if_neg (by omega)]
      have ht : t_Mo k = .int := by
        unfold t_Mo
        split <;> first | omega | rfl
      show df (t_Mo k) = _
      rw [ht]
      rfl
  have hS : (fun j => j == 20 || (fun j => j == 19 || (fun j => j == 18 || (fun j => j == 16 || (fun j => j == 15 || (fun j => j == 14 || (fun j => j == 12 || (fun j => j == 9 || (fun j => j == 8 || (fun j => j == 7 || (fun j => j == 6 || (fun j => j == 5 || (fun j => j == 4 || (fun j => j == 3 || (fun j => j == 2 || (fun _ => false) j) j) j) j) j) j) j) j) j) j) j) j) j) j) j) = (fun j => decide (j < 21 ∧ isMI j = false)) := by
    funext j
    rcases (show j = 0 ∨ j = 1 ∨ j = 2 ∨ j = 3 ∨ j = 4 ∨ j = 5 ∨ j = 6 ∨ j = 7 ∨ j = 8 ∨ j = 9 ∨ j = 10 ∨ j = 11 ∨ j = 12 ∨ j = 13 ∨ j = 14 ∨ j = 15 ∨ j = 16 ∨ j = 17 ∨ j = 18 ∨ j = 19 ∨ j = 20 ∨ j = 21 ∨ 22 ≤ j by omega) with rfl | rfl | rfl | rfl | rfl | rfl | rfl | rfl | rfl | rfl | rfl | rfl | rfl | rfl | rfl | rfl | rfl | rfl | rfl | rfl | rfl | rfl | hk
    all_goals first | rfl | skip
    · rw [show decide (j < 21 ∧ isMI j = false) = false from decide_eq_false (by omega)]
      simp
      omega
  rw [hV, hS]
  funext n
  unfold pH mH A0
  simp
theorem c_Mo_init {h : AH} {w : Int32} {Q : Option AV → AH → Prop} (hh : ∀ n : Nd, n.1 = 10 ∨ n.1 = 11 → h n = none) (hq : Q none (mH h (I0 w) A0)) : X M_Mo_init (rmo M_Mo_init 15 2328) (Zm Q 15 2328) 0 (ini M_Mo_init [mo, .inl w]) [] (hset h (10, 0) (.inr (.inr (7, fun k => df (t_Mo k))))) 0 0 := by
  rw [pH_0 hh]
  show X M_Mo_init _ _ 0 [some (.inr (some (10, 0))), some (.inl w)] [] (pH h (fun k => df (t_Mo k)) (fun _ => false)) 0 0
  refine X_run 1 (pc' := 1) (L' := [some (.inr (some (10, 0))), some (.inl w)]) (st' := [.inr (some (10, 0))]) rfl ?_
  refine X_obj (nx := 4) rfl o_Mo_1 (Nat.le_of_ble_eq_true rfl) (Nat.le_of_ble_eq_true rfl) (Nat.le_of_ble_eq_true rfl) rfl ?_
  refine X_run 2 (pc' := 6) (L' := [some (.inr (some (10, 0))), some (.inl w)]) (st' := [.inl 4, .inr (some (10, 0))]) rfl ?_
  refine XI_new (k := 2) (nx := 8) rfl (Or.inl ⟨rfl, rfl⟩) (by decide) (by decide) ⟨rfl, rfl, rfl⟩ (Nat.le_of_ble_eq_true rfl) (Nat.le_of_ble_eq_true rfl) rfl ?_
  refine XI_put (k := 2) (nx := 11) rfl f_Mo_7 (Or.inr ⟨rfl, rfl⟩) (fun _ => ⟨rfl, rfl⟩) rfl ?_
  refine X_run 2 (pc' := 15) (L' := [some (.inr (some (10, 0))), some (.inl w)]) (st' := [.inl 160, .inr (some (10, 0))]) rfl ?_
  refine XI_new (k := 3) (nx := 17) rfl (Or.inl ⟨rfl, rfl⟩) (by decide) (by decide) ⟨rfl, rfl, rfl⟩ (Nat.le_of_ble_eq_true rfl) (Nat.le_of_ble_eq_true rfl) rfl ?_
  refine XI_put (k := 3) (nx := 20) rfl f_Mo_13 (Or.inr ⟨rfl, rfl⟩) (fun _ => ⟨rfl, rfl⟩) rfl ?_
  refine X_run 2 (pc' := 24) (L' := [some (.inr (some (10, 0))), some (.inl w)]) (st' := [.inl 160, .inr (some (10, 0))]) rfl ?_
  refine XI_new (k := 4) (nx := 26) rfl (Or.inl ⟨rfl, rfl⟩) (by decide) (by decide) ⟨rfl, rfl, rfl⟩ (Nat.le_of_ble_eq_true rfl) (Nat.le_of_ble_eq_true rfl) rfl ?_
  refine XI_put (k := 4) (nx := 29) rfl f_Mo_16 (Or.inr ⟨rfl, rfl⟩) (fun _ => ⟨rfl, rfl⟩) rfl ?_
  refine X_run 2 (pc' := 33) (L' := [some (.inr (some (10, 0))), some (.inl w)]) (st' := [.inl 160, .inr (some (10, 0))]) rfl ?_
  refine XI_new (k := 5) (nx := 35) rfl (Or.inl ⟨rfl, rfl⟩) (by decide) (by decide) ⟨rfl, rfl, rfl⟩ (Nat.le_of_ble_eq_true rfl) (Nat.le_of_ble_eq_true rfl) rfl ?_
  refine XI_put (k := 5) (nx := 38) rfl f_Mo_19 (Or.inr ⟨rfl, rfl⟩) (fun _ => ⟨rfl, rfl⟩) rfl ?_
  refine X_run 2 (pc' := 42) (L' := [some (.inr (some (10, 0))), some (.inl w)]) (st' := [.inl 160, .inr (some (10, 0))]) rfl ?_
  refine XI_new (k := 6) (nx := 44) rfl (Or.inl ⟨rfl, rfl⟩) (by decide) (by decide) ⟨rfl, rfl, rfl⟩ (Nat.le_of_ble_eq_true rfl) (Nat.le_of_ble_eq_true rfl) rfl ?_
  refine XI_put (k := 6) (nx := 47) rfl f_Mo_22 (Or.inr ⟨rfl, rfl⟩) (fun _ => ⟨rfl, rfl⟩) rfl ?_
  refine X_run 2 (pc' := 51) (L' := [some (.inr (some (10, 0))), some (.inl w)]) (st' := [.inl 160, .inr (some (10, 0))]) rfl ?_
  refine XI_new (k := 7) (nx := 53) rfl (Or.inl ⟨rfl, rfl⟩) (by decide) (by decide) ⟨rfl, rfl, rfl⟩ (Nat.le_of_ble_eq_true rfl) (Nat.le_of_ble_eq_true rfl) rfl ?_
  refine XI_put (k := 7) (nx := 56) rfl f_Mo_25 (Or.inr ⟨rfl, rfl⟩) (fun _ => ⟨rfl, rfl⟩) rfl ?_
  refine X_run 2 (pc' := 60) (L' := [some (.inr (some (10, 0))), some (.inl w)]) (st' := [.inl 640, .inr (some (10, 0))]) rfl ?_
  refine XI_new (k := 8) (nx := 62) rfl (Or.inl ⟨rfl, rfl⟩) (by decide) (by decide) ⟨rfl, rfl, rfl⟩ (Nat.le_of_ble_eq_true rfl) (Nat.le_of_ble_eq_true rfl) rfl ?_
  refine XI_put (k := 8) (nx := 65) rfl f_Mo_28 (Or.inr ⟨rfl, rfl⟩) (fun _ => ⟨rfl, rfl⟩) rfl ?_
  refine X_run 2 (pc' := 68) (L' := [some (.inr (some (10, 0))), some (.inl w)]) (st' := [.inl 64, .inr (some (10, 0))]) rfl ?_
  refine XI_new (k := 9) (nx := 70) rfl (Or.inl ⟨rfl, rfl⟩) (by decide) (by decide) ⟨rfl, rfl, rfl⟩ (Nat.le_of_ble_eq_true rfl) (Nat.le_of_ble_eq_true rfl) rfl ?_
  refine XI_put (k := 9) (nx := 73) rfl f_Mo_31 (Or.inr ⟨rfl, rfl⟩) (fun _ => ⟨rfl, rfl⟩) rfl ?_
  refine X_run 2 (pc' := 75) (L' := [some (.inr (some (10, 0))), some (.inl w)]) (st' := [.inl (-1), .inr (some (10, 0))]) rfl ?_
  refine XI_put (k := 10) (nx := 78) rfl f_Mo_34 (Or.inl rfl) (fun _ => ⟨rfl, rfl⟩) rfl ?_
  refine X_run 2 (pc' := 80) (L' := [some (.inr (some (10, 0))), some (.inl w)]) (st' := [.inl (-1), .inr (some (10, 0))]) rfl ?_
  refine XI_put (k := 11) (nx := 83) rfl f_Mo_38 (Or.inl rfl) (fun _ => ⟨rfl, rfl⟩) rfl ?_
  refine X_run 2 (pc' := 85) (L' := [some (.inr (some (10, 0))), some (.inl w)]) (st' := [.inl 4, .inr (some (10, 0))]) rfl ?_
  refine XI_new (k := 12) (nx := 87) rfl (Or.inl ⟨rfl, rfl⟩) (by decide) (by decide) ⟨rfl, rfl, rfl⟩ (Nat.le_of_ble_eq_true rfl) (Nat.le_of_ble_eq_true rfl) rfl ?_
  refine XI_put (k := 12) (nx := 90) rfl f_Mo_41 (Or.inr ⟨rfl, rfl⟩) (fun _ => ⟨rfl, rfl⟩) rfl ?_
  refine X_run 2 (pc' := 94) (L' := [some (.inr (some (10, 0))), some (.inl w)]) (st' := [.inl 160, .inr (some (10, 0))]) rfl ?_
  refine XI_new (k := 14) (nx := 96) rfl (Or.inl ⟨rfl, rfl⟩) (by decide) (by decide) ⟨rfl, rfl, rfl⟩ (Nat.le_of_ble_eq_true rfl) (Nat.le_of_ble_eq_true rfl) rfl ?_
  refine XI_put (k := 14) (nx := 99) rfl f_Mo_44 (Or.inr ⟨rfl, rfl⟩) (fun _ => ⟨rfl, rfl⟩) rfl ?_
  refine X_run 2 (pc' := 103) (L' := [some (.inr (some (10, 0))), some (.inl w)]) (st' := [.inl 160, .inr (some (10, 0))]) rfl ?_
  refine XI_new (k := 15) (nx := 105) rfl (Or.inr ⟨rfl, rfl⟩) (by decide) (by decide) ⟨rfl, rfl, rfl⟩ (Nat.le_of_ble_eq_true rfl) (Nat.le_of_ble_eq_true rfl) rfl ?_
  refine XI_put (k := 15) (nx := 108) rfl f_Mo_47 (Or.inr ⟨rfl, rfl⟩) (fun _ => ⟨rfl, rfl⟩) rfl ?_
  refine X_run 2 (pc' := 112) (L' := [some (.inr (some (10, 0))), some (.inl w)]) (st' := [.inl 160, .inr (some (10, 0))]) rfl ?_
  refine XI_new (k := 16) (nx := 114) rfl (Or.inr ⟨rfl, rfl⟩) (by decide) (by decide) ⟨rfl, rfl, rfl⟩ (Nat.le_of_ble_eq_true rfl) (Nat.le_of_ble_eq_true rfl) rfl ?_
  refine XI_put (k := 16) (nx := 117) rfl f_Mo_51 (Or.inr ⟨rfl, rfl⟩) (fun _ => ⟨rfl, rfl⟩) rfl ?_
  refine X_run 2 (pc' := 121) (L' := [some (.inr (some (10, 0))), some (.inl w)]) (st' := [.inl 160, .inr (some (10, 0))]) rfl ?_
  refine XI_new (k := 18) (nx := 123) rfl (Or.inl ⟨rfl, rfl⟩) (by decide) (by decide) ⟨rfl, rfl, rfl⟩ (Nat.le_of_ble_eq_true rfl) (Nat.le_of_ble_eq_true rfl) rfl ?_
  refine XI_put (k := 18) (nx := 126) rfl f_Mo_54 (Or.inr ⟨rfl, rfl⟩) (fun _ => ⟨rfl, rfl⟩) rfl ?_
  refine X_run 2 (pc' := 129) (L' := [some (.inr (some (10, 0))), some (.inl w)]) (st' := [.inl 16, .inr (some (10, 0))]) rfl ?_
  refine XI_new (k := 19) (nx := 131) rfl (Or.inl ⟨rfl, rfl⟩) (by decide) (by decide) ⟨rfl, rfl, rfl⟩ (Nat.le_of_ble_eq_true rfl) (Nat.le_of_ble_eq_true rfl) rfl ?_
  refine XI_put (k := 19) (nx := 134) rfl f_Mo_57 (Or.inr ⟨rfl, rfl⟩) (fun _ => ⟨rfl, rfl⟩) rfl ?_
  refine X_run 2 (pc' := 138) (L' := [some (.inr (some (10, 0))), some (.inl w)]) (st' := [.inl 160, .inr (some (10, 0))]) rfl ?_
  refine XI_new (k := 20) (nx := 140) rfl (Or.inl ⟨rfl, rfl⟩) (by decide) (by decide) ⟨rfl, rfl, rfl⟩ (Nat.le_of_ble_eq_true rfl) (Nat.le_of_ble_eq_true rfl) rfl ?_
  refine XI_put (k := 20) (nx := 143) rfl f_Mo_60 (Or.inr ⟨rfl, rfl⟩) (fun _ => ⟨rfl, rfl⟩) rfl ?_
  refine X_run 2 (pc' := 145) (L' := [some (.inr (some (10, 0))), some (.inl w)]) (st' := [.inl w, .inr (some (10, 0))]) rfl ?_
  refine X_if_eq (tgt := 152) (nx := 148) rfl rfl rfl (fun hc => ?_) (fun hc => ?_)
  · refine X_run 1 (pc' := 153) (L' := [some (.inr (some (10, 0))), some (.inl w)]) (st' := [.inl 0, .inr (some (10, 0))]) rfl ?_
    refine XI_put (k := 0) (nx := 156) rfl f_Mo_63 (Or.inr ⟨rfl, rfl⟩) (fun _ => ⟨rfl, rfl⟩) rfl ?_
    exact X_vret rfl rfl (Nat.le_refl _) (Nat.le_refl _) (by have e := mo_end (h := h) (w := w) false (decide_eq_false (fun q => q hc)); rw [← e] at hq; exact hq)
  · refine X_run 2 (pc' := 153) (L' := [some (.inr (some (10, 0))), some (.inl w)]) (st' := [.inl 1, .inr (some (10, 0))]) rfl ?_
    refine XI_put (k := 0) (nx := 156) rfl f_Mo_63 (Or.inr ⟨rfl, rfl⟩) (fun _ => ⟨rfl, rfl⟩) rfl ?_
    exact X_vret rfl rfl (Nat.le_refl _) (Nat.le_refl _) (by have e := mo_end (h := h) (w := w) true (decide_eq_true hc); rw [← e] at hq; exact hq)

