/-! the model's rows -/
def rsF (σ : Sg) (see : Nat → Nat) (kp w : Nat) (l : List Nat) : Int32 := l.foldl (fun a t => if irF σ see t kp then a + smF σ see t w else a) 0
def rnF (σ : Sg) (see : Nat → Nat) (kp : Nat) (l : List Nat) : Int32 := l.foldl (fun a t => if irF σ see t kp then a + 1 else a) 0
def at0 (x : Int32) : Int32 := if 0 ≤ x then x else 0
def rwF (σ : Sg) (see : Nat → Nat) (kp : Nat) (w : Int32) : Int32 :=
  if w = 0 then nI kp else if w = 1 then nmF σ see kp else if w = 2 then at0 (rsF σ see kp 1 (ODF σ see)) else if w = 3 then rsF σ see kp 2 (ODF σ see)
  else if w = 4 then (if rsF σ see kp 2 (ODF σ see) ≤ at0 (rsF σ see kp 1 (ODF σ see)) then at0 (rsF σ see kp 1 (ODF σ see)) - rsF σ see kp 2 (ODF σ see) else 0)
  else if w = 5 then rnF σ see kp (ODF σ see) else b2i (dbF σ see kp)
def sRow (σ : Sg) (i w : Int32) : Int32 := if i < 0 then -1 else if sRows σ ≤ i then -1 else if 0 ≤ w.toInt ∧ w.toInt ≤ 6 then rwF σ (vsee σ) ((KPF σ (vsee σ)).getD i.toNatClampNeg 0) w else -1
theorem MV.up {σ : Sg} {see : Nat → Nat} {I I' : Nat → Int32} {A A' : Nat → Nat → Int32} (h : MV σ see I A) (hI : I' 13 = I 13 ∧ I' 17 = I 17) (hA : ∀ k, 12 ≤ k → k ≤ 18 → A' k = A k) : MV σ see I' A' := by
  obtain ⟨v1, v2, v3, v4, v5, v6, v7⟩ := h
  refine ⟨fun e he => by rw [hA 12 (by omega) (by omega)]; exact v1 e he, fun x hx => by rw [hA 15 (by omega) (by omega)]; exact v2 x hx, fun x hx => by rw [hA 16 (by omega) (by omega)]; exact v3 x hx, hI.1.trans v4, v5, fun k x hk => by rw [hA 14 (by omega) (by omega)]; exact v6 k x hk, hI.2.trans v7.1, v7.2.1, v7.2.2.1, fun k x hk => by rw [hA 18 (by omega) (by omega)]; exact v7.2.2.2 k x hk⟩
section
variable {g : AH} {I : Nat → Int32} {A : Nat → Nat → Int32} {Q : Option AV → AH → Prop} {σ : Sg} {see : Nat → Nat}
theorem c_Mo_isDouble {z : Nat} (hM : MB σ I A) (hV : MV σ see I A) (hz : z < 160) (hq : Q (some (.inl (b2i (dbF σ see z)))) (mH g I A)) : X M_Mo_isDouble (rmo M_Mo_isDouble 0 0) (Zm Q 0 0) 0 (ini M_Mo_isDouble [mo, .inl (nI z)]) [] (mH g I A) 0 0 := by
  obtain ⟨v1, v2, v3, v4, v5, v6, v7⟩ := id hV
  show X M_Mo_isDouble _ _ 0 [some (.inr (some (10, 0))), some (.inl (nI z)), none, none] [] (mH g I A) 0 0
  refine X_run 2 (pc' := 2) (L' := [some (.inr (some (10, 0))), some (.inl (nI z)), some (.inl (0)), none]) (st' := []) rfl ?_
  refine X_eq (L' := [some (.inr (some (10, 0))), some (.inl (nI z)), some (.inl (nI (0))), none]) (congrArg (fun zz9 : Int32 => ([some (.inr (some (10, 0))), some (.inl (nI z)), some (.inl zz9), none] : List (Option AV))) (by first | rfl | (simp only [il_0, il_1, il_2, il_3, il_4, il_5, il_6, il_7, il_16, il_20, il_40, il_160, pk_mul, nI_add]; done) | (simp only [il_0, il_1, il_2, il_3, il_4, il_5, il_6, il_7, il_16, il_20, il_40, il_160, pk_mul, nI_add]; exact congrArg nI (by omega)))) rfl rfl ?_
  refine up_ind 160 (fun i => ∀ l3, (∀ x, x < i → (dzF σ see z x && (List.range x).any (fun y => dzF σ see z y && !knw σ x y && !knw σ y x)) = false) → X M_Mo_isDouble (rmo M_Mo_isDouble 0 0) (Zm Q 0 0) 2 [some (.inr (some (10, 0))), some (.inl (nI z)), some (.inl (nI i)), l3] [] (mH g I A) 0 0) ?_ 0 (by omega) none (fun x hx => by omega)
  intro i hi ih l3 inv
  refine X_run 2 (pc' := 6) (L' := [some (.inr (some (10, 0))), some (.inl (nI z)), some (.inl (nI i)), l3]) (st' := [.inl (160), .inl (nI i)]) rfl ?_
  refine X_ic_ge (tgt := 115) (nx := 9) rfl rfl rfl (fun h1 => ?_) (fun h1 => ?_)
  · have h1 := li_le (a := 160) (by decide) (by omega) h1
    refine X_run 1 (pc' := 116) (L' := [some (.inr (some (10, 0))), some (.inl (nI z)), some (.inl (nI i)), l3]) (st' := [.inl (0)]) rfl ?_
    exact X_iret rfl rfl rfl (Nat.le_refl _) (Nat.le_refl _) (qf (by unfold dbF; rw [List.any_eq_false]; intro x hx; rw [inv x (by have := List.mem_range.mp hx; omega)]; decide) hq)
  · have h1 := li_nle (a := 160) (by decide) (by omega) h1
    have es := (hM.1.2 i h1).1
    have et := (hM.1.2 i h1).2.2.1
    have bs := (hM.1.1.2.2 i).1
    have bt := (hM.1.1.2.2 i).2.2.1
    have next : ∀ l3, (dzF σ see z i && (List.range i).any (fun y => dzF σ see z y && !knw σ i y && !knw σ y i)) = false → X M_Mo_isDouble (rmo M_Mo_isDouble 0 0) (Zm Q 0 0) 109 [some (.inr (some (10, 0))), some (.inl (nI z)), some (.inl (nI i)), l3] [] (mH g I A) 0 0 := by
      intro l3 hh
      refine X_run 2 (pc' := 2) (L' := [some (.inr (some (10, 0))), some (.inl (nI z)), some (.inl (nI i + 1)), l3]) (st' := []) rfl ?_
      refine X_eq (L' := [some (.inr (some (10, 0))), some (.inl (nI z)), some (.inl (nI (i + 1))), l3]) (congrArg (fun zz9 : Int32 => ([some (.inr (some (10, 0))), some (.inl (nI z)), some (.inl zz9), l3] : List (Option AV))) (by first | rfl | (simp only [il_0, il_1, il_2, il_3, il_4, il_5, il_6, il_7, il_16, il_20, il_40, il_160, pk_mul, nI_add]; done) | (simp only [il_0, il_1, il_2, il_3, il_4, il_5, il_6, il_7, il_16, il_20, il_40, il_160, pk_mul, nI_add]; exact congrArg nI (by omega)))) rfl rfl ?_
      exact ih h1 l3 (fun x hx => by
        by_cases q : x = i
        · rw [q]; exact hh
        · exact inv x (by omega))
    refine X_run 2 (pc' := 11) (L' := [some (.inr (some (10, 0))), some (.inl (nI z)), some (.inl (nI i)), l3]) (st' := [.inl (nI i), .inr (some (10, 0))]) rfl ?_
    refine X_callV (vs := [.inl (nI i)]) (st := []) (mc := 0) (ms := 0) rfl ok_Mo_counts v_Mo_104 rfl rfl rfl (Nat.le_of_ble_eq_true rfl) (Nat.le_of_ble_eq_true rfl) (Nat.le_of_ble_eq_true rfl) (Nat.le_of_ble_eq_true rfl) (Nat.le_of_ble_eq_true rfl) (Nat.le_of_ble_eq_true rfl) rfl ?_
    refine c_Mo_counts hM.1 v1 v2 v3 h1 ?_
    show X M_Mo_isDouble _ _ 14 [some (.inr (some (10, 0))), some (.inl (nI z)), some (.inl (nI i)), l3] [.inl (b2i (ctF σ see i))] (mH g I A) 0 0
    refine X_if_eq (tgt := 109) (nx := 17) rfl rfl rfl (fun h2 => ?_) (fun h2 => ?_)
    · rw [b2i_0] at h2
      exact next _ (by simp [dzF, h2])
    · rw [b2i_n0] at h2
      refine X_run 1 (pc' := 18) (L' := [some (.inr (some (10, 0))), some (.inl (nI z)), some (.inl (nI i)), l3]) (st' := [.inr (some (10, 0))]) rfl ?_
      refine XM_get (v := .inr (some (11, 3))) rfl f_Mo_13 rfl rfl ?_
      refine X_run 1 (pc' := 22) (L' := [some (.inr (some (10, 0))), some (.inl (nI z)), some (.inl (nI i)), l3]) (st' := [.inl (nI i), .inr (some (11, 3))]) rfl ?_
      refine XM_ald (k := 3) (i := i) rfl (by decide) (by simp only [mln]; omega) rfl ?_
      refine X_eq (st' := [.inl (nI (so σ i))]) rfl (congrArg (fun zz9 => Sum.inl zz9 :: _) es) rfl ?_
      refine X_run 1 (pc' := 24) (L' := [some (.inr (some (10, 0))), some (.inl (nI z)), some (.inl (nI i)), l3]) (st' := [.inl (2), .inl (nI (so σ i))]) rfl ?_
      refine X_ic_ne (tgt := 109) (nx := 27) rfl rfl rfl (fun h3 => ?_) (fun h3 => ?_)
      · have h3 := li_ne (b := 2) h3
        exact next _ (by simp [dzF, h3])
      · have h3 := li_eq (b := 2) (by omega) (by decide) h3
        refine X_run 2 (pc' := 29) (L' := [some (.inr (some (10, 0))), some (.inl (nI z)), some (.inl (nI i)), l3]) (st' := [.inr (some (10, 0)), .inr (some (10, 0))]) rfl ?_
        refine XM_get (v := .inr (some (11, 5))) rfl f_Mo_19 rfl rfl ?_
        refine X_run 1 (pc' := 33) (L' := [some (.inr (some (10, 0))), some (.inl (nI z)), some (.inl (nI i)), l3]) (st' := [.inl (nI i), .inr (some (11, 5)), .inr (some (10, 0))]) rfl ?_
        refine XM_ald (k := 5) (i := i) rfl (by decide) (by simp only [mln]; omega) rfl ?_
        refine X_eq (st' := [.inl (nI (tg σ i)), .inr (some (10, 0))]) rfl (congrArg (fun zz9 => Sum.inl zz9 :: _) et) rfl ?_
        refine X_run 1 (pc' := 35) (L' := [some (.inr (some (10, 0))), some (.inl (nI z)), some (.inl (nI i)), l3]) (st' := [.inl (nI z), .inl (nI (tg σ i)), .inr (some (10, 0))]) rfl ?_
        refine X_callV (vs := [.inl (nI (tg σ i)), .inl (nI z)]) (st := []) (mc := 0) (ms := 0) rfl ok_Mo_isInRow v_Mo_154 rfl rfl rfl (Nat.le_of_ble_eq_true rfl) (Nat.le_of_ble_eq_true rfl) (Nat.le_of_ble_eq_true rfl) (Nat.le_of_ble_eq_true rfl) (Nat.le_of_ble_eq_true rfl) (Nat.le_of_ble_eq_true rfl) rfl ?_
        refine c_Mo_isInRow hM hV bt hz ?_
        show X M_Mo_isDouble _ _ 38 [some (.inr (some (10, 0))), some (.inl (nI z)), some (.inl (nI i)), l3] [.inl (b2i (irF σ see (tg σ i) z))] (mH g I A) 0 0
        refine X_if_ne (tgt := 44) (nx := 41) rfl rfl rfl (fun h4 => ?_) (fun h4 => ?_)
        · rw [b2i_n0] at h4
          have hdz : dzF σ see z i = true := by simp [dzF, h2, h3, h4]
          refine X_run 2 (pc' := 46) (L' := [some (.inr (some (10, 0))), some (.inl (nI z)), some (.inl (nI i)), some (.inl (0))]) (st' := []) rfl ?_
          refine X_eq (L' := [some (.inr (some (10, 0))), some (.inl (nI z)), some (.inl (nI i)), some (.inl (nI (0)))]) (congrArg (fun zz9 : Int32 => ([some (.inr (some (10, 0))), some (.inl (nI z)), some (.inl (nI i)), some (.inl zz9)] : List (Option AV))) (by first | rfl | (simp only [il_0, il_1, il_2, il_3, il_4, il_5, il_6, il_7, il_16, il_20, il_40, il_160, pk_mul, nI_add]; done) | (simp only [il_0, il_1, il_2, il_3, il_4, il_5, il_6, il_7, il_16, il_20, il_40, il_160, pk_mul, nI_add]; exact congrArg nI (by omega)))) rfl rfl ?_
          refine up_ind i (fun j => (∀ y, y < j → (dzF σ see z y && !knw σ i y && !knw σ y i) = false) → X M_Mo_isDouble (rmo M_Mo_isDouble 0 0) (Zm Q 0 0) 46 [some (.inr (some (10, 0))), some (.inl (nI z)), some (.inl (nI i)), some (.inl (nI j))] [] (mH g I A) 0 0) ?_ 0 (by omega) (fun y hy => by omega)
          intro j hj ih2 inv2
          refine X_run 2 (pc' := 48) (L' := [some (.inr (some (10, 0))), some (.inl (nI z)), some (.inl (nI i)), some (.inl (nI j))]) (st' := [.inl (nI i), .inl (nI j)]) rfl ?_
          refine X_ic_ge (tgt := 109) (nx := 51) rfl rfl rfl (fun h5 => ?_) (fun h5 => ?_)
          · have h5 := li_le (by omega) (by omega) h5
            refine next _ ?_
            rw [hdz, Bool.true_and, List.any_eq_false]
            intro y hy
            rw [inv2 y (by have := List.mem_range.mp hy; omega)]
            decide
          · have h5 := li_nle (by omega) (by omega) h5
            have es2 := (hM.1.2 j (by omega)).1
            have et2 := (hM.1.2 j (by omega)).2.2.1
            have bs2 := (hM.1.1.2.2 j).1
            have bt2 := (hM.1.1.2.2 j).2.2.1
            have next2 : (dzF σ see z j && !knw σ i j && !knw σ j i) = false → X M_Mo_isDouble (rmo M_Mo_isDouble 0 0) (Zm Q 0 0) 103 [some (.inr (some (10, 0))), some (.inl (nI z)), some (.inl (nI i)), some (.inl (nI j))] [] (mH g I A) 0 0 := by
              intro hh
              refine X_run 2 (pc' := 46) (L' := [some (.inr (some (10, 0))), some (.inl (nI z)), some (.inl (nI i)), some (.inl (nI j + 1))]) (st' := []) rfl ?_
              refine X_eq (L' := [some (.inr (some (10, 0))), some (.inl (nI z)), some (.inl (nI i)), some (.inl (nI (j + 1)))]) (congrArg (fun zz9 : Int32 => ([some (.inr (some (10, 0))), some (.inl (nI z)), some (.inl (nI i)), some (.inl zz9)] : List (Option AV))) (by first | rfl | (simp only [il_0, il_1, il_2, il_3, il_4, il_5, il_6, il_7, il_16, il_20, il_40, il_160, pk_mul, nI_add]; done) | (simp only [il_0, il_1, il_2, il_3, il_4, il_5, il_6, il_7, il_16, il_20, il_40, il_160, pk_mul, nI_add]; exact congrArg nI (by omega)))) rfl rfl ?_
              exact ih2 h5 (fun y hy => by
                by_cases q : y = j
                · rw [q]; exact hh
                · exact inv2 y (by omega))
            refine X_run 2 (pc' := 53) (L' := [some (.inr (some (10, 0))), some (.inl (nI z)), some (.inl (nI i)), some (.inl (nI j))]) (st' := [.inl (nI j), .inr (some (10, 0))]) rfl ?_
            refine X_callV (vs := [.inl (nI j)]) (st := []) (mc := 0) (ms := 0) rfl ok_Mo_counts v_Mo_104 rfl rfl rfl (Nat.le_of_ble_eq_true rfl) (Nat.le_of_ble_eq_true rfl) (Nat.le_of_ble_eq_true rfl) (Nat.le_of_ble_eq_true rfl) (Nat.le_of_ble_eq_true rfl) (Nat.le_of_ble_eq_true rfl) rfl ?_
            refine c_Mo_counts hM.1 v1 v2 v3 (by omega) ?_
            show X M_Mo_isDouble _ _ 56 [some (.inr (some (10, 0))), some (.inl (nI z)), some (.inl (nI i)), some (.inl (nI j))] [.inl (b2i (ctF σ see j))] (mH g I A) 0 0
            refine X_if_eq (tgt := 103) (nx := 59) rfl rfl rfl (fun h6 => ?_) (fun h6 => ?_)
            · rw [b2i_0] at h6
              exact next2 (by simp [dzF, h6])
            · rw [b2i_n0] at h6
              refine X_run 1 (pc' := 60) (L' := [some (.inr (some (10, 0))), some (.inl (nI z)), some (.inl (nI i)), some (.inl (nI j))]) (st' := [.inr (some (10, 0))]) rfl ?_
              refine XM_get (v := .inr (some (11, 3))) rfl f_Mo_13 rfl rfl ?_
              refine X_run 1 (pc' := 64) (L' := [some (.inr (some (10, 0))), some (.inl (nI z)), some (.inl (nI i)), some (.inl (nI j))]) (st' := [.inl (nI j), .inr (some (11, 3))]) rfl ?_
              refine XM_ald (k := 3) (i := j) rfl (by decide) (by simp only [mln]; omega) rfl ?_
              refine X_eq (st' := [.inl (nI (so σ j))]) rfl (congrArg (fun zz9 => Sum.inl zz9 :: _) es2) rfl ?_
              refine X_run 1 (pc' := 66) (L' := [some (.inr (some (10, 0))), some (.inl (nI z)), some (.inl (nI i)), some (.inl (nI j))]) (st' := [.inl (2), .inl (nI (so σ j))]) rfl ?_
              refine X_ic_ne (tgt := 103) (nx := 69) rfl rfl rfl (fun h7 => ?_) (fun h7 => ?_)
              · have h7 := li_ne (b := 2) h7
                exact next2 (by simp [dzF, h7])
              · have h7 := li_eq (b := 2) (by omega) (by decide) h7
                refine X_run 2 (pc' := 71) (L' := [some (.inr (some (10, 0))), some (.inl (nI z)), some (.inl (nI i)), some (.inl (nI j))]) (st' := [.inr (some (10, 0)), .inr (some (10, 0))]) rfl ?_
                refine XM_get (v := .inr (some (11, 5))) rfl f_Mo_19 rfl rfl ?_
                refine X_run 1 (pc' := 75) (L' := [some (.inr (some (10, 0))), some (.inl (nI z)), some (.inl (nI i)), some (.inl (nI j))]) (st' := [.inl (nI j), .inr (some (11, 5)), .inr (some (10, 0))]) rfl ?_
                refine XM_ald (k := 5) (i := j) rfl (by decide) (by simp only [mln]; omega) rfl ?_
                refine X_eq (st' := [.inl (nI (tg σ j)), .inr (some (10, 0))]) rfl (congrArg (fun zz9 => Sum.inl zz9 :: _) et2) rfl ?_
                refine X_run 1 (pc' := 77) (L' := [some (.inr (some (10, 0))), some (.inl (nI z)), some (.inl (nI i)), some (.inl (nI j))]) (st' := [.inl (nI z), .inl (nI (tg σ j)), .inr (some (10, 0))]) rfl ?_
                refine X_callV (vs := [.inl (nI (tg σ j)), .inl (nI z)]) (st := []) (mc := 0) (ms := 0) rfl ok_Mo_isInRow v_Mo_154 rfl rfl rfl (Nat.le_of_ble_eq_true rfl) (Nat.le_of_ble_eq_true rfl) (Nat.le_of_ble_eq_true rfl) (Nat.le_of_ble_eq_true rfl) (Nat.le_of_ble_eq_true rfl) (Nat.le_of_ble_eq_true rfl) rfl ?_
                refine c_Mo_isInRow hM hV bt2 hz ?_
                show X M_Mo_isDouble _ _ 80 [some (.inr (some (10, 0))), some (.inl (nI z)), some (.inl (nI i)), some (.inl (nI j))] [.inl (b2i (irF σ see (tg σ j) z))] (mH g I A) 0 0
                refine X_if_eq (tgt := 103) (nx := 83) rfl rfl rfl (fun h8 => ?_) (fun h8 => ?_)
                · rw [b2i_0] at h8
                  exact next2 (by simp [dzF, h8])
                · rw [b2i_n0] at h8
                  refine X_run 3 (pc' := 86) (L' := [some (.inr (some (10, 0))), some (.inl (nI z)), some (.inl (nI i)), some (.inl (nI j))]) (st' := [.inl (nI j), .inl (nI i), .inr (some (10, 0))]) rfl ?_
                  refine X_callV (vs := [.inl (nI i), .inl (nI j)]) (st := []) (mc := 0) (ms := 0) rfl ok_Mo_knows v_Mo_121 rfl rfl rfl (Nat.le_of_ble_eq_true rfl) (Nat.le_of_ble_eq_true rfl) (Nat.le_of_ble_eq_true rfl) (Nat.le_of_ble_eq_true rfl) (Nat.le_of_ble_eq_true rfl) (Nat.le_of_ble_eq_true rfl) rfl ?_
                  refine c_Mo_knows hM.1 h1 (by omega) ?_
                  show X M_Mo_isDouble _ _ 89 [some (.inr (some (10, 0))), some (.inl (nI z)), some (.inl (nI i)), some (.inl (nI j))] [.inl (b2i (knw σ i j))] (mH g I A) 0 0
                  refine X_if_ne (tgt := 103) (nx := 92) rfl rfl rfl (fun h9 => ?_) (fun h9 => ?_)
                  · rw [b2i_n0] at h9
                    exact next2 (by simp [h9])
                  · rw [b2i_0] at h9
                    refine X_run 3 (pc' := 95) (L' := [some (.inr (some (10, 0))), some (.inl (nI z)), some (.inl (nI i)), some (.inl (nI j))]) (st' := [.inl (nI i), .inl (nI j), .inr (some (10, 0))]) rfl ?_
                    refine X_callV (vs := [.inl (nI j), .inl (nI i)]) (st := []) (mc := 0) (ms := 0) rfl ok_Mo_knows v_Mo_121 rfl rfl rfl (Nat.le_of_ble_eq_true rfl) (Nat.le_of_ble_eq_true rfl) (Nat.le_of_ble_eq_true rfl) (Nat.le_of_ble_eq_true rfl) (Nat.le_of_ble_eq_true rfl) (Nat.le_of_ble_eq_true rfl) rfl ?_
                    refine c_Mo_knows hM.1 (by omega) h1 ?_
                    show X M_Mo_isDouble _ _ 98 [some (.inr (some (10, 0))), some (.inl (nI z)), some (.inl (nI i)), some (.inl (nI j))] [.inl (b2i (knw σ j i))] (mH g I A) 0 0
                    refine X_if_ne (tgt := 103) (nx := 101) rfl rfl rfl (fun h10 => ?_) (fun h10 => ?_)
                    · rw [b2i_n0] at h10
                      exact next2 (by simp [h10])
                    · rw [b2i_0] at h10
                      refine X_run 1 (pc' := 102) (L' := [some (.inr (some (10, 0))), some (.inl (nI z)), some (.inl (nI i)), some (.inl (nI j))]) (st' := [.inl (1)]) rfl ?_
                      refine X_iret rfl rfl rfl (Nat.le_refl _) (Nat.le_refl _) (qt ?_ hq)
                      unfold dbF
                      rw [List.any_eq_true]
                      refine ⟨i, List.mem_range.mpr h1, ?_⟩
                      rw [hdz, Bool.true_and, List.any_eq_true]
                      exact ⟨j, List.mem_range.mpr h5, by simp [dzF, h6, h7, h8, h9, h10]⟩
        · rw [b2i_0] at h4
          refine X_run 1 (pc' := 109) (L' := [some (.inr (some (10, 0))), some (.inl (nI z)), some (.inl (nI i)), l3]) (st' := []) rfl ?_
          exact next _ (by simp [dzF, h4])
theorem c_Mo_gathers (hM : MB σ I A) (hW : WF σ) (hv : vd σ ≠ -1)
    (hq : ∀ (I' : Nat → Int32) (A' : Nat → Nat → Int32), MB σ I' A' → MV σ (vsee σ) I' A' → I' 21 = nI (KPF σ (vsee σ)).length → LN (KPF σ (vsee σ)) 20 A' → Q none (mH g I' A')) : X M_Mo_gathers (rmo M_Mo_gathers 0 0) (Zm Q 0 0) 0 (ini M_Mo_gathers [mo]) [] (mH g I A) 0 0 := by
  show X M_Mo_gathers _ _ 0 [some (.inr (some (10, 0))), none, none, none, none] [] (mH g I A) 0 0
  refine X_run 1 (pc' := 1) (L' := [some (.inr (some (10, 0))), none, none, none, none]) (st' := [.inr (some (10, 0))]) rfl ?_
  refine X_callV (vs := []) (st := []) (mc := 0) (ms := 0) rfl ok_Mo_viewed v_Mo_142 rfl rfl rfl (Nat.le_of_ble_eq_true rfl) (Nat.le_of_ble_eq_true rfl) (Nat.le_of_ble_eq_true rfl) (Nat.le_of_ble_eq_true rfl) (Nat.le_of_ble_eq_true rfl) (Nat.le_of_ble_eq_true rfl) rfl ?_
  refine c_Mo_viewed hM hW hv (fun I1 A1 hM1 hV1 => ?_)
  show X M_Mo_gathers _ _ 4 [some (.inr (some (10, 0))), none, none, none, none] [] (mH g I1 A1) 0 0
  refine X_run 2 (pc' := 6) (L' := [some (.inr (some (10, 0))), none, none, none, none]) (st' := [.inl (0), .inr (some (10, 0))]) rfl ?_
  refine XM_put (k := 21) rfl f_Mo_145 (by decide) (by decide) rfl ?_
  refine X_run 2 (pc' := 11) (L' := [some (.inr (some (10, 0))), some (.inl (0)), none, none, none]) (st' := []) rfl ?_
  refine X_eq (L' := [some (.inr (some (10, 0))), some (.inl (nI (0))), none, none, none]) (congrArg (fun zz9 : Int32 => ([some (.inr (some (10, 0))), some (.inl zz9), none, none, none] : List (Option AV))) (by first | rfl | (simp only [il_0, il_1, il_2, il_3, il_4, il_5, il_6, il_7, il_16, il_20, il_40, il_160, pk_mul, nI_add]; done) | (simp only [il_0, il_1, il_2, il_3, il_4, il_5, il_6, il_7, il_16, il_20, il_40, il_160, pk_mul, nI_add]; exact congrArg nI (by omega)))) rfl rfl ?_
  generalize hO : ODF σ (vsee σ) = O at *
  refine up_ind O.length (fun i => ∀ (I2 : Nat → Int32) (A2 : Nat → Nat → Int32) (l2 l3 l4 : Option AV), (∀ k, k ≠ 21 → I2 k = I1 k) → (∀ k, k ≠ 20 → A2 k = A1 k) → I2 21 = nI ((O.take i).filter (kpF σ (vsee σ))).length → LN ((O.take i).filter (kpF σ (vsee σ))) 20 A2 →
    X M_Mo_gathers (rmo M_Mo_gathers 0 0) (Zm Q 0 0) 11 [some (.inr (some (10, 0))), some (.inl (nI i)), l2, l3, l4] [] (mH g I2 A2) 0 0) ?_ 0 (by omega) _ A1 none none none (fun k hk => by simp [upd, hk]) (fun _ _ => rfl) (by simp [upd]; rfl) (fun k x hk => by simp at hk)
  intro i hi ih I2 A2 l2 l3 l4 hI2 hA2 h21 h20
  have hM2 : MB σ I2 A2 := hM1.up ⟨hI2 0 (by omega), hI2 1 (by omega), hI2 10 (by omega), hI2 11 (by omega)⟩ (fun k _ _ => hA2 k (by omega))
  have hV2 : MV σ (vsee σ) I2 A2 := hV1.up ⟨hI2 13 (by omega), hI2 17 (by omega)⟩ (fun k _ _ => hA2 k (by omega))
  obtain ⟨v1, v2, v3, v4, v5, v6, v7⟩ := id hV2
  rw [hO] at v7
  have hO160 := v7.2.1
  refine X_run 2 (pc' := 13) (L' := [some (.inr (some (10, 0))), some (.inl (nI i)), l2, l3, l4]) (st' := [.inr (some (10, 0)), .inl (nI i)]) rfl ?_
  refine XM_get (v := .inl (I2 17)) rfl f_Mo_94 rfl rfl ?_
  refine X_eq (st' := [.inl (nI O.length), .inl (nI i)]) rfl (congrArg (fun zz9 => Sum.inl zz9 :: _) v7.1) rfl ?_
  refine X_ic_ge (tgt := 146) (nx := 19) rfl rfl rfl (fun h1 => ?_) (fun h1 => ?_)
  · have h1 := li_le (by omega) (by omega) h1
    have ei : i = O.length := by omega
    rw [ei, List.take_length] at h21 h20
    exact X_vret rfl rfl (Nat.le_refl _) (Nat.le_refl _) (hq I2 A2 hM2 hV2 (by unfold KPF; rw [hO]; exact h21) (by unfold KPF; rw [hO]; exact h20))
  · have h1 := li_nle (by omega) (by omega) h1
    obtain ⟨t, ht⟩ : ∃ t, O[i]? = some t := ⟨_, List.getElem?_eq_getElem h1⟩
    obtain ⟨ea, ht2⟩ := v7.2.2.2 i t ht
    have tk : O.take (i + 1) = O.take i ++ [t] := by rw [List.take_add_one, ht]; rfl
    have flen : ((O.take i).filter (kpF σ (vsee σ))).length ≤ i := Nat.le_trans (List.length_filter_le _ _) (by rw [List.length_take]; omega)
    refine X_run 1 (pc' := 20) (L' := [some (.inr (some (10, 0))), some (.inl (nI i)), l2, l3, l4]) (st' := [.inr (some (10, 0))]) rfl ?_
    refine XM_get (v := .inr (some (11, 18))) rfl f_Mo_54 rfl rfl ?_
    refine X_run 1 (pc' := 24) (L' := [some (.inr (some (10, 0))), some (.inl (nI i)), l2, l3, l4]) (st' := [.inl (nI i), .inr (some (11, 18))]) rfl ?_
    refine XM_ald (k := 18) (i := i) rfl (by decide) (by simp only [mln]; omega) rfl ?_
    refine X_eq (st' := [.inl (nI t)]) rfl (congrArg (fun zz9 => Sum.inl zz9 :: _) ea) rfl ?_
    refine X_run 3 (pc' := 28) (L' := [some (.inr (some (10, 0))), some (.inl (nI i)), some (.inl (nI t)), l3, l4]) (st' := [.inl (nI t), .inr (some (10, 0))]) rfl ?_
    refine X_callV (vs := [.inl (nI t)]) (st := []) (mc := 0) (ms := 0) rfl ok_Mo_isStruck v_Mo_131 rfl rfl rfl (Nat.le_of_ble_eq_true rfl) (Nat.le_of_ble_eq_true rfl) (Nat.le_of_ble_eq_true rfl) (Nat.le_of_ble_eq_true rfl) (Nat.le_of_ble_eq_true rfl) (Nat.le_of_ble_eq_true rfl) rfl ?_
    refine c_Mo_isStruck hM2.1 v1 v2 v3 ht2 hM2.2.1 ?_
    show X M_Mo_gathers _ _ 31 [some (.inr (some (10, 0))), some (.inl (nI i)), some (.inl (nI t)), l3, l4] [.inl (b2i (stkF σ (vsee σ) t))] (mH g I2 A2) 0 0
    -- at the end of the inner loop
    have fin : ∀ (b : Bool) (l4 : Option AV), b = kpF σ (vsee σ) t → X M_Mo_gathers (rmo M_Mo_gathers 0 0) (Zm Q 0 0) 116 [some (.inr (some (10, 0))), some (.inl (nI i)), some (.inl (nI t)), some (.inl (b2i b)), l4] [] (mH g I2 A2) 0 0 := by
      intro b l4 hb
      refine X_run 1 (pc' := 117) (L' := [some (.inr (some (10, 0))), some (.inl (nI i)), some (.inl (nI t)), some (.inl (b2i b)), l4]) (st' := [.inl (b2i b)]) rfl ?_
      refine X_if_eq (tgt := 140) (nx := 120) rfl rfl rfl (fun h2 => ?_) (fun h2 => ?_)
      · rw [b2i_0] at h2
        refine X_run 2 (pc' := 11) (L' := [some (.inr (some (10, 0))), some (.inl (nI i + 1)), some (.inl (nI t)), some (.inl (b2i b)), l4]) (st' := []) rfl ?_
        refine X_eq (L' := [some (.inr (some (10, 0))), some (.inl (nI (i + 1))), some (.inl (nI t)), some (.inl (b2i b)), l4]) (congrArg (fun zz9 : Int32 => ([some (.inr (some (10, 0))), some (.inl zz9), some (.inl (nI t)), some (.inl (b2i b)), l4] : List (Option AV))) (by first | rfl | (simp only [il_0, il_1, il_2, il_3, il_4, il_5, il_6, il_7, il_16, il_20, il_40, il_160, pk_mul, nI_add]; done) | (simp only [il_0, il_1, il_2, il_3, il_4, il_5, il_6, il_7, il_16, il_20, il_40, il_160, pk_mul, nI_add]; exact congrArg nI (by omega)))) rfl rfl ?_
        have ef : (O.take (i + 1)).filter (kpF σ (vsee σ)) = (O.take i).filter (kpF σ (vsee σ)) := by
          rw [tk, List.filter_append]
          simp [← hb, h2]
        exact ih h1 I2 A2 _ _ _ hI2 hA2 (by rw [ef]; exact h21) (by rw [ef]; exact h20)
      · rw [b2i_n0] at h2
        have ef : (O.take (i + 1)).filter (kpF σ (vsee σ)) = (O.take i).filter (kpF σ (vsee σ)) ++ [t] := by
          rw [tk, List.filter_append]
          simp [← hb, h2]
        refine X_run 1 (pc' := 121) (L' := [some (.inr (some (10, 0))), some (.inl (nI i)), some (.inl (nI t)), some (.inl (b2i b)), l4]) (st' := [.inr (some (10, 0))]) rfl ?_
        refine XM_get (v := .inr (some (11, 20))) rfl f_Mo_60 rfl rfl ?_
        refine X_run 1 (pc' := 125) (L' := [some (.inr (some (10, 0))), some (.inl (nI i)), some (.inl (nI t)), some (.inl (b2i b)), l4]) (st' := [.inr (some (10, 0)), .inr (some (11, 20))]) rfl ?_
        refine XM_get (v := .inl (I2 21)) rfl f_Mo_145 rfl rfl ?_
        refine X_eq (st' := [.inl (nI ((O.take i).filter (kpF σ (vsee σ))).length), .inr (some (11, 20))]) rfl (congrArg (fun zz9 => Sum.inl zz9 :: _) h21) rfl ?_
        refine X_run 1 (pc' := 129) (L' := [some (.inr (some (10, 0))), some (.inl (nI i)), some (.inl (nI t)), some (.inl (b2i b)), l4]) (st' := [.inl (nI t), .inl (nI ((O.take i).filter (kpF σ (vsee σ))).length), .inr (some (11, 20))]) rfl ?_
        refine XM_ast (k := 20) (i := ((O.take i).filter (kpF σ (vsee σ))).length) rfl (by decide) (by simp only [mln]; omega) rfl ?_
        refine X_run 2 (pc' := 132) (L' := [some (.inr (some (10, 0))), some (.inl (nI i)), some (.inl (nI t)), some (.inl (b2i b)), l4]) (st' := [.inr (some (10, 0)), .inr (some (10, 0))]) rfl ?_
        refine XM_get (v := .inl (I2 21)) rfl f_Mo_145 rfl rfl ?_
        refine X_eq (st' := [.inl (nI ((O.take i).filter (kpF σ (vsee σ))).length), .inr (some (10, 0))]) rfl (congrArg (fun zz9 => Sum.inl zz9 :: _) h21) rfl ?_
        refine X_run 2 (pc' := 137) (L' := [some (.inr (some (10, 0))), some (.inl (nI i)), some (.inl (nI t)), some (.inl (b2i b)), l4]) (st' := [.inl ((nI ((O.take i).filter (kpF σ (vsee σ))).length) + 1), .inr (some (10, 0))]) rfl ?_
        refine X_eq (st' := [.inl (nI (((O.take i).filter (kpF σ (vsee σ))).length + 1)), .inr (some (10, 0))]) rfl (congrArg (fun zz9 => Sum.inl zz9 :: _) (by first | rfl | (simp only [il_0, il_1, il_2, il_3, il_4, il_5, il_6, il_7, il_16, il_20, il_40, il_160, pk_mul, nI_add]; done) | (simp only [il_0, il_1, il_2, il_3, il_4, il_5, il_6, il_7, il_16, il_20, il_40, il_160, pk_mul, nI_add]; exact congrArg nI (by omega)))) rfl ?_
        refine XM_put (k := 21) rfl f_Mo_145 (by decide) (by decide) rfl ?_
        refine X_run 2 (pc' := 11) (L' := [some (.inr (some (10, 0))), some (.inl (nI i + 1)), some (.inl (nI t)), some (.inl (b2i b)), l4]) (st' := []) rfl ?_
        refine X_eq (L' := [some (.inr (some (10, 0))), some (.inl (nI (i + 1))), some (.inl (nI t)), some (.inl (b2i b)), l4]) (congrArg (fun zz9 : Int32 => ([some (.inr (some (10, 0))), some (.inl zz9), some (.inl (nI t)), some (.inl (b2i b)), l4] : List (Option AV))) (by first | rfl | (simp only [il_0, il_1, il_2, il_3, il_4, il_5, il_6, il_7, il_16, il_20, il_40, il_160, pk_mul, nI_add]; done) | (simp only [il_0, il_1, il_2, il_3, il_4, il_5, il_6, il_7, il_16, il_20, il_40, il_160, pk_mul, nI_add]; exact congrArg nI (by omega)))) rfl rfl ?_
        refine ih h1 _ _ _ _ _ (fun k hk => by simp only [upd, hk, if_false]; exact hI2 k hk) (fun k hk => by funext j; rw [ua_k hk, hA2 k hk]) (by rw [ef]; simp [upd]) (fun k x hk => ?_)
        rw [ef, List.getElem?_append] at hk
        split at hk
        · rename_i hkl
          rw [ua_i (by omega)]
          exact h20 k x hk
        · rename_i hkl
          have hk0 : k - ((O.take i).filter (kpF σ (vsee σ))).length = 0 := by
            have := (List.getElem?_eq_some_iff.mp hk).1
            simp only [List.length_singleton] at this
            omega
          rw [hk0] at hk
          simp at hk
          rw [← hk, show k = ((O.take i).filter (kpF σ (vsee σ))).length by omega, ua_eq]
          exact ⟨rfl, ht2⟩
    -- the inner loop
    have inner : ∀ (b : Bool), b = !stkF σ (vsee σ) t → X M_Mo_gathers (rmo M_Mo_gathers 0 0) (Zm Q 0 0) 39 [some (.inr (some (10, 0))), some (.inl (nI i)), some (.inl (nI t)), l3, l4] [.inl (b2i b)] (mH g I2 A2) 0 0 := by
      intro b0 hb0
      refine X_run 3 (pc' := 43) (L' := [some (.inr (some (10, 0))), some (.inl (nI i)), some (.inl (nI t)), some (.inl (b2i b0)), some (.inl (0))]) (st' := []) rfl ?_
      refine X_eq (L' := [some (.inr (some (10, 0))), some (.inl (nI i)), some (.inl (nI t)), some (.inl (b2i b0)), some (.inl (nI (0)))]) (congrArg (fun zz9 : Int32 => ([some (.inr (some (10, 0))), some (.inl (nI i)), some (.inl (nI t)), some (.inl (b2i b0)), some (.inl zz9)] : List (Option AV))) (by first | rfl | (simp only [il_0, il_1, il_2, il_3, il_4, il_5, il_6, il_7, il_16, il_20, il_40, il_160, pk_mul, nI_add]; done) | (simp only [il_0, il_1, il_2, il_3, il_4, il_5, il_6, il_7, il_16, il_20, il_40, il_160, pk_mul, nI_add]; exact congrArg nI (by omega)))) rfl rfl ?_
      refine up_ind O.length (fun j => ∀ b : Bool, b = (!stkF σ (vsee σ) t && (O.take j).all (kzF σ (vsee σ) t)) → X M_Mo_gathers (rmo M_Mo_gathers 0 0) (Zm Q 0 0) 43 [some (.inr (some (10, 0))), some (.inl (nI i)), some (.inl (nI t)), some (.inl (b2i b)), some (.inl (nI j))] [] (mH g I2 A2) 0 0) ?_ 0 (by omega) b0 (by rw [hb0]; simp)
      intro j hj ih2 b hb
      refine X_run 2 (pc' := 46) (L' := [some (.inr (some (10, 0))), some (.inl (nI i)), some (.inl (nI t)), some (.inl (b2i b)), some (.inl (nI j))]) (st' := [.inr (some (10, 0)), .inl (nI j)]) rfl ?_
      refine XM_get (v := .inl (I2 17)) rfl f_Mo_94 rfl rfl ?_
      refine X_eq (st' := [.inl (nI O.length), .inl (nI j)]) rfl (congrArg (fun zz9 => Sum.inl zz9 :: _) v7.1) rfl ?_
      refine X_ic_ge (tgt := 116) (nx := 52) rfl rfl rfl (fun h2 => ?_) (fun h2 => ?_)
      · have h2 := li_le (by omega) (by omega) h2
        have ej : j = O.length := by omega
        rw [ej, List.take_length] at hb
        exact fin b _ (by rw [hb]; unfold kpF; rw [hO])
      · have h2 := li_nle (by omega) (by omega) h2
        refine X_run 1 (pc' := 53) (L' := [some (.inr (some (10, 0))), some (.inl (nI i)), some (.inl (nI t)), some (.inl (b2i b)), some (.inl (nI j))]) (st' := [.inl (b2i b)]) rfl ?_
        refine X_if_eq (tgt := 116) (nx := 56) rfl rfl rfl (fun h3 => ?_) (fun h3 => ?_)
        · rw [b2i_0] at h3
          refine fin b _ ?_
          rw [h3]
          unfold kpF
          rw [hO]
          rw [h3] at hb
          by_cases q : stkF σ (vsee σ) t = true
          · rw [q]; rfl
          · have q' : stkF σ (vsee σ) t = false := by simpa using q
            rw [q', Bool.not_false, Bool.true_and] at hb
            rw [q', Bool.not_false, Bool.true_and]
            symm
            obtain ⟨x, hx1, hx2⟩ := List.all_eq_false.mp hb.symm
            exact List.all_eq_false.mpr ⟨x, List.mem_of_mem_take hx1, hx2⟩
        · rw [b2i_n0] at h3
          obtain ⟨y, hy⟩ : ∃ y, O[j]? = some y := ⟨_, List.getElem?_eq_getElem h2⟩
          obtain ⟨ey, hy2⟩ := v7.2.2.2 j y hy
          have tkj : O.take (j + 1) = O.take j ++ [y] := by rw [List.take_add_one, hy]; rfl
          have next : ∀ b' : Bool, b' = kzF σ (vsee σ) t y → X M_Mo_gathers (rmo M_Mo_gathers 0 0) (Zm Q 0 0) 109 [some (.inr (some (10, 0))), some (.inl (nI i)), some (.inl (nI t)), some (.inl (b2i b)), some (.inl (nI j))] [.inl (b2i b')] (mH g I2 A2) 0 0 := by
            intro b' hb'
            refine X_run 3 (pc' := 43) (L' := [some (.inr (some (10, 0))), some (.inl (nI i)), some (.inl (nI t)), some (.inl (b2i b')), some (.inl (nI j + 1))]) (st' := []) rfl ?_
            refine X_eq (L' := [some (.inr (some (10, 0))), some (.inl (nI i)), some (.inl (nI t)), some (.inl (b2i b')), some (.inl (nI (j + 1)))]) (congrArg (fun zz9 : Int32 => ([some (.inr (some (10, 0))), some (.inl (nI i)), some (.inl (nI t)), some (.inl (b2i b')), some (.inl zz9)] : List (Option AV))) (by first | rfl | (simp only [il_0, il_1, il_2, il_3, il_4, il_5, il_6, il_7, il_16, il_20, il_40, il_160, pk_mul, nI_add]; done) | (simp only [il_0, il_1, il_2, il_3, il_4, il_5, il_6, il_7, il_16, il_20, il_40, il_160, pk_mul, nI_add]; exact congrArg nI (by omega)))) rfl rfl ?_
            refine ih2 h2 b' ?_
            rw [tkj, List.all_append, ← Bool.and_assoc, ← hb, h3, hb']
            simp
          refine X_run 2 (pc' := 58) (L' := [some (.inr (some (10, 0))), some (.inl (nI i)), some (.inl (nI t)), some (.inl (b2i b)), some (.inl (nI j))]) (st' := [.inr (some (10, 0)), .inr (some (10, 0))]) rfl ?_
          refine XM_get (v := .inr (some (11, 18))) rfl f_Mo_54 rfl rfl ?_
          refine X_run 1 (pc' := 63) (L' := [some (.inr (some (10, 0))), some (.inl (nI i)), some (.inl (nI t)), some (.inl (b2i b)), some (.inl (nI j))]) (st' := [.inl (nI j), .inr (some (11, 18)), .inr (some (10, 0))]) rfl ?_
          refine XM_ald (k := 18) (i := j) rfl (by decide) (by simp only [mln]; omega) rfl ?_
          refine X_eq (st' := [.inl (nI y), .inr (some (10, 0))]) rfl (congrArg (fun zz9 => Sum.inl zz9 :: _) ey) rfl ?_
          refine X_run 1 (pc' := 65) (L' := [some (.inr (some (10, 0))), some (.inl (nI i)), some (.inl (nI t)), some (.inl (b2i b)), some (.inl (nI j))]) (st' := [.inl (nI t), .inl (nI y), .inr (some (10, 0))]) rfl ?_
          refine X_callV (vs := [.inl (nI y), .inl (nI t)]) (st := []) (mc := 0) (ms := 0) rfl ok_Mo_isAhead v_Mo_100 rfl rfl rfl (Nat.le_of_ble_eq_true rfl) (Nat.le_of_ble_eq_true rfl) (Nat.le_of_ble_eq_true rfl) (Nat.le_of_ble_eq_true rfl) (Nat.le_of_ble_eq_true rfl) (Nat.le_of_ble_eq_true rfl) rfl ?_
          refine c_Mo_isAhead hM2.1 hy2 ht2 ?_
          show X M_Mo_gathers _ _ 68 [some (.inr (some (10, 0))), some (.inl (nI i)), some (.inl (nI t)), some (.inl (b2i b)), some (.inl (nI j))] [.inl (b2i (ahd σ y t))] (mH g I2 A2) 0 0
          refine X_if_eq (tgt := 104) (nx := 71) rfl rfl rfl (fun h4 => ?_) (fun h4 => ?_)
          · rw [b2i_0] at h4
            refine X_run 2 (pc' := 109) (L' := [some (.inr (some (10, 0))), some (.inl (nI i)), some (.inl (nI t)), some (.inl (b2i b)), some (.inl (nI j))]) (st' := [.inl (1)]) rfl ?_
            exact next true (by simp [kzF, h4])
          · rw [b2i_n0] at h4
            refine X_run 2 (pc' := 73) (L' := [some (.inr (some (10, 0))), some (.inl (nI i)), some (.inl (nI t)), some (.inl (b2i b)), some (.inl (nI j))]) (st' := [.inr (some (10, 0)), .inr (some (10, 0))]) rfl ?_
            refine XM_get (v := .inr (some (11, 18))) rfl f_Mo_54 rfl rfl ?_
            refine X_run 1 (pc' := 78) (L' := [some (.inr (some (10, 0))), some (.inl (nI i)), some (.inl (nI t)), some (.inl (b2i b)), some (.inl (nI j))]) (st' := [.inl (nI j), .inr (some (11, 18)), .inr (some (10, 0))]) rfl ?_
            refine XM_ald (k := 18) (i := j) rfl (by decide) (by simp only [mln]; omega) rfl ?_
            refine X_eq (st' := [.inl (nI y), .inr (some (10, 0))]) rfl (congrArg (fun zz9 => Sum.inl zz9 :: _) ey) rfl ?_
            refine X_callV (vs := [.inl (nI y)]) (st := []) (mc := 0) (ms := 0) rfl ok_Mo_isStruck v_Mo_131 rfl rfl rfl (Nat.le_of_ble_eq_true rfl) (Nat.le_of_ble_eq_true rfl) (Nat.le_of_ble_eq_true rfl) (Nat.le_of_ble_eq_true rfl) (Nat.le_of_ble_eq_true rfl) (Nat.le_of_ble_eq_true rfl) rfl ?_
            refine c_Mo_isStruck hM2.1 v1 v2 v3 hy2 hM2.2.1 ?_
            show X M_Mo_gathers _ _ 82 [some (.inr (some (10, 0))), some (.inl (nI i)), some (.inl (nI t)), some (.inl (b2i b)), some (.inl (nI j))] [.inl (b2i (stkF σ (vsee σ) y))] (mH g I2 A2) 0 0
            refine X_if_ne (tgt := 104) (nx := 85) rfl rfl rfl (fun h5 => ?_) (fun h5 => ?_)
            · rw [b2i_n0] at h5
              refine X_run 2 (pc' := 109) (L' := [some (.inr (some (10, 0))), some (.inl (nI i)), some (.inl (nI t)), some (.inl (b2i b)), some (.inl (nI j))]) (st' := [.inl (1)]) rfl ?_
              exact next true (by simp [kzF, h5])
            · rw [b2i_0] at h5
              refine X_run 2 (pc' := 87) (L' := [some (.inr (some (10, 0))), some (.inl (nI i)), some (.inl (nI t)), some (.inl (b2i b)), some (.inl (nI j))]) (st' := [.inr (some (10, 0)), .inr (some (10, 0))]) rfl ?_
              refine XM_get (v := .inr (some (11, 18))) rfl f_Mo_54 rfl rfl ?_
              refine X_run 1 (pc' := 92) (L' := [some (.inr (some (10, 0))), some (.inl (nI i)), some (.inl (nI t)), some (.inl (b2i b)), some (.inl (nI j))]) (st' := [.inl (nI j), .inr (some (11, 18)), .inr (some (10, 0))]) rfl ?_
              refine XM_ald (k := 18) (i := j) rfl (by decide) (by simp only [mln]; omega) rfl ?_
              refine X_eq (st' := [.inl (nI y), .inr (some (10, 0))]) rfl (congrArg (fun zz9 => Sum.inl zz9 :: _) ey) rfl ?_
              refine X_callV (vs := [.inl (nI y)]) (st := []) (mc := 0) (ms := 0) rfl ok_Mo_nameOf v_Mo_148 rfl rfl rfl (Nat.le_of_ble_eq_true rfl) (Nat.le_of_ble_eq_true rfl) (Nat.le_of_ble_eq_true rfl) (Nat.le_of_ble_eq_true rfl) (Nat.le_of_ble_eq_true rfl) (Nat.le_of_ble_eq_true rfl) rfl ?_
              refine c_Mo_nameOf hM2.1 v1 v2 v3 hy2 v4 v5 v6 ?_
              show X M_Mo_gathers _ _ 96 [some (.inr (some (10, 0))), some (.inl (nI i)), some (.inl (nI t)), some (.inl (b2i b)), some (.inl (nI j))] [.inl (nmF σ (vsee σ) y)] (mH g I2 A2) 0 0
              refine X_run 2 (pc' := 98) (L' := [some (.inr (some (10, 0))), some (.inl (nI i)), some (.inl (nI t)), some (.inl (b2i b)), some (.inl (nI j))]) (st' := [.inl (nI t), .inr (some (10, 0)), .inl (nmF σ (vsee σ) y)]) rfl ?_
              refine X_callV (vs := [.inl (nI t)]) (st := [.inl (nmF σ (vsee σ) y)]) (mc := 0) (ms := 0) rfl ok_Mo_nameOf v_Mo_148 rfl rfl rfl (Nat.le_of_ble_eq_true rfl) (Nat.le_of_ble_eq_true rfl) (Nat.le_of_ble_eq_true rfl) (Nat.le_of_ble_eq_true rfl) (Nat.le_of_ble_eq_true rfl) (Nat.le_of_ble_eq_true rfl) rfl ?_
              refine c_Mo_nameOf hM2.1 v1 v2 v3 ht2 v4 v5 v6 ?_
              show X M_Mo_gathers _ _ 101 [some (.inr (some (10, 0))), some (.inl (nI i)), some (.inl (nI t)), some (.inl (b2i b)), some (.inl (nI j))] [.inl (nmF σ (vsee σ) t), .inl (nmF σ (vsee σ) y)] (mH g I2 A2) 0 0
              refine X_ic_eq (tgt := 108) (nx := 104) rfl rfl rfl (fun h6 => ?_) (fun h6 => ?_)
              · refine X_run 1 (pc' := 109) (L' := [some (.inr (some (10, 0))), some (.inl (nI i)), some (.inl (nI t)), some (.inl (b2i b)), some (.inl (nI j))]) (st' := [.inl (0)]) rfl ?_
                exact next false (by unfold kzF; rw [h4, h5, show decide (nmF σ (vsee σ) y ≠ nmF σ (vsee σ) t) = false from decide_eq_false (fun q => q h6)]; rfl)
              · refine X_run 2 (pc' := 109) (L' := [some (.inr (some (10, 0))), some (.inl (nI i)), some (.inl (nI t)), some (.inl (b2i b)), some (.inl (nI j))]) (st' := [.inl (1)]) rfl ?_
                exact next true (by unfold kzF; rw [show decide (nmF σ (vsee σ) y ≠ nmF σ (vsee σ) t) = true from decide_eq_true h6, Bool.or_true])
    refine X_if_ne (tgt := 38) (nx := 34) rfl rfl rfl (fun h2 => ?_) (fun h2 => ?_)
    · rw [b2i_n0] at h2
      refine X_run 1 (pc' := 39) (L' := [some (.inr (some (10, 0))), some (.inl (nI i)), some (.inl (nI t)), l3, l4]) (st' := [.inl (0)]) rfl ?_
      exact inner false (by rw [h2]; rfl)
    · rw [b2i_0] at h2
      refine X_run 2 (pc' := 39) (L' := [some (.inr (some (10, 0))), some (.inl (nI i)), some (.inl (nI t)), l3, l4]) (st' := [.inl (1)]) rfl ?_
      exact inner true (by rw [h2]; rfl)
theorem c_Mo_rows (hM : MB σ I A) (hW : WF σ)
    (hq : ∀ (I' : Nat → Int32) (A' : Nat → Nat → Int32), MB σ I' A' → (vd σ ≠ -1 → MV σ (vsee σ) I' A' ∧ LN (KPF σ (vsee σ)) 20 A') → Q (some (.inl (sRows σ))) (mH g I' A')) : X M_Mo_rows (rmo M_Mo_rows 0 0) (Zm Q 0 0) 0 (ini M_Mo_rows [mo]) [] (mH g I A) 0 0 := by
  unfold sRows at hq
  show X M_Mo_rows _ _ 0 [some (.inr (some (10, 0)))] [] (mH g I A) 0 0
  refine X_run 1 (pc' := 1) (L' := [some (.inr (some (10, 0)))]) (st' := [.inr (some (10, 0))]) rfl ?_
  refine XM_get (v := .inl (I 10)) rfl f_Mo_34 rfl rfl ?_
  refine X_eq (st' := [.inl (vd σ)]) rfl (congrArg (fun zz9 => Sum.inl zz9 :: _) hM.2.2.2.2.2.1) rfl ?_
  refine X_run 1 (pc' := 5) (L' := [some (.inr (some (10, 0)))]) (st' := [.inl (-1), .inl (vd σ)]) rfl ?_
  refine X_ic_ne (tgt := 10) (nx := 8) rfl rfl rfl (fun h1 => ?_) (fun h1 => ?_)
  · refine X_run 1 (pc' := 11) (L' := [some (.inr (some (10, 0)))]) (st' := [.inr (some (10, 0))]) rfl ?_
    refine X_callV (vs := []) (st := []) (mc := 0) (ms := 0) rfl ok_Mo_gathers v_Mo_151 rfl rfl rfl (Nat.le_of_ble_eq_true rfl) (Nat.le_of_ble_eq_true rfl) (Nat.le_of_ble_eq_true rfl) (Nat.le_of_ble_eq_true rfl) (Nat.le_of_ble_eq_true rfl) (Nat.le_of_ble_eq_true rfl) rfl ?_
    refine c_Mo_gathers hM hW h1 (fun I1 A1 hM1 hV1 h21 h20 => ?_)
    show X M_Mo_rows _ _ 14 [some (.inr (some (10, 0)))] [] (mH g I1 A1) 0 0
    refine X_run 1 (pc' := 15) (L' := [some (.inr (some (10, 0)))]) (st' := [.inr (some (10, 0))]) rfl ?_
    refine XM_get (v := .inl (I1 21)) rfl f_Mo_145 rfl rfl ?_
    exact X_iret rfl rfl rfl (Nat.le_refl _) (Nat.le_refl _) (by have := hq I1 A1 hM1 (fun _ => ⟨hV1, h20⟩); rw [if_neg h1] at this; rw [h21]; exact this)
  · refine X_run 1 (pc' := 9) (L' := [some (.inr (some (10, 0)))]) (st' := [.inl (-1)]) rfl ?_
    exact X_iret rfl rfl rfl (Nat.le_refl _) (Nat.le_refl _) (by have := hq I A hM (fun q => absurd h1 q); rw [if_pos h1] at this; exact this)
end

