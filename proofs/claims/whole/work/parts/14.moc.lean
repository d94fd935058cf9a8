/-! the model's strikes, names, sums, places -/
section
variable {g : AH} {I : Nat → Int32} {A : Nat → Nat → Int32} {Q : Option AV → AH → Prop} {σ : Sg} {see : Nat → Nat} {u t : Nat → Bool}
def hzF (σ : Sg) (see : Nat → Nat) (u t : Nat → Bool) (x y z : Nat) : Bool := !ofF σ see u t z y || (!(so σ z == 4 && knw σ z x) && (wn σ || !chg σ z || knw σ x z))
theorem hld_t {x y : Nat} (h : ∀ z, z < 160 → hzF σ see u t x y z = true) : hldF σ see u t x y = true := by
  unfold hldF
  rw [List.all_eq_true]
  intro z hz
  exact h z (List.mem_range.mp hz)
theorem hld_f {x y z : Nat} (hz : z < 160) (h : hzF σ see u t x y z = false) : hldF σ see u t x y = false := by
  unfold hldF
  rw [List.all_eq_false]
  exact ⟨z, List.mem_range.mpr hz, by unfold hzF at h; rw [h]; decide⟩
theorem c_Mo_holds {x y : Nat} (hD : MD σ A) (hS : MS see A) (hU : MU u A) (hT : MT t A) (hx : x < 160) (hy : y < 160) (hI : I 0 = b2i (wn σ)) (hq : Q (some (.inl (b2i (hldF σ see u t x y)))) (mH g I A)) : X M_Mo_holds (rmo M_Mo_holds 0 0) (Zm Q 0 0) 0 (ini M_Mo_holds [mo, .inl (nI x), .inl (nI y)]) [] (mH g I A) 0 0 := by
  show X M_Mo_holds _ _ 0 [some (.inr (some (10, 0))), some (.inl (nI x)), some (.inl (nI y)), none, none] [] (mH g I A) 0 0
  refine X_run 2 (pc' := 2) (L' := [some (.inr (some (10, 0))), some (.inl (nI x)), some (.inl (nI y)), some (.inl (0)), none]) (st' := []) rfl ?_
  refine X_eq (L' := [some (.inr (some (10, 0))), some (.inl (nI x)), some (.inl (nI y)), some (.inl (nI (0))), none]) (congrArg (fun z : Int32 => ([some (.inr (some (10, 0))), some (.inl (nI x)), some (.inl (nI y)), some (.inl z), none] : List (Option AV))) (by first | rfl | (simp only [il_0, il_1, il_2, il_3, il_4, il_5, il_6, il_7, il_16, il_20, il_40, il_160, pk_mul, nI_add]; done) | (simp only [il_0, il_1, il_2, il_3, il_4, il_5, il_6, il_7, il_16, il_20, il_40, il_160, pk_mul, nI_add]; exact congrArg nI (by omega)))) rfl rfl ?_
  refine up_ind 160 (fun i => ∀ l4, (∀ z, z < i → hzF σ see u t x y z = true) → X M_Mo_holds (rmo M_Mo_holds 0 0) (Zm Q 0 0) 2 [some (.inr (some (10, 0))), some (.inl (nI x)), some (.inl (nI y)), some (.inl (nI i)), l4] [] (mH g I A) 0 0) ?_ 0 (by omega) none (fun z hz => by omega)
  intro i hi ih l4 inv
  have es := fun hi => (hD.2 i hi).1
  have bs := (hD.1.2.2 i).1
  refine X_run 2 (pc' := 6) (L' := [some (.inr (some (10, 0))), some (.inl (nI x)), some (.inl (nI y)), some (.inl (nI i)), l4]) (st' := [.inl (160), .inl (nI i)]) rfl ?_
  refine X_ic_ge (tgt := 119) (nx := 9) rfl rfl rfl (fun h1 => ?_) (fun h1 => ?_)
  · have h1 := li_le (a := 160) (by decide) (by omega) h1
    refine X_run 1 (pc' := 120) (L' := [some (.inr (some (10, 0))), some (.inl (nI x)), some (.inl (nI y)), some (.inl (nI i)), l4]) (st' := [.inl (1)]) rfl ?_
    exact X_iret rfl rfl rfl (Nat.le_refl _) (Nat.le_refl _) (qt (hld_t (fun z hz => inv z (by omega))) hq)
  · have h1 := li_nle (a := 160) (by decide) (by omega) h1
    have es := es h1
    have next : ∀ l4, hzF σ see u t x y i = true → X M_Mo_holds (rmo M_Mo_holds 0 0) (Zm Q 0 0) 113 [some (.inr (some (10, 0))), some (.inl (nI x)), some (.inl (nI y)), some (.inl (nI i)), l4] [] (mH g I A) 0 0 := by
      intro l4 hz
      refine X_run 2 (pc' := 2) (L' := [some (.inr (some (10, 0))), some (.inl (nI x)), some (.inl (nI y)), some (.inl (nI i + 1)), l4]) (st' := []) rfl ?_
      refine X_eq (L' := [some (.inr (some (10, 0))), some (.inl (nI x)), some (.inl (nI y)), some (.inl (nI (i + 1))), l4]) (congrArg (fun z : Int32 => ([some (.inr (some (10, 0))), some (.inl (nI x)), some (.inl (nI y)), some (.inl z), l4] : List (Option AV))) (by first | rfl | (simp only [il_0, il_1, il_2, il_3, il_4, il_5, il_6, il_7, il_16, il_20, il_40, il_160, pk_mul, nI_add]; done) | (simp only [il_0, il_1, il_2, il_3, il_4, il_5, il_6, il_7, il_16, il_20, il_40, il_160, pk_mul, nI_add]; exact congrArg nI (by omega)))) rfl rfl ?_
      exact ih h1 l4 (fun z h2 => by
        by_cases q : z = i
        · rw [q]; exact hz
        · exact inv z (by omega))
    refine X_run 3 (pc' := 12) (L' := [some (.inr (some (10, 0))), some (.inl (nI x)), some (.inl (nI y)), some (.inl (nI i)), l4]) (st' := [.inl (nI y), .inl (nI i), .inr (some (10, 0))]) rfl ?_
    refine X_callV (vs := [.inl (nI i), .inl (nI y)]) (st := []) (mc := 0) (ms := 0) rfl ok_Mo_isOf v_Mo_115 rfl rfl rfl (Nat.le_of_ble_eq_true rfl) (Nat.le_of_ble_eq_true rfl) (Nat.le_of_ble_eq_true rfl) (Nat.le_of_ble_eq_true rfl) (Nat.le_of_ble_eq_true rfl) (Nat.le_of_ble_eq_true rfl) rfl ?_
    refine c_Mo_isOf hD hS hU hT h1 hy ?_
    show X M_Mo_holds _ _ 15 [some (.inr (some (10, 0))), some (.inl (nI x)), some (.inl (nI y)), some (.inl (nI i)), l4] [.inl (b2i (ofF σ see u t i y))] (mH g I A) 0 0
    refine X_if_ne (tgt := 21) (nx := 18) rfl rfl rfl (fun h2 => ?_) (fun h2 => ?_)
    · rw [b2i_n0] at h2
      refine X_run 1 (pc' := 22) (L' := [some (.inr (some (10, 0))), some (.inl (nI x)), some (.inl (nI y)), some (.inl (nI i)), l4]) (st' := [.inr (some (10, 0))]) rfl ?_
      refine XM_get (v := .inr (some (11, 3))) rfl f_Mo_13 rfl rfl ?_
      refine X_run 1 (pc' := 26) (L' := [some (.inr (some (10, 0))), some (.inl (nI x)), some (.inl (nI y)), some (.inl (nI i)), l4]) (st' := [.inl (nI i), .inr (some (11, 3))]) rfl ?_
      refine XM_ald (k := 3) (i := i) rfl (by decide) (by simp only [mln]; omega) rfl ?_
      refine X_eq (st' := [.inl (nI (so σ i))]) rfl (congrArg (fun z => Sum.inl z :: _) es) rfl ?_
      refine X_run 1 (pc' := 28) (L' := [some (.inr (some (10, 0))), some (.inl (nI x)), some (.inl (nI y)), some (.inl (nI i)), l4]) (st' := [.inl (4), .inl (nI (so σ i))]) rfl ?_
      have part2 : ¬ (so σ i = 4 ∧ knw σ i x = true) → X M_Mo_holds (rmo M_Mo_holds 0 0) (Zm Q 0 0) 42 [some (.inr (some (10, 0))), some (.inl (nI x)), some (.inl (nI y)), some (.inl (nI i)), l4] [] (mH g I A) 0 0 := by
        intro h34
        have h34 : ¬so σ i = 4 ∨ knw σ i x = false := by
          by_cases q : so σ i = 4
          · exact Or.inr (by simpa [q] using h34)
          · exact Or.inl q
        have part3 : ∀ b : Bool, chg σ i = b → X M_Mo_holds (rmo M_Mo_holds 0 0) (Zm Q 0 0) 88 [some (.inr (some (10, 0))), some (.inl (nI x)), some (.inl (nI y)), some (.inl (nI i)), l4] [.inl (b2i b)] (mH g I A) 0 0 := by
          intro b hb
          refine X_run 2 (pc' := 91) (L' := [some (.inr (some (10, 0))), some (.inl (nI x)), some (.inl (nI y)), some (.inl (nI i)), some (.inl (b2i b))]) (st' := [.inr (some (10, 0))]) rfl ?_
          refine XM_get (v := .inl (I 0)) rfl f_Mo_63 rfl rfl ?_
          refine X_eq (st' := [.inl (b2i (wn σ))]) rfl (congrArg (fun z => Sum.inl z :: _) hI) rfl ?_
          refine X_if_ne (tgt := 113) (nx := 97) rfl rfl rfl (fun h5 => ?_) (fun h5 => ?_)
          · rw [b2i_n0] at h5
            refine next _ ?_
            simp [hzF, h5]
            exact Or.inr h34
          · rw [b2i_0] at h5
            refine X_run 1 (pc' := 99) (L' := [some (.inr (some (10, 0))), some (.inl (nI x)), some (.inl (nI y)), some (.inl (nI i)), some (.inl (b2i b))]) (st' := [.inl (b2i b)]) rfl ?_
            refine X_if_eq (tgt := 113) (nx := 102) rfl rfl rfl (fun h6 => ?_) (fun h6 => ?_)
            · rw [b2i_0] at h6
              refine next _ ?_
              simp [hzF, hb, h6]
              exact Or.inr h34
            · rw [b2i_n0] at h6
              refine X_run 3 (pc' := 105) (L' := [some (.inr (some (10, 0))), some (.inl (nI x)), some (.inl (nI y)), some (.inl (nI i)), some (.inl (b2i b))]) (st' := [.inl (nI i), .inl (nI x), .inr (some (10, 0))]) rfl ?_
              refine X_callV (vs := [.inl (nI x), .inl (nI i)]) (st := []) (mc := 0) (ms := 0) rfl ok_Mo_knows v_Mo_121 rfl rfl rfl (Nat.le_of_ble_eq_true rfl) (Nat.le_of_ble_eq_true rfl) (Nat.le_of_ble_eq_true rfl) (Nat.le_of_ble_eq_true rfl) (Nat.le_of_ble_eq_true rfl) (Nat.le_of_ble_eq_true rfl) rfl ?_
              refine c_Mo_knows hD hx h1 ?_
              show X M_Mo_holds _ _ 108 [some (.inr (some (10, 0))), some (.inl (nI x)), some (.inl (nI y)), some (.inl (nI i)), some (.inl (b2i b))] [.inl (b2i (knw σ x i))] (mH g I A) 0 0
              refine X_if_ne (tgt := 113) (nx := 111) rfl rfl rfl (fun h7 => ?_) (fun h7 => ?_)
              · rw [b2i_n0] at h7
                refine next _ ?_
                simp [hzF, h7]
                exact Or.inr h34
              · rw [b2i_0] at h7
                refine X_run 1 (pc' := 112) (L' := [some (.inr (some (10, 0))), some (.inl (nI x)), some (.inl (nI y)), some (.inl (nI i)), some (.inl (b2i b))]) (st' := [.inl (0)]) rfl ?_
                exact X_iret rfl rfl rfl (Nat.le_refl _) (Nat.le_refl _) (qf (hld_f h1 (by simp [hzF, h2, h5, hb, h6, h7])) hq)
        refine X_run 1 (pc' := 43) (L' := [some (.inr (some (10, 0))), some (.inl (nI x)), some (.inl (nI y)), some (.inl (nI i)), l4]) (st' := [.inr (some (10, 0))]) rfl ?_
        refine XM_get (v := .inr (some (11, 3))) rfl f_Mo_13 rfl rfl ?_
        refine X_run 1 (pc' := 47) (L' := [some (.inr (some (10, 0))), some (.inl (nI x)), some (.inl (nI y)), some (.inl (nI i)), l4]) (st' := [.inl (nI i), .inr (some (11, 3))]) rfl ?_
        refine XM_ald (k := 3) (i := i) rfl (by decide) (by simp only [mln]; omega) rfl ?_
        refine X_eq (st' := [.inl (nI (so σ i))]) rfl (congrArg (fun z => Sum.inl z :: _) es) rfl ?_
        refine X_run 1 (pc' := 49) (L' := [some (.inr (some (10, 0))), some (.inl (nI x)), some (.inl (nI y)), some (.inl (nI i)), l4]) (st' := [.inl (1), .inl (nI (so σ i))]) rfl ?_
        refine X_ic_eq (tgt := 83) (nx := 52) rfl rfl rfl (fun h3 => ?_) (fun h3 => ?_)
        · have h3 := li_eq (b := 1) (by omega) (by decide) h3
          refine X_run 2 (pc' := 88) (L' := [some (.inr (some (10, 0))), some (.inl (nI x)), some (.inl (nI y)), some (.inl (nI i)), l4]) (st' := [.inl (1)]) rfl ?_
          exact part3 true (by simp [chg, h3])
        · have h3 := li_ne (b := 1) h3
          refine X_run 1 (pc' := 53) (L' := [some (.inr (some (10, 0))), some (.inl (nI x)), some (.inl (nI y)), some (.inl (nI i)), l4]) (st' := [.inr (some (10, 0))]) rfl ?_
          refine XM_get (v := .inr (some (11, 3))) rfl f_Mo_13 rfl rfl ?_
          refine X_run 1 (pc' := 57) (L' := [some (.inr (some (10, 0))), some (.inl (nI x)), some (.inl (nI y)), some (.inl (nI i)), l4]) (st' := [.inl (nI i), .inr (some (11, 3))]) rfl ?_
          refine XM_ald (k := 3) (i := i) rfl (by decide) (by simp only [mln]; omega) rfl ?_
          refine X_eq (st' := [.inl (nI (so σ i))]) rfl (congrArg (fun z => Sum.inl z :: _) es) rfl ?_
          refine X_run 1 (pc' := 59) (L' := [some (.inr (some (10, 0))), some (.inl (nI x)), some (.inl (nI y)), some (.inl (nI i)), l4]) (st' := [.inl (2), .inl (nI (so σ i))]) rfl ?_
          refine X_ic_eq (tgt := 83) (nx := 62) rfl rfl rfl (fun h4 => ?_) (fun h4 => ?_)
          · have h4 := li_eq (b := 2) (by omega) (by decide) h4
            refine X_run 2 (pc' := 88) (L' := [some (.inr (some (10, 0))), some (.inl (nI x)), some (.inl (nI y)), some (.inl (nI i)), l4]) (st' := [.inl (1)]) rfl ?_
            exact part3 true (by simp [chg, h4])
          · have h4 := li_ne (b := 2) h4
            refine X_run 1 (pc' := 63) (L' := [some (.inr (some (10, 0))), some (.inl (nI x)), some (.inl (nI y)), some (.inl (nI i)), l4]) (st' := [.inr (some (10, 0))]) rfl ?_
            refine XM_get (v := .inr (some (11, 3))) rfl f_Mo_13 rfl rfl ?_
            refine X_run 1 (pc' := 67) (L' := [some (.inr (some (10, 0))), some (.inl (nI x)), some (.inl (nI y)), some (.inl (nI i)), l4]) (st' := [.inl (nI i), .inr (some (11, 3))]) rfl ?_
            refine XM_ald (k := 3) (i := i) rfl (by decide) (by simp only [mln]; omega) rfl ?_
            refine X_eq (st' := [.inl (nI (so σ i))]) rfl (congrArg (fun z => Sum.inl z :: _) es) rfl ?_
            refine X_run 1 (pc' := 69) (L' := [some (.inr (some (10, 0))), some (.inl (nI x)), some (.inl (nI y)), some (.inl (nI i)), l4]) (st' := [.inl (5), .inl (nI (so σ i))]) rfl ?_
            refine X_ic_eq (tgt := 83) (nx := 72) rfl rfl rfl (fun h5 => ?_) (fun h5 => ?_)
            · have h5 := li_eq (b := 5) (by omega) (by decide) h5
              refine X_run 2 (pc' := 88) (L' := [some (.inr (some (10, 0))), some (.inl (nI x)), some (.inl (nI y)), some (.inl (nI i)), l4]) (st' := [.inl (1)]) rfl ?_
              exact part3 true (by simp [chg, h5])
            · have h5 := li_ne (b := 5) h5
              refine X_run 1 (pc' := 73) (L' := [some (.inr (some (10, 0))), some (.inl (nI x)), some (.inl (nI y)), some (.inl (nI i)), l4]) (st' := [.inr (some (10, 0))]) rfl ?_
              refine XM_get (v := .inr (some (11, 3))) rfl f_Mo_13 rfl rfl ?_
              refine X_run 1 (pc' := 77) (L' := [some (.inr (some (10, 0))), some (.inl (nI x)), some (.inl (nI y)), some (.inl (nI i)), l4]) (st' := [.inl (nI i), .inr (some (11, 3))]) rfl ?_
              refine XM_ald (k := 3) (i := i) rfl (by decide) (by simp only [mln]; omega) rfl ?_
              refine X_eq (st' := [.inl (nI (so σ i))]) rfl (congrArg (fun z => Sum.inl z :: _) es) rfl ?_
              refine X_run 1 (pc' := 80) (L' := [some (.inr (some (10, 0))), some (.inl (nI x)), some (.inl (nI y)), some (.inl (nI i)), l4]) (st' := [.inl (6), .inl (nI (so σ i))]) rfl ?_
              refine X_ic_ne (tgt := 87) (nx := 83) rfl rfl rfl (fun h6 => ?_) (fun h6 => ?_)
              · have h6 := li_ne (b := 6) h6
                refine X_run 1 (pc' := 88) (L' := [some (.inr (some (10, 0))), some (.inl (nI x)), some (.inl (nI y)), some (.inl (nI i)), l4]) (st' := [.inl (0)]) rfl ?_
                exact part3 false (by simp [chg, h3, h4, h5, h6])
              · have h6 := li_eq (b := 6) (by omega) (by decide) h6
                refine X_run 2 (pc' := 88) (L' := [some (.inr (some (10, 0))), some (.inl (nI x)), some (.inl (nI y)), some (.inl (nI i)), l4]) (st' := [.inl (1)]) rfl ?_
                exact part3 true (by simp [chg, h6])
      refine X_ic_ne (tgt := 42) (nx := 31) rfl rfl rfl (fun h3 => ?_) (fun h3 => ?_)
      · have h3 := li_ne (b := 4) h3
        exact part2 (fun q => h3 q.1)
      · have h3 := li_eq (b := 4) (by omega) (by decide) h3
        refine X_run 3 (pc' := 34) (L' := [some (.inr (some (10, 0))), some (.inl (nI x)), some (.inl (nI y)), some (.inl (nI i)), l4]) (st' := [.inl (nI x), .inl (nI i), .inr (some (10, 0))]) rfl ?_
        refine X_callV (vs := [.inl (nI i), .inl (nI x)]) (st := []) (mc := 0) (ms := 0) rfl ok_Mo_knows v_Mo_121 rfl rfl rfl (Nat.le_of_ble_eq_true rfl) (Nat.le_of_ble_eq_true rfl) (Nat.le_of_ble_eq_true rfl) (Nat.le_of_ble_eq_true rfl) (Nat.le_of_ble_eq_true rfl) (Nat.le_of_ble_eq_true rfl) rfl ?_
        refine c_Mo_knows hD h1 hx ?_
        show X M_Mo_holds _ _ 37 [some (.inr (some (10, 0))), some (.inl (nI x)), some (.inl (nI y)), some (.inl (nI i)), l4] [.inl (b2i (knw σ i x))] (mH g I A) 0 0
        refine X_if_eq (tgt := 42) (nx := 40) rfl rfl rfl (fun h4 => ?_) (fun h4 => ?_)
        · rw [b2i_0] at h4
          exact part2 (fun q => by rw [h4] at q; exact absurd q.2 (by decide))
        · rw [b2i_n0] at h4
          refine X_run 1 (pc' := 41) (L' := [some (.inr (some (10, 0))), some (.inl (nI x)), some (.inl (nI y)), some (.inl (nI i)), l4]) (st' := [.inl (0)]) rfl ?_
          exact X_iret rfl rfl rfl (Nat.le_refl _) (Nat.le_refl _) (qf (hld_f h1 (by simp [hzF, h2, h3, h4])) hq)
    · rw [b2i_0] at h2
      refine X_run 1 (pc' := 113) (L' := [some (.inr (some (10, 0))), some (.inl (nI x)), some (.inl (nI y)), some (.inl (nI i)), l4]) (st' := []) rfl ?_
      exact next _ (by simp [hzF, h2])
theorem c_Mo_isStruck {y : Nat} (hD : MD σ A) (hS : MS see A) (hU : MU u A) (hT : MT t A) (hy : y < 160) (hI : I 0 = b2i (wn σ)) (hq : Q (some (.inl (b2i (strF σ see u t y)))) (mH g I A)) : X M_Mo_isStruck (rmo M_Mo_isStruck 0 0) (Zm Q 0 0) 0 (ini M_Mo_isStruck [mo, .inl (nI y)]) [] (mH g I A) 0 0 := by
  show X M_Mo_isStruck _ _ 0 [some (.inr (some (10, 0))), some (.inl (nI y)), none, none] [] (mH g I A) 0 0
  refine X_run 4 (pc' := 4) (L' := [some (.inr (some (10, 0))), some (.inl (nI y)), some (.inl (0)), some (.inl (0))]) (st' := []) rfl ?_
  refine X_eq (L' := [some (.inr (some (10, 0))), some (.inl (nI y)), some (.inl (0)), some (.inl (nI (0)))]) (congrArg (fun z : Int32 => ([some (.inr (some (10, 0))), some (.inl (nI y)), some (.inl (0)), some (.inl z)] : List (Option AV))) (by first | rfl | (simp only [il_0, il_1, il_2, il_3, il_4, il_5, il_6, il_7, il_16, il_20, il_40, il_160, pk_mul, nI_add]; done) | (simp only [il_0, il_1, il_2, il_3, il_4, il_5, il_6, il_7, il_16, il_20, il_40, il_160, pk_mul, nI_add]; exact congrArg nI (by omega)))) rfl rfl ?_
  refine up_ind 160 (fun i => ∀ b : Bool, b = (List.range i).any (fun x => ofF σ see u t x y && so σ x == 3 && hldF σ see u t x y) → X M_Mo_isStruck (rmo M_Mo_isStruck 0 0) (Zm Q 0 0) 4 [some (.inr (some (10, 0))), some (.inl (nI y)), some (.inl (b2i b)), some (.inl (nI i))] [] (mH g I A) 0 0) ?_ 0 (by omega) false rfl
  intro i hi ih b inv
  refine X_run 2 (pc' := 8) (L' := [some (.inr (some (10, 0))), some (.inl (nI y)), some (.inl (b2i b)), some (.inl (nI i))]) (st' := [.inl (160), .inl (nI i)]) rfl ?_
  refine X_ic_ge (tgt := 55) (nx := 11) rfl rfl rfl (fun h1 => ?_) (fun h1 => ?_)
  · have h1 := li_le (a := 160) (by decide) (by omega) h1
    have e : i = 160 := by omega
    rw [e] at inv
    refine X_run 1 (pc' := 56) (L' := [some (.inr (some (10, 0))), some (.inl (nI y)), some (.inl (b2i b)), some (.inl (nI i))]) (st' := [.inl (b2i b)]) rfl ?_
    exact X_iret rfl rfl (b2i_nar _) (Nat.le_refl _) (Nat.le_refl _) (by unfold strF at hq; rw [← inv] at hq; exact hq)
  · have h1 := li_nle (a := 160) (by decide) (by omega) h1
    refine X_run 1 (pc' := 12) (L' := [some (.inr (some (10, 0))), some (.inl (nI y)), some (.inl (b2i b)), some (.inl (nI i))]) (st' := [.inl (b2i b)]) rfl ?_
    refine X_if_ne (tgt := 55) (nx := 15) rfl rfl rfl (fun h2 => ?_) (fun h2 => ?_)
    · rw [b2i_n0] at h2
      refine X_run 1 (pc' := 56) (L' := [some (.inr (some (10, 0))), some (.inl (nI y)), some (.inl (b2i b)), some (.inl (nI i))]) (st' := [.inl (b2i b)]) rfl ?_
      refine X_iret rfl rfl (b2i_nar _) (Nat.le_refl _) (Nat.le_refl _) (qi ?_ hq)
      have : strF σ see u t y = true := by
        unfold strF
        rw [h2] at inv
        obtain ⟨z, hz, hp⟩ := List.any_eq_true.mp inv.symm
        exact List.any_eq_true.mpr ⟨z, List.mem_range.mpr (by have := List.mem_range.mp hz; omega), hp⟩
      rw [this, h2]
    · rw [b2i_0] at h2
      have es := (hD.2 i h1).1
      have bs := (hD.1.2.2 i).1
      have next : ∀ b' : Bool, b' = (ofF σ see u t i y && so σ i == 3 && hldF σ see u t i y) → X M_Mo_isStruck (rmo M_Mo_isStruck 0 0) (Zm Q 0 0) 48 [some (.inr (some (10, 0))), some (.inl (nI y)), some (.inl (b2i b)), some (.inl (nI i))] [.inl (b2i b')] (mH g I A) 0 0 := by
        intro b' hb'
        refine X_run 3 (pc' := 4) (L' := [some (.inr (some (10, 0))), some (.inl (nI y)), some (.inl (b2i b')), some (.inl (nI i + 1))]) (st' := []) rfl ?_
        refine X_eq (L' := [some (.inr (some (10, 0))), some (.inl (nI y)), some (.inl (b2i b')), some (.inl (nI (i + 1)))]) (congrArg (fun z : Int32 => ([some (.inr (some (10, 0))), some (.inl (nI y)), some (.inl (b2i b')), some (.inl z)] : List (Option AV))) (by first | rfl | (simp only [il_0, il_1, il_2, il_3, il_4, il_5, il_6, il_7, il_16, il_20, il_40, il_160, pk_mul, nI_add]; done) | (simp only [il_0, il_1, il_2, il_3, il_4, il_5, il_6, il_7, il_16, il_20, il_40, il_160, pk_mul, nI_add]; exact congrArg nI (by omega)))) rfl rfl ?_
        refine ih h1 b' ?_
        rw [List.range_succ, List.any_append, ← inv, h2, hb']
        simp
      refine X_run 3 (pc' := 18) (L' := [some (.inr (some (10, 0))), some (.inl (nI y)), some (.inl (b2i b)), some (.inl (nI i))]) (st' := [.inl (nI y), .inl (nI i), .inr (some (10, 0))]) rfl ?_
      refine X_callV (vs := [.inl (nI i), .inl (nI y)]) (st := []) (mc := 0) (ms := 0) rfl ok_Mo_isOf v_Mo_115 rfl rfl rfl (Nat.le_of_ble_eq_true rfl) (Nat.le_of_ble_eq_true rfl) (Nat.le_of_ble_eq_true rfl) (Nat.le_of_ble_eq_true rfl) (Nat.le_of_ble_eq_true rfl) (Nat.le_of_ble_eq_true rfl) rfl ?_
      refine c_Mo_isOf hD hS hU hT h1 hy ?_
      show X M_Mo_isStruck _ _ 21 [some (.inr (some (10, 0))), some (.inl (nI y)), some (.inl (b2i b)), some (.inl (nI i))] [.inl (b2i (ofF σ see u t i y))] (mH g I A) 0 0
      refine X_if_eq (tgt := 47) (nx := 24) rfl rfl rfl (fun h3 => ?_) (fun h3 => ?_)
      · rw [b2i_0] at h3
        refine X_run 1 (pc' := 48) (L' := [some (.inr (some (10, 0))), some (.inl (nI y)), some (.inl (b2i b)), some (.inl (nI i))]) (st' := [.inl (0)]) rfl ?_
        exact next false (by simp [h3])
      · rw [b2i_n0] at h3
        refine X_run 1 (pc' := 25) (L' := [some (.inr (some (10, 0))), some (.inl (nI y)), some (.inl (b2i b)), some (.inl (nI i))]) (st' := [.inr (some (10, 0))]) rfl ?_
        refine XM_get (v := .inr (some (11, 3))) rfl f_Mo_13 rfl rfl ?_
        refine X_run 1 (pc' := 29) (L' := [some (.inr (some (10, 0))), some (.inl (nI y)), some (.inl (b2i b)), some (.inl (nI i))]) (st' := [.inl (nI i), .inr (some (11, 3))]) rfl ?_
        refine XM_ald (k := 3) (i := i) rfl (by decide) (by simp only [mln]; omega) rfl ?_
        refine X_eq (st' := [.inl (nI (so σ i))]) rfl (congrArg (fun z => Sum.inl z :: _) es) rfl ?_
        refine X_run 1 (pc' := 31) (L' := [some (.inr (some (10, 0))), some (.inl (nI y)), some (.inl (b2i b)), some (.inl (nI i))]) (st' := [.inl (3), .inl (nI (so σ i))]) rfl ?_
        refine X_ic_ne (tgt := 47) (nx := 34) rfl rfl rfl (fun h4 => ?_) (fun h4 => ?_)
        · have h4 := li_ne (b := 3) h4
          refine X_run 1 (pc' := 48) (L' := [some (.inr (some (10, 0))), some (.inl (nI y)), some (.inl (b2i b)), some (.inl (nI i))]) (st' := [.inl (0)]) rfl ?_
          exact next false (by simp [h4])
        · have h4 := li_eq (b := 3) (by omega) (by decide) h4
          refine X_run 3 (pc' := 37) (L' := [some (.inr (some (10, 0))), some (.inl (nI y)), some (.inl (b2i b)), some (.inl (nI i))]) (st' := [.inl (nI y), .inl (nI i), .inr (some (10, 0))]) rfl ?_
          refine X_callV (vs := [.inl (nI i), .inl (nI y)]) (st := []) (mc := 0) (ms := 0) rfl ok_Mo_holds v_Mo_118 rfl rfl rfl (Nat.le_of_ble_eq_true rfl) (Nat.le_of_ble_eq_true rfl) (Nat.le_of_ble_eq_true rfl) (Nat.le_of_ble_eq_true rfl) (Nat.le_of_ble_eq_true rfl) (Nat.le_of_ble_eq_true rfl) rfl ?_
          refine c_Mo_holds hD hS hU hT h1 hy hI ?_
          show X M_Mo_isStruck _ _ 40 [some (.inr (some (10, 0))), some (.inl (nI y)), some (.inl (b2i b)), some (.inl (nI i))] [.inl (b2i (hldF σ see u t i y))] (mH g I A) 0 0
          refine X_if_eq (tgt := 47) (nx := 43) rfl rfl rfl (fun h5 => ?_) (fun h5 => ?_)
          · rw [b2i_0] at h5
            refine X_run 1 (pc' := 48) (L' := [some (.inr (some (10, 0))), some (.inl (nI y)), some (.inl (b2i b)), some (.inl (nI i))]) (st' := [.inl (0)]) rfl ?_
            exact next false (by simp [h5])
          · rw [b2i_n0] at h5
            refine X_run 2 (pc' := 48) (L' := [some (.inr (some (10, 0))), some (.inl (nI y)), some (.inl (b2i b)), some (.inl (nI i))]) (st' := [.inl (1)]) rfl ?_
            exact next true (by simp [h3, h4, h5])
theorem c_Mo_nameOf {y : Nat} {l : List Nat} (hD : MD σ A) (hS : MS see A) (hU : MU u A) (hT : MT t A) (hy : y < 160) (hl : I 13 = nI l.length) (hl2 : l.length ≤ 160) (hA : ∀ k x, l[k]? = some x → A 14 k = nI x ∧ x < 160) (hq : Q (some (.inl (namF σ see u t l y))) (mH g I A)) : X M_Mo_nameOf (rmo M_Mo_nameOf 0 0) (Zm Q 0 0) 0 (ini M_Mo_nameOf [mo, .inl (nI y)]) [] (mH g I A) 0 0 := by
  show X M_Mo_nameOf _ _ 0 [some (.inr (some (10, 0))), some (.inl (nI y)), none, none] [] (mH g I A) 0 0
  refine X_run 1 (pc' := 1) (L' := [some (.inr (some (10, 0))), some (.inl (nI y)), none, none]) (st' := [.inr (some (10, 0))]) rfl ?_
  refine XM_get (v := .inr (some (11, 7))) rfl f_Mo_25 rfl rfl ?_
  refine X_run 1 (pc' := 5) (L' := [some (.inr (some (10, 0))), some (.inl (nI y)), none, none]) (st' := [.inl (nI y), .inr (some (11, 7))]) rfl ?_
  refine XM_ald (k := 7) (i := y) rfl (by decide) (by simp only [mln]; omega) rfl ?_
  refine X_eq (st' := [.inl (nu σ y)]) rfl (congrArg (fun z => Sum.inl z :: _) (hD.2 y hy).2.2.2.2.1) rfl ?_
  refine X_run 3 (pc' := 9) (L' := [some (.inr (some (10, 0))), some (.inl (nI y)), some (.inl (nu σ y)), some (.inl (0))]) (st' := []) rfl ?_
  refine X_eq (L' := [some (.inr (some (10, 0))), some (.inl (nI y)), some (.inl (nu σ y)), some (.inl (nI (0)))]) (congrArg (fun z : Int32 => ([some (.inr (some (10, 0))), some (.inl (nI y)), some (.inl (nu σ y)), some (.inl z)] : List (Option AV))) (by first | rfl | (simp only [il_0, il_1, il_2, il_3, il_4, il_5, il_6, il_7, il_16, il_20, il_40, il_160, pk_mul, nI_add]; done) | (simp only [il_0, il_1, il_2, il_3, il_4, il_5, il_6, il_7, il_16, il_20, il_40, il_160, pk_mul, nI_add]; exact congrArg nI (by omega)))) rfl rfl ?_
  refine up_ind l.length (fun i => ∀ a : Int32, a = namF σ see u t (l.take i) y → X M_Mo_nameOf (rmo M_Mo_nameOf 0 0) (Zm Q 0 0) 9 [some (.inr (some (10, 0))), some (.inl (nI y)), some (.inl a), some (.inl (nI i))] [] (mH g I A) 0 0) ?_ 0 (by omega) _ (by simp [namF])
  intro i hi ih a inv
  refine X_run 2 (pc' := 11) (L' := [some (.inr (some (10, 0))), some (.inl (nI y)), some (.inl (a)), some (.inl (nI i))]) (st' := [.inr (some (10, 0)), .inl (nI i)]) rfl ?_
  refine XM_get (v := .inl (I 13)) rfl f_Mo_91 rfl rfl ?_
  refine X_eq (st' := [.inl (nI l.length), .inl (nI i)]) rfl (congrArg (fun z => Sum.inl z :: _) hl) rfl ?_
  refine X_ic_ge (tgt := 69) (nx := 17) rfl rfl rfl (fun h1 => ?_) (fun h1 => ?_)
  · have h1 := li_le (by omega) (by omega) h1
    have e : i = l.length := by omega
    rw [e, List.take_length] at inv
    refine X_run 1 (pc' := 70) (L' := [some (.inr (some (10, 0))), some (.inl (nI y)), some (.inl (a)), some (.inl (nI i))]) (st' := [.inl (a)]) rfl ?_
    exact X_iret rfl rfl rfl (Nat.le_refl _) (Nat.le_refl _) (by rw [inv]; exact hq)
  · have h1 := li_nle (by omega) (by omega) h1
    obtain ⟨x, hx⟩ : ∃ x, l[i]? = some x := ⟨_, List.getElem?_eq_getElem h1⟩
    obtain ⟨ea, hx2⟩ := hA i x hx
    have es := (hD.2 x hx2).1
    have ev := (hD.2 x hx2).2.2.2.1
    have bs := (hD.1.2.2 x).1
    have next : ∀ a' : Int32, a' = (if ofF σ see u t x y && so σ x == 6 then vl σ x else a) → X M_Mo_nameOf (rmo M_Mo_nameOf 0 0) (Zm Q 0 0) 62 [some (.inr (some (10, 0))), some (.inl (nI y)), some (.inl a), some (.inl (nI i))] [.inl a'] (mH g I A) 0 0 := by
      intro a' ha'
      refine X_run 3 (pc' := 9) (L' := [some (.inr (some (10, 0))), some (.inl (nI y)), some (.inl (a')), some (.inl (nI i + 1))]) (st' := []) rfl ?_
      refine X_eq (L' := [some (.inr (some (10, 0))), some (.inl (nI y)), some (.inl (a')), some (.inl (nI (i + 1)))]) (congrArg (fun z : Int32 => ([some (.inr (some (10, 0))), some (.inl (nI y)), some (.inl (a')), some (.inl z)] : List (Option AV))) (by first | rfl | (simp only [il_0, il_1, il_2, il_3, il_4, il_5, il_6, il_7, il_16, il_20, il_40, il_160, pk_mul, nI_add]; done) | (simp only [il_0, il_1, il_2, il_3, il_4, il_5, il_6, il_7, il_16, il_20, il_40, il_160, pk_mul, nI_add]; exact congrArg nI (by omega)))) rfl rfl ?_
      refine ih h1 a' ?_
      rw [List.take_add_one, hx]
      unfold namF at inv ⊢
      rw [List.foldl_append, ← inv, ha']
      rfl
    refine X_run 2 (pc' := 19) (L' := [some (.inr (some (10, 0))), some (.inl (nI y)), some (.inl (a)), some (.inl (nI i))]) (st' := [.inr (some (10, 0)), .inr (some (10, 0))]) rfl ?_
    refine XM_get (v := .inr (some (11, 14))) rfl f_Mo_44 rfl rfl ?_
    refine X_run 1 (pc' := 23) (L' := [some (.inr (some (10, 0))), some (.inl (nI y)), some (.inl (a)), some (.inl (nI i))]) (st' := [.inl (nI i), .inr (some (11, 14)), .inr (some (10, 0))]) rfl ?_
    refine XM_ald (k := 14) (i := i) rfl (by decide) (by simp only [mln]; omega) rfl ?_
    refine X_eq (st' := [.inl (nI x), .inr (some (10, 0))]) rfl (congrArg (fun z => Sum.inl z :: _) ea) rfl ?_
    refine X_run 1 (pc' := 25) (L' := [some (.inr (some (10, 0))), some (.inl (nI y)), some (.inl (a)), some (.inl (nI i))]) (st' := [.inl (nI y), .inl (nI x), .inr (some (10, 0))]) rfl ?_
    refine X_callV (vs := [.inl (nI x), .inl (nI y)]) (st := []) (mc := 0) (ms := 0) rfl ok_Mo_isOf v_Mo_115 rfl rfl rfl (Nat.le_of_ble_eq_true rfl) (Nat.le_of_ble_eq_true rfl) (Nat.le_of_ble_eq_true rfl) (Nat.le_of_ble_eq_true rfl) (Nat.le_of_ble_eq_true rfl) (Nat.le_of_ble_eq_true rfl) rfl ?_
    refine c_Mo_isOf hD hS hU hT hx2 hy ?_
    show X M_Mo_nameOf _ _ 28 [some (.inr (some (10, 0))), some (.inl (nI y)), some (.inl (a)), some (.inl (nI i))] [.inl (b2i (ofF σ see u t x y))] (mH g I A) 0 0
    refine X_if_eq (tgt := 61) (nx := 31) rfl rfl rfl (fun h2 => ?_) (fun h2 => ?_)
    · rw [b2i_0] at h2
      refine X_run 1 (pc' := 62) (L' := [some (.inr (some (10, 0))), some (.inl (nI y)), some (.inl (a)), some (.inl (nI i))]) (st' := [.inl (a)]) rfl ?_
      exact next a (by simp [h2])
    · rw [b2i_n0] at h2
      refine X_run 1 (pc' := 32) (L' := [some (.inr (some (10, 0))), some (.inl (nI y)), some (.inl (a)), some (.inl (nI i))]) (st' := [.inr (some (10, 0))]) rfl ?_
      refine XM_get (v := .inr (some (11, 3))) rfl f_Mo_13 rfl rfl ?_
      refine X_run 1 (pc' := 36) (L' := [some (.inr (some (10, 0))), some (.inl (nI y)), some (.inl (a)), some (.inl (nI i))]) (st' := [.inr (some (10, 0)), .inr (some (11, 3))]) rfl ?_
      refine XM_get (v := .inr (some (11, 14))) rfl f_Mo_44 rfl rfl ?_
      refine X_run 1 (pc' := 40) (L' := [some (.inr (some (10, 0))), some (.inl (nI y)), some (.inl (a)), some (.inl (nI i))]) (st' := [.inl (nI i), .inr (some (11, 14)), .inr (some (11, 3))]) rfl ?_
      refine XM_ald (k := 14) (i := i) rfl (by decide) (by simp only [mln]; omega) rfl ?_
      refine X_eq (st' := [.inl (nI x), .inr (some (11, 3))]) rfl (congrArg (fun z => Sum.inl z :: _) ea) rfl ?_
      refine XM_ald (k := 3) (i := x) rfl (by decide) (by simp only [mln]; omega) rfl ?_
      refine X_eq (st' := [.inl (nI (so σ x))]) rfl (congrArg (fun z => Sum.inl z :: _) es) rfl ?_
      refine X_run 1 (pc' := 44) (L' := [some (.inr (some (10, 0))), some (.inl (nI y)), some (.inl (a)), some (.inl (nI i))]) (st' := [.inl (6), .inl (nI (so σ x))]) rfl ?_
      refine X_ic_ne (tgt := 61) (nx := 47) rfl rfl rfl (fun h3 => ?_) (fun h3 => ?_)
      · have h3 := li_ne (b := 6) h3
        refine X_run 1 (pc' := 62) (L' := [some (.inr (some (10, 0))), some (.inl (nI y)), some (.inl (a)), some (.inl (nI i))]) (st' := [.inl (a)]) rfl ?_
        exact next a (by simp [h3])
      · have h3 := li_eq (b := 6) (by omega) (by decide) h3
        refine X_run 1 (pc' := 48) (L' := [some (.inr (some (10, 0))), some (.inl (nI y)), some (.inl (a)), some (.inl (nI i))]) (st' := [.inr (some (10, 0))]) rfl ?_
        refine XM_get (v := .inr (some (11, 6))) rfl f_Mo_22 rfl rfl ?_
        refine X_run 1 (pc' := 52) (L' := [some (.inr (some (10, 0))), some (.inl (nI y)), some (.inl (a)), some (.inl (nI i))]) (st' := [.inr (some (10, 0)), .inr (some (11, 6))]) rfl ?_
        refine XM_get (v := .inr (some (11, 14))) rfl f_Mo_44 rfl rfl ?_
        refine X_run 1 (pc' := 56) (L' := [some (.inr (some (10, 0))), some (.inl (nI y)), some (.inl (a)), some (.inl (nI i))]) (st' := [.inl (nI i), .inr (some (11, 14)), .inr (some (11, 6))]) rfl ?_
        refine XM_ald (k := 14) (i := i) rfl (by decide) (by simp only [mln]; omega) rfl ?_
        refine X_eq (st' := [.inl (nI x), .inr (some (11, 6))]) rfl (congrArg (fun z => Sum.inl z :: _) ea) rfl ?_
        refine XM_ald (k := 6) (i := x) rfl (by decide) (by simp only [mln]; omega) rfl ?_
        refine X_eq (st' := [.inl (vl σ x)]) rfl (congrArg (fun z => Sum.inl z :: _) ev) rfl ?_
        refine X_run 1 (pc' := 62) (L' := [some (.inr (some (10, 0))), some (.inl (nI y)), some (.inl (a)), some (.inl (nI i))]) (st' := [.inl (vl σ x)]) rfl ?_
        exact next (vl σ x) (by simp [h2, h3])
theorem c_Mo_sumOf {y w : Nat} (hD : MD σ A) (hS : MS see A) (hU : MU u A) (hT : MT t A) (hy : y < 160) (hw : w < 8) (hq : Q (some (.inl (sumF σ see u t y w))) (mH g I A)) : X M_Mo_sumOf (rmo M_Mo_sumOf 0 0) (Zm Q 0 0) 0 (ini M_Mo_sumOf [mo, .inl (nI y), .inl (nI w)]) [] (mH g I A) 0 0 := by
  have main : ∀ a0 : Int32, a0 = (if w = 1 then vl σ y else 0) → X M_Mo_sumOf (rmo M_Mo_sumOf 0 0) (Zm Q 0 0) 15 [some (.inr (some (10, 0))), some (.inl (nI y)), some (.inl (nI w)), none, none] [.inl a0] (mH g I A) 0 0 := by
    intro a0 ha0
    refine X_run 3 (pc' := 19) (L' := [some (.inr (some (10, 0))), some (.inl (nI y)), some (.inl (nI w)), some (.inl (a0)), some (.inl (0))]) (st' := []) rfl ?_
    refine X_eq (L' := [some (.inr (some (10, 0))), some (.inl (nI y)), some (.inl (nI w)), some (.inl (a0)), some (.inl (nI (0)))]) (congrArg (fun z : Int32 => ([some (.inr (some (10, 0))), some (.inl (nI y)), some (.inl (nI w)), some (.inl (a0)), some (.inl z)] : List (Option AV))) (by first | rfl | (simp only [il_0, il_1, il_2, il_3, il_4, il_5, il_6, il_7, il_16, il_20, il_40, il_160, pk_mul, nI_add]; done) | (simp only [il_0, il_1, il_2, il_3, il_4, il_5, il_6, il_7, il_16, il_20, il_40, il_160, pk_mul, nI_add]; exact congrArg nI (by omega)))) rfl rfl ?_
    refine up_ind 160 (fun i => ∀ a : Int32, a = (List.range i).foldl (fun a x => a + (if ofF σ see u t x y && so σ x == w then vl σ x else 0)) (if w = 1 then vl σ y else 0) → X M_Mo_sumOf (rmo M_Mo_sumOf 0 0) (Zm Q 0 0) 19 [some (.inr (some (10, 0))), some (.inl (nI y)), some (.inl (nI w)), some (.inl a), some (.inl (nI i))] [] (mH g I A) 0 0) ?_ 0 (by omega) a0 ha0
    intro i hi ih a inv
    refine X_run 2 (pc' := 24) (L' := [some (.inr (some (10, 0))), some (.inl (nI y)), some (.inl (nI w)), some (.inl (a)), some (.inl (nI i))]) (st' := [.inl (160), .inl (nI i)]) rfl ?_
    refine X_ic_ge (tgt := 68) (nx := 27) rfl rfl rfl (fun h1 => ?_) (fun h1 => ?_)
    · have h1 := li_le (a := 160) (by decide) (by omega) h1
      have e : i = 160 := by omega
      rw [e] at inv
      refine X_run 1 (pc' := 69) (L' := [some (.inr (some (10, 0))), some (.inl (nI y)), some (.inl (nI w)), some (.inl (a)), some (.inl (nI i))]) (st' := [.inl (a)]) rfl ?_
      exact X_iret rfl rfl rfl (Nat.le_refl _) (Nat.le_refl _) (by rw [inv]; exact hq)
    · have h1 := li_nle (a := 160) (by decide) (by omega) h1
      have es := (hD.2 i h1).1
      have ev := (hD.2 i h1).2.2.2.1
      have bs := (hD.1.2.2 i).1
      have next : ∀ a' : Int32, a' = (if ofF σ see u t i y && so σ i == w then vl σ i else 0) → X M_Mo_sumOf (rmo M_Mo_sumOf 0 0) (Zm Q 0 0) 60 [some (.inr (some (10, 0))), some (.inl (nI y)), some (.inl (nI w)), some (.inl a), some (.inl (nI i))] [.inl a', .inl a] (mH g I A) 0 0 := by
        intro a' ha'
        refine X_run 4 (pc' := 19) (L' := [some (.inr (some (10, 0))), some (.inl (nI y)), some (.inl (nI w)), some (.inl (a + (a'))), some (.inl (nI i + 1))]) (st' := []) rfl ?_
        refine X_eq (L' := [some (.inr (some (10, 0))), some (.inl (nI y)), some (.inl (nI w)), some (.inl (a + (a'))), some (.inl (nI (i + 1)))]) (congrArg (fun z : Int32 => ([some (.inr (some (10, 0))), some (.inl (nI y)), some (.inl (nI w)), some (.inl (a + (a'))), some (.inl z)] : List (Option AV))) (by first | rfl | (simp only [il_0, il_1, il_2, il_3, il_4, il_5, il_6, il_7, il_16, il_20, il_40, il_160, pk_mul, nI_add]; done) | (simp only [il_0, il_1, il_2, il_3, il_4, il_5, il_6, il_7, il_16, il_20, il_40, il_160, pk_mul, nI_add]; exact congrArg nI (by omega)))) rfl rfl ?_
        refine ih h1 (a + a') ?_
        rw [List.range_succ, List.foldl_append, ← inv, ha']
        rfl
      refine X_run 4 (pc' := 32) (L' := [some (.inr (some (10, 0))), some (.inl (nI y)), some (.inl (nI w)), some (.inl (a)), some (.inl (nI i))]) (st' := [.inl (nI y), .inl (nI i), .inr (some (10, 0)), .inl (a)]) rfl ?_
      refine X_callV (vs := [.inl (nI i), .inl (nI y)]) (st := [.inl (a)]) (mc := 0) (ms := 0) rfl ok_Mo_isOf v_Mo_115 rfl rfl rfl (Nat.le_of_ble_eq_true rfl) (Nat.le_of_ble_eq_true rfl) (Nat.le_of_ble_eq_true rfl) (Nat.le_of_ble_eq_true rfl) (Nat.le_of_ble_eq_true rfl) (Nat.le_of_ble_eq_true rfl) rfl ?_
      refine c_Mo_isOf hD hS hU hT h1 hy ?_
      show X M_Mo_sumOf _ _ 35 [some (.inr (some (10, 0))), some (.inl (nI y)), some (.inl (nI w)), some (.inl (a)), some (.inl (nI i))] [.inl (b2i (ofF σ see u t i y)), .inl (a)] (mH g I A) 0 0
      refine X_if_eq (tgt := 59) (nx := 38) rfl rfl rfl (fun h2 => ?_) (fun h2 => ?_)
      · rw [b2i_0] at h2
        refine X_run 1 (pc' := 60) (L' := [some (.inr (some (10, 0))), some (.inl (nI y)), some (.inl (nI w)), some (.inl (a)), some (.inl (nI i))]) (st' := [.inl (0), .inl (a)]) rfl ?_
        exact next 0 (by simp [h2])
      · rw [b2i_n0] at h2
        refine X_run 1 (pc' := 39) (L' := [some (.inr (some (10, 0))), some (.inl (nI y)), some (.inl (nI w)), some (.inl (a)), some (.inl (nI i))]) (st' := [.inr (some (10, 0)), .inl (a)]) rfl ?_
        refine XM_get (v := .inr (some (11, 3))) rfl f_Mo_13 rfl rfl ?_
        refine X_run 1 (pc' := 44) (L' := [some (.inr (some (10, 0))), some (.inl (nI y)), some (.inl (nI w)), some (.inl (a)), some (.inl (nI i))]) (st' := [.inl (nI i), .inr (some (11, 3)), .inl (a)]) rfl ?_
        refine XM_ald (k := 3) (i := i) rfl (by decide) (by simp only [mln]; omega) rfl ?_
        refine X_eq (st' := [.inl (nI (so σ i)), .inl (a)]) rfl (congrArg (fun z => Sum.inl z :: _) es) rfl ?_
        refine X_run 1 (pc' := 46) (L' := [some (.inr (some (10, 0))), some (.inl (nI y)), some (.inl (nI w)), some (.inl (a)), some (.inl (nI i))]) (st' := [.inl (nI w), .inl (nI (so σ i)), .inl (a)]) rfl ?_
        refine X_ic_ne (tgt := 59) (nx := 49) rfl rfl rfl (fun h3 => ?_) (fun h3 => ?_)
        · have h3 := li_ne h3
          refine X_run 1 (pc' := 60) (L' := [some (.inr (some (10, 0))), some (.inl (nI y)), some (.inl (nI w)), some (.inl (a)), some (.inl (nI i))]) (st' := [.inl (0), .inl (a)]) rfl ?_
          exact next 0 (by simp [h3])
        · have h3 := li_eq (by omega) (by omega) h3
          refine X_run 1 (pc' := 50) (L' := [some (.inr (some (10, 0))), some (.inl (nI y)), some (.inl (nI w)), some (.inl (a)), some (.inl (nI i))]) (st' := [.inr (some (10, 0)), .inl (a)]) rfl ?_
          refine XM_get (v := .inr (some (11, 6))) rfl f_Mo_22 rfl rfl ?_
          refine X_run 1 (pc' := 55) (L' := [some (.inr (some (10, 0))), some (.inl (nI y)), some (.inl (nI w)), some (.inl (a)), some (.inl (nI i))]) (st' := [.inl (nI i), .inr (some (11, 6)), .inl (a)]) rfl ?_
          refine XM_ald (k := 6) (i := i) rfl (by decide) (by simp only [mln]; omega) rfl ?_
          refine X_eq (st' := [.inl (vl σ i), .inl (a)]) rfl (congrArg (fun z => Sum.inl z :: _) ev) rfl ?_
          refine X_run 1 (pc' := 60) (L' := [some (.inr (some (10, 0))), some (.inl (nI y)), some (.inl (nI w)), some (.inl (a)), some (.inl (nI i))]) (st' := [.inl (vl σ i), .inl (a)]) rfl ?_
          exact next _ (by simp [h2, h3])
  show X M_Mo_sumOf _ _ 0 [some (.inr (some (10, 0))), some (.inl (nI y)), some (.inl (nI w)), none, none] [] (mH g I A) 0 0
  refine X_run 2 (pc' := 2) (L' := [some (.inr (some (10, 0))), some (.inl (nI y)), some (.inl (nI w)), none, none]) (st' := [.inl (1), .inl (nI w)]) rfl ?_
  refine X_ic_ne (tgt := 14) (nx := 5) rfl rfl rfl (fun h1 => ?_) (fun h1 => ?_)
  · have h1 := li_ne (b := 1) h1
    refine X_run 1 (pc' := 15) (L' := [some (.inr (some (10, 0))), some (.inl (nI y)), some (.inl (nI w)), none, none]) (st' := [.inl (0)]) rfl ?_
    exact main 0 (by simp [h1])
  · have h1 := li_eq (b := 1) (by omega) (by decide) h1
    refine X_run 1 (pc' := 6) (L' := [some (.inr (some (10, 0))), some (.inl (nI y)), some (.inl (nI w)), none, none]) (st' := [.inr (some (10, 0))]) rfl ?_
    refine XM_get (v := .inr (some (11, 6))) rfl f_Mo_22 rfl rfl ?_
    refine X_run 1 (pc' := 10) (L' := [some (.inr (some (10, 0))), some (.inl (nI y)), some (.inl (nI w)), none, none]) (st' := [.inl (nI y), .inr (some (11, 6))]) rfl ?_
    refine XM_ald (k := 6) (i := y) rfl (by decide) (by simp only [mln]; omega) rfl ?_
    refine X_eq (st' := [.inl (vl σ y)]) rfl (congrArg (fun z => Sum.inl z :: _) (hD.2 y hy).2.2.2.1) rfl ?_
    refine X_run 1 (pc' := 15) (L' := [some (.inr (some (10, 0))), some (.inl (nI y)), some (.inl (nI w)), none, none]) (st' := [.inl (vl σ y)]) rfl ?_
    exact main _ (by simp [h1])
end

