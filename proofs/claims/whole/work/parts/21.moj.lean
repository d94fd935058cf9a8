/-! the model: meet, device, knows, keeps, deed, about -/
def sKnows (σ : Sg) (d e f w : Int32) : Int32 := if isD σ d && isD σ e && decide (0 ≤ w.toInt ∧ w.toInt ≤ 1) && (decide (w ≠ 1) || isD σ f) then (if w = 0 then nI (rk σ d.toNatClampNeg d.toNatClampNeg e.toNatClampNeg) else nI (rk σ d.toNatClampNeg f.toNatClampNeg e.toNatClampNeg)) else -1
def kpA (σ : Sg) (d e k : Nat) : Nat := (List.range k).foldl (fun a f => if rk σ d f e < a then rk σ d f e else a) (rk σ d d e)
def kpN (σ : Sg) (d k : Nat) : Nat := (List.range k).foldl (fun n e => n + (rk σ d d e - kpA σ d e (nd σ))) 0
def sKeeps (σ : Sg) (d : Int32) : Int32 := if isD σ d then nI (kpN σ d.toNatClampNeg (nd σ)) else -1
def sDeed (σ : Sg) (d n w : Int32) : Int32 := if isD σ d && decide (0 ≤ n.toInt ∧ n.toInt ≤ (mny σ d.toNatClampNeg : Int) - 1) then
    (if w = 0 then nI (so σ (40 * d.toNatClampNeg + n.toNatClampNeg)) else if w = 1 then nI (sp σ (40 * d.toNatClampNeg + n.toNatClampNeg)) else if w = 2 then nI (tg σ (40 * d.toNatClampNeg + n.toNatClampNeg))
     else if w = 3 then nI (kn σ (40 * d.toNatClampNeg + n.toNatClampNeg) 0 + kn σ (40 * d.toNatClampNeg + n.toNatClampNeg) 1 + kn σ (40 * d.toNatClampNeg + n.toNatClampNeg) 2 + kn σ (40 * d.toNatClampNeg + n.toNatClampNeg) 3) else -1) else -1
def sAbout (σ : Sg) (w : Int32) : Int32 := if w = 0 then nI (nd σ) else if w = 1 then nI (mny σ 0 + mny σ 1 + mny σ 2 + mny σ 3) else if w = 2 then b2i (wn σ) else if w = 3 then vd σ else if w = 4 then vn σ else -1
theorem toInt_k {x : Int32} {k : Nat} (hk : k < 2 ^ 31) (h : x.toInt = (k : Int)) : x = nI k := by
  rw [← Int32.toInt_inj, h, nI_toInt hk]
theorem mtV_le {σ : Sg} (h : ∀ d f e, rk σ d f e ≤ 40) (a b f e : Nat) : mtV σ a b f e ≤ 40 := by
  have h1 := h a a e
  have h2 := h b b e
  have h3 := h a f e
  have h4 := h b f e
  unfold mtV
  split <;> omega
section
variable {g : AH} {I : Nat → Int32} {A : Nat → Nat → Int32} {Q : Option AV → AH → Prop} {σ : Sg} {see : Nat → Nat}
theorem c_Mo_meet {a b : Int32} (hM : MB σ I A) (hK : ∀ d f e, rk σ d f e ≤ rk σ e e e)
    (hq : ∀ (A' : Nat → Nat → Int32), MB (sMeet σ a b).1 I A' → Q (some (.inl (sMeet σ a b).2)) (mH g I A')) : X M_Mo_meet (rmo M_Mo_meet 0 0) (Zm Q 0 0) 0 (ini M_Mo_meet [mo, .inl a, .inl b]) [] (mH g I A) 0 0 := by
  have no : (isD σ a && isD σ b && decide (a ≠ b)) = false → Q (some (.inl (-1))) (mH g I A) := by
    intro h
    have := hq A
    unfold sMeet at this
    rw [h] at this
    exact this hM
  show X M_Mo_meet _ _ 0 [some (.inr (some (10, 0))), some (.inl (a)), some (.inl (b)), none, none, none, none] [] (mH g I A) 0 0
  refine X_run 2 (pc' := 2) (L' := [some (.inr (some (10, 0))), some (.inl (a)), some (.inl (b)), none, none, none, none]) (st' := [.inl (a), .inr (some (10, 0))]) rfl ?_
  refine X_callV (vs := [.inl (a)]) (st := []) (mc := 0) (ms := 0) rfl ok_Mo_isDevice v_Mo_74 rfl rfl rfl (Nat.le_of_ble_eq_true rfl) (Nat.le_of_ble_eq_true rfl) (Nat.le_of_ble_eq_true rfl) (Nat.le_of_ble_eq_true rfl) (Nat.le_of_ble_eq_true rfl) (Nat.le_of_ble_eq_true rfl) rfl ?_
  refine c_Mo_isDevice hM.2.2.1 hM.1.1.1 ?_
  show X M_Mo_meet _ _ 5 [some (.inr (some (10, 0))), some (.inl (a)), some (.inl (b)), none, none, none, none] [.inl (b2i (isD σ a))] (mH g I A) 0 0
  refine X_if_eq (tgt := 21) (nx := 8) rfl rfl rfl (fun h1 => ?_) (fun h1 => ?_)
  · rw [b2i_0] at h1
    refine X_run 1 (pc' := 22) (L' := [some (.inr (some (10, 0))), some (.inl (a)), some (.inl (b)), none, none, none, none]) (st' := [.inl (-1)]) rfl ?_
    exact X_iret rfl rfl rfl (Nat.le_refl _) (Nat.le_refl _) (no (by rw [h1]; rfl))
  · rw [b2i_n0] at h1
    refine X_run 2 (pc' := 10) (L' := [some (.inr (some (10, 0))), some (.inl (a)), some (.inl (b)), none, none, none, none]) (st' := [.inl (b), .inr (some (10, 0))]) rfl ?_
    refine X_callV (vs := [.inl (b)]) (st := []) (mc := 0) (ms := 0) rfl ok_Mo_isDevice v_Mo_74 rfl rfl rfl (Nat.le_of_ble_eq_true rfl) (Nat.le_of_ble_eq_true rfl) (Nat.le_of_ble_eq_true rfl) (Nat.le_of_ble_eq_true rfl) (Nat.le_of_ble_eq_true rfl) (Nat.le_of_ble_eq_true rfl) rfl ?_
    refine c_Mo_isDevice hM.2.2.1 hM.1.1.1 ?_
    show X M_Mo_meet _ _ 13 [some (.inr (some (10, 0))), some (.inl (a)), some (.inl (b)), none, none, none, none] [.inl (b2i (isD σ b))] (mH g I A) 0 0
    refine X_if_eq (tgt := 21) (nx := 16) rfl rfl rfl (fun h2 => ?_) (fun h2 => ?_)
    · rw [b2i_0] at h2
      refine X_run 1 (pc' := 22) (L' := [some (.inr (some (10, 0))), some (.inl (a)), some (.inl (b)), none, none, none, none]) (st' := [.inl (-1)]) rfl ?_
      exact X_iret rfl rfl rfl (Nat.le_refl _) (Nat.le_refl _) (no (by rw [h2, Bool.and_false]; rfl))
    · rw [b2i_n0] at h2
      refine X_run 2 (pc' := 18) (L' := [some (.inr (some (10, 0))), some (.inl (a)), some (.inl (b)), none, none, none, none]) (st' := [.inl (b), .inl (a)]) rfl ?_
      refine X_ic_ne (tgt := 23) (nx := 21) rfl rfl rfl (fun h3 => ?_) (fun h3 => ?_)
      · have hok : (isD σ a && isD σ b && decide (a ≠ b)) = true := by rw [h1, h2, show decide (a ≠ b) = true from decide_eq_true h3]; rfl
        obtain ⟨a, ha, rfl⟩ := isD_t h1
        obtain ⟨b, hb, rfl⟩ := isD_t h2
        have h4 := hM.1.1.1
        have hca : (nI a).toNatClampNeg = a := nI_clamp (by omega)
        have hcb : (nI b).toNatClampNeg = b := nI_clamp (by omega)
        have hab : a ≠ b := fun q => h3 (by rw [q])
        have e0 : sMeet σ (nI a) (nI b) = (mtS σ a b, nI ((List.range 4).foldl (fun n e => n + mtV σ a b a e) 0)) := by
          unfold sMeet
          rw [hok, hca, hcb]
          rfl
        rw [e0] at hq
        have hr := hM.2.2.2.2.1
        have b40 := hM.1.1.2.1
        -- the sum at the end
        have last : ∀ (A3 : Nat → Nat → Int32) (l5 l6 : Option AV), MB (mtS σ a b) I A3 → X M_Mo_meet (rmo M_Mo_meet 0 0) (Zm Q 0 0) 194 [some (.inr (some (10, 0))), some (.inl (nI a)), some (.inl (nI b)), some (.inl (nI 0)), some (.inl (nI 0)), l5, l6] [] (mH g I A3) 0 0 := by
          intro A3 l5 l6 hM3
          have hb4 := mtV_le b40 a b a
          refine up_ind 4 (fun i => ∀ n : Nat, n = (List.range i).foldl (fun n e => n + mtV σ a b a e) 0 → n ≤ 40 * i → X M_Mo_meet (rmo M_Mo_meet 0 0) (Zm Q 0 0) 194 [some (.inr (some (10, 0))), some (.inl (nI a)), some (.inl (nI b)), some (.inl (nI n)), some (.inl (nI i)), l5, l6] [] (mH g I A3) 0 0) ?_ 0 (by omega) 0 rfl (by omega)
          intro i hi ih n hn hnb
          refine X_run 2 (pc' := 197) (L' := [some (.inr (some (10, 0))), some (.inl (nI a)), some (.inl (nI b)), some (.inl (nI n)), some (.inl (nI i)), l5, l6]) (st' := [.inl (4), .inl (nI i)]) rfl ?_
          refine X_ic_ge (tgt := 216) (nx := 200) rfl rfl rfl (fun h5 => ?_) (fun h5 => ?_)
          · have h5 := li_le (a := 4) (by decide) (by omega) h5
            have ei : i = 4 := by omega
            rw [ei] at hn
            refine X_run 1 (pc' := 217) (L' := [some (.inr (some (10, 0))), some (.inl (nI a)), some (.inl (nI b)), some (.inl (nI n)), some (.inl (nI i)), l5, l6]) (st' := [.inl (nI n)]) rfl ?_
            exact X_iret rfl rfl rfl (Nat.le_refl _) (Nat.le_refl _) (by rw [hn]; exact hq A3 hM3)
          · have h5 := li_nle (a := 4) (by decide) (by omega) h5
            refine X_run 4 (pc' := 205) (L' := [some (.inr (some (10, 0))), some (.inl (nI a)), some (.inl (nI b)), some (.inl (nI n)), some (.inl (nI i)), l5, l6]) (st' := [.inl (nI i), .inl (nI a), .inr (some (10, 0)), .inl (nI n)]) rfl ?_
            refine X_callV (vs := [.inl (nI a), .inl (nI i)]) (st := [.inl (nI n)]) (mc := 0) (ms := 0) rfl ok_Mo_known v_Mo_82 rfl rfl rfl (Nat.le_of_ble_eq_true rfl) (Nat.le_of_ble_eq_true rfl) (Nat.le_of_ble_eq_true rfl) (Nat.le_of_ble_eq_true rfl) (Nat.le_of_ble_eq_true rfl) (Nat.le_of_ble_eq_true rfl) rfl ?_
            refine c_Mo_known (by omega) h5 ?_
            show X M_Mo_meet _ _ 208 [some (.inr (some (10, 0))), some (.inl (nI a)), some (.inl (nI b)), some (.inl (nI n)), some (.inl (nI i)), l5, l6] [.inl (A3 9 (20 * a + i)), .inl (nI n)] (mH g I A3) 0 0
            refine X_eq (st' := [.inl (nI (mtV σ a b a i)), .inl (nI n)]) rfl (congrArg (fun z => Sum.inl z :: _) (by rw [show 20 * a + i = 16 * a + 4 * a + i by omega, hM3.2.2.2.2.1 a a i (by omega) (by omega) h5]; show nI (if a = a ∨ a = b then _ else _) = _; rw [if_pos (Or.inl rfl)])) rfl ?_
            refine X_run 4 (pc' := 194) (L' := [some (.inr (some (10, 0))), some (.inl (nI a)), some (.inl (nI b)), some (.inl ((nI n) + (nI (mtV σ a b a i)))), some (.inl (nI i + 1)), l5, l6]) (st' := []) rfl ?_
            refine X_eq (L' := [some (.inr (some (10, 0))), some (.inl (nI a)), some (.inl (nI b)), some (.inl (nI (n + mtV σ a b a i))), some (.inl (nI i + 1)), l5, l6]) (congrArg (fun z : Int32 => ([some (.inr (some (10, 0))), some (.inl (nI a)), some (.inl (nI b)), some (.inl z), some (.inl (nI i + 1)), l5, l6] : List (Option AV))) (by first | rfl | (simp only [il_0, il_1, il_2, il_3, il_4, il_5, il_6, il_7, il_16, il_20, il_40, il_160, pk_mul, nI_add]; done) | (simp only [il_0, il_1, il_2, il_3, il_4, il_5, il_6, il_7, il_16, il_20, il_40, il_160, pk_mul, nI_add]; exact congrArg nI (by omega)))) rfl rfl ?_
            refine X_eq (L' := [some (.inr (some (10, 0))), some (.inl (nI a)), some (.inl (nI b)), some (.inl (nI (n + mtV σ a b a i))), some (.inl (nI (i + 1))), l5, l6]) (congrArg (fun z : Int32 => ([some (.inr (some (10, 0))), some (.inl (nI a)), some (.inl (nI b)), some (.inl (nI (n + mtV σ a b a i))), some (.inl z), l5, l6] : List (Option AV))) (by first | rfl | (simp only [il_0, il_1, il_2, il_3, il_4, il_5, il_6, il_7, il_16, il_20, il_40, il_160, pk_mul, nI_add]; done) | (simp only [il_0, il_1, il_2, il_3, il_4, il_5, il_6, il_7, il_16, il_20, il_40, il_160, pk_mul, nI_add]; exact congrArg nI (by omega)))) rfl rfl ?_
            refine ih h5 _ ?_ (by have := hb4 i; omega)
            rw [List.range_succ, List.foldl_append, ← hn]
            rfl
        -- what both know goes to both
        have copy : ∀ (A2 : Nat → Nat → Int32) (l4 l5 l6 : Option AV), (∀ k, k ≠ 19 → A2 k = A k) → (∀ j, j < 16 → A2 19 j = nI (mtV σ a b (j / 4) (j % 4))) → X M_Mo_meet (rmo M_Mo_meet 0 0) (Zm Q 0 0) 135 [some (.inr (some (10, 0))), some (.inl (nI a)), some (.inl (nI b)), some (.inl (nI 4)), l4, l5, l6] [] (mH g I A2) 0 0 := by
          intro A2 l4 l5 l6 hk2 h19
          refine X_run 4 (pc' := 140) (L' := [some (.inr (some (10, 0))), some (.inl (nI a)), some (.inl (nI b)), some (.inl (0)), some (.inl (0)), l5, l6]) (st' := []) rfl ?_
          refine X_eq (L' := [some (.inr (some (10, 0))), some (.inl (nI a)), some (.inl (nI b)), some (.inl (nI (0))), some (.inl (0)), l5, l6]) (congrArg (fun z : Int32 => ([some (.inr (some (10, 0))), some (.inl (nI a)), some (.inl (nI b)), some (.inl z), some (.inl (0)), l5, l6] : List (Option AV))) (by first | rfl | (simp only [il_0, il_1, il_2, il_3, il_4, il_5, il_6, il_7, il_16, il_20, il_40, il_160, pk_mul, nI_add]; done) | (simp only [il_0, il_1, il_2, il_3, il_4, il_5, il_6, il_7, il_16, il_20, il_40, il_160, pk_mul, nI_add]; exact congrArg nI (by omega)))) rfl rfl ?_
          refine X_eq (L' := [some (.inr (some (10, 0))), some (.inl (nI a)), some (.inl (nI b)), some (.inl (nI (0))), some (.inl (nI (0))), l5, l6]) (congrArg (fun z : Int32 => ([some (.inr (some (10, 0))), some (.inl (nI a)), some (.inl (nI b)), some (.inl (nI (0))), some (.inl z), l5, l6] : List (Option AV))) (by first | rfl | (simp only [il_0, il_1, il_2, il_3, il_4, il_5, il_6, il_7, il_16, il_20, il_40, il_160, pk_mul, nI_add]; done) | (simp only [il_0, il_1, il_2, il_3, il_4, il_5, il_6, il_7, il_16, il_20, il_40, il_160, pk_mul, nI_add]; exact congrArg nI (by omega)))) rfl rfl ?_
          refine up_ind 16 (fun i => ∀ (A3 : Nat → Nat → Int32), (∀ k, k ≠ 9 → A3 k = A2 k) → (∀ j, A3 9 j = if 16 * a ≤ j ∧ j < 16 * a + i then A2 19 (j - 16 * a) else if 16 * b ≤ j ∧ j < 16 * b + i then A2 19 (j - 16 * b) else A2 9 j) → X M_Mo_meet (rmo M_Mo_meet 0 0) (Zm Q 0 0) 140 [some (.inr (some (10, 0))), some (.inl (nI a)), some (.inl (nI b)), some (.inl (nI 0)), some (.inl (nI i)), l5, l6] [] (mH g I A3) 0 0) ?_ 0 (by omega) A2 (fun _ _ => rfl) (fun j => by rw [if_neg (by omega), if_neg (by omega)])
          intro i hi ih A3 hk3 h9
          refine X_run 2 (pc' := 144) (L' := [some (.inr (some (10, 0))), some (.inl (nI a)), some (.inl (nI b)), some (.inl (nI 0)), some (.inl (nI i)), l5, l6]) (st' := [.inl (16), .inl (nI i)]) rfl ?_
          refine X_ic_ge (tgt := 191) (nx := 147) rfl rfl rfl (fun h5 => ?_) (fun h5 => ?_)
          · have h5 := li_le (a := 16) (by decide) (by omega) h5
            have ei : i = 16 := by omega
            rw [ei] at h9
            refine X_run 2 (pc' := 194) (L' := [some (.inr (some (10, 0))), some (.inl (nI a)), some (.inl (nI b)), some (.inl (nI 0)), some (.inl (0)), l5, l6]) (st' := []) rfl ?_
            refine X_eq (L' := [some (.inr (some (10, 0))), some (.inl (nI a)), some (.inl (nI b)), some (.inl (nI 0)), some (.inl (nI (0))), l5, l6]) (congrArg (fun z : Int32 => ([some (.inr (some (10, 0))), some (.inl (nI a)), some (.inl (nI b)), some (.inl (nI 0)), some (.inl z), l5, l6] : List (Option AV))) (by first | rfl | (simp only [il_0, il_1, il_2, il_3, il_4, il_5, il_6, il_7, il_16, il_20, il_40, il_160, pk_mul, nI_add]; done) | (simp only [il_0, il_1, il_2, il_3, il_4, il_5, il_6, il_7, il_16, il_20, il_40, il_160, pk_mul, nI_add]; exact congrArg nI (by omega)))) rfl rfl ?_
            refine last A3 _ _ ⟨⟨⟨hM.1.1.1, fun d f e => ?_, hM.1.1.2.2⟩, fun x hx => ?_⟩, hM.2.1, hM.2.2.1, fun d hd => ?_, fun d f e hd hf he => ?_, hM.2.2.2.2.2.1, hM.2.2.2.2.2.2⟩
            · show (if d = a ∨ d = b then mtV σ a b f e else rk σ d f e) ≤ 40
              split
              · exact mtV_le b40 a b f e
              · exact b40 d f e
            · rw [hk3 3 (by omega), hk3 4 (by omega), hk3 5 (by omega), hk3 6 (by omega), hk3 7 (by omega), hk3 8 (by omega), hk2 3 (by omega), hk2 4 (by omega), hk2 5 (by omega), hk2 6 (by omega), hk2 7 (by omega), hk2 8 (by omega)]
              exact hM.1.2 x hx
            · rw [hk3 2 (by omega), hk2 2 (by omega), hM.2.2.2.1 d hd]
              show _ = nI (if d = a ∨ d = b then mtV σ a b d d else rk σ d d d)
              by_cases q : d = a ∨ d = b
              · rw [if_pos q]
                unfold mtV
                rw [if_pos q]
                have k1 := hK b b a
                have k2 := hK a a b
                rcases q with q | q
                · rw [q, Nat.max_eq_left k1]
                · rw [q, Nat.max_eq_right k2]
              · rw [if_neg q]
            · show _ = nI (if d = a ∨ d = b then mtV σ a b f e else rk σ d f e)
              rw [h9]
              by_cases q1 : d = a
              · rw [if_pos (by omega), if_pos (Or.inl q1), h19 _ (by omega), q1]
                rw [show (16 * a + 4 * f + e - 16 * a) / 4 = f by omega, show (16 * a + 4 * f + e - 16 * a) % 4 = e by omega]
              · by_cases q2 : d = b
                · rw [if_neg (by omega), if_pos (by omega), if_pos (Or.inr q2), h19 _ (by omega), q2]
                  rw [show (16 * b + 4 * f + e - 16 * b) / 4 = f by omega, show (16 * b + 4 * f + e - 16 * b) % 4 = e by omega]
                · rw [if_neg (by omega), if_neg (by omega), if_neg (by rintro (q | q) <;> contradiction), hk2 9 (by omega)]
                  exact hr d f e hd hf he
          · have h5 := li_nle (a := 16) (by decide) (by omega) h5
            refine X_run 1 (pc' := 148) (L' := [some (.inr (some (10, 0))), some (.inl (nI a)), some (.inl (nI b)), some (.inl (nI 0)), some (.inl (nI i)), l5, l6]) (st' := [.inr (some (10, 0))]) rfl ?_
            refine XM_get (v := .inr (some (11, 9))) rfl f_Mo_31 rfl rfl ?_
            refine X_run 5 (pc' := 158) (L' := [some (.inr (some (10, 0))), some (.inl (nI a)), some (.inl (nI b)), some (.inl (nI 0)), some (.inl (nI i)), l5, l6]) (st' := [.inl ((16 * (nI a)) + (nI i)), .inr (some (11, 9))]) rfl ?_
            refine X_eq (st' := [.inl (nI (16 * a + i)), .inr (some (11, 9))]) rfl (congrArg (fun z => Sum.inl z :: _) (by first | rfl | (simp only [il_0, il_1, il_2, il_3, il_4, il_5, il_6, il_7, il_16, il_20, il_40, il_160, pk_mul, nI_add]; done) | (simp only [il_0, il_1, il_2, il_3, il_4, il_5, il_6, il_7, il_16, il_20, il_40, il_160, pk_mul, nI_add]; exact congrArg nI (by omega)))) rfl ?_
            refine X_run 1 (pc' := 159) (L' := [some (.inr (some (10, 0))), some (.inl (nI a)), some (.inl (nI b)), some (.inl (nI 0)), some (.inl (nI i)), l5, l6]) (st' := [.inr (some (10, 0)), .inl (nI (16 * a + i)), .inr (some (11, 9))]) rfl ?_
            refine XM_get (v := .inr (some (11, 19))) rfl f_Mo_57 rfl rfl ?_
            refine X_run 1 (pc' := 164) (L' := [some (.inr (some (10, 0))), some (.inl (nI a)), some (.inl (nI b)), some (.inl (nI 0)), some (.inl (nI i)), l5, l6]) (st' := [.inl (nI i), .inr (some (11, 19)), .inl (nI (16 * a + i)), .inr (some (11, 9))]) rfl ?_
            refine XM_ald (k := 19) (i := i) rfl (by decide) (by simp only [mln]; omega) rfl ?_
            refine XM_ast (k := 9) (i := (16 * a + i)) rfl (by decide) (by simp only [mln]; omega) rfl ?_
            refine X_run 1 (pc' := 167) (L' := [some (.inr (some (10, 0))), some (.inl (nI a)), some (.inl (nI b)), some (.inl (nI 0)), some (.inl (nI i)), l5, l6]) (st' := [.inr (some (10, 0))]) rfl ?_
            refine XM_get (v := .inr (some (11, 9))) rfl f_Mo_31 rfl rfl ?_
            refine X_run 5 (pc' := 177) (L' := [some (.inr (some (10, 0))), some (.inl (nI a)), some (.inl (nI b)), some (.inl (nI 0)), some (.inl (nI i)), l5, l6]) (st' := [.inl ((16 * (nI b)) + (nI i)), .inr (some (11, 9))]) rfl ?_
            refine X_eq (st' := [.inl (nI (16 * b + i)), .inr (some (11, 9))]) rfl (congrArg (fun z => Sum.inl z :: _) (by first | rfl | (simp only [il_0, il_1, il_2, il_3, il_4, il_5, il_6, il_7, il_16, il_20, il_40, il_160, pk_mul, nI_add]; done) | (simp only [il_0, il_1, il_2, il_3, il_4, il_5, il_6, il_7, il_16, il_20, il_40, il_160, pk_mul, nI_add]; exact congrArg nI (by omega)))) rfl ?_
            refine X_run 1 (pc' := 178) (L' := [some (.inr (some (10, 0))), some (.inl (nI a)), some (.inl (nI b)), some (.inl (nI 0)), some (.inl (nI i)), l5, l6]) (st' := [.inr (some (10, 0)), .inl (nI (16 * b + i)), .inr (some (11, 9))]) rfl ?_
            refine XM_get (v := .inr (some (11, 19))) rfl f_Mo_57 rfl rfl ?_
            refine X_run 1 (pc' := 183) (L' := [some (.inr (some (10, 0))), some (.inl (nI a)), some (.inl (nI b)), some (.inl (nI 0)), some (.inl (nI i)), l5, l6]) (st' := [.inl (nI i), .inr (some (11, 19)), .inl (nI (16 * b + i)), .inr (some (11, 9))]) rfl ?_
            refine XM_ald (k := 19) (i := i) rfl (by decide) (by simp only [mln]; omega) rfl ?_
            refine XM_ast (k := 9) (i := (16 * b + i)) rfl (by decide) (by simp only [mln]; omega) rfl ?_
            refine X_run 2 (pc' := 140) (L' := [some (.inr (some (10, 0))), some (.inl (nI a)), some (.inl (nI b)), some (.inl (nI 0)), some (.inl (nI i + 1)), l5, l6]) (st' := []) rfl ?_
            refine X_eq (L' := [some (.inr (some (10, 0))), some (.inl (nI a)), some (.inl (nI b)), some (.inl (nI 0)), some (.inl (nI (i + 1))), l5, l6]) (congrArg (fun z : Int32 => ([some (.inr (some (10, 0))), some (.inl (nI a)), some (.inl (nI b)), some (.inl (nI 0)), some (.inl z), l5, l6] : List (Option AV))) (by first | rfl | (simp only [il_0, il_1, il_2, il_3, il_4, il_5, il_6, il_7, il_16, il_20, il_40, il_160, pk_mul, nI_add]; done) | (simp only [il_0, il_1, il_2, il_3, il_4, il_5, il_6, il_7, il_16, il_20, il_40, il_160, pk_mul, nI_add]; exact congrArg nI (by omega)))) rfl rfl ?_
            refine ih h5 _ (fun k hk => by funext j; rw [ua_k hk, ua_k hk, hk3 k hk]) (fun j => ?_)
            have e19 : ∀ A4 : Nat → Nat → Int32, ∀ x y, ua A4 9 x y 19 i = A4 19 i := fun A4 x y => ua_k (by omega)
            rw [e19, hk3 19 (by omega)]
            by_cases q1 : j = 16 * b + i
            · rw [q1, ua_eq, if_neg (by omega), if_pos (by omega)]
              exact congrArg (A2 19) (by omega)
            · rw [ua_i q1]
              by_cases q2 : j = 16 * a + i
              · rw [q2, ua_eq, if_pos (by omega)]
                exact congrArg (A2 19) (by omega)
              · rw [ua_i q2, h9]
                have g1 : (16 * a ≤ j ∧ j < 16 * a + (i + 1)) = (16 * a ≤ j ∧ j < 16 * a + i) := propext (by omega)
                have g2 : (16 * b ≤ j ∧ j < 16 * b + (i + 1)) = (16 * b ≤ j ∧ j < 16 * b + i) := propext (by omega)
                simp only [g1, g2]
        refine X_run 2 (pc' := 25) (L' := [some (.inr (some (10, 0))), some (.inl (nI a)), some (.inl (nI b)), some (.inl (0)), none, none, none]) (st' := []) rfl ?_
        refine X_eq (L' := [some (.inr (some (10, 0))), some (.inl (nI a)), some (.inl (nI b)), some (.inl (nI (0))), none, none, none]) (congrArg (fun z : Int32 => ([some (.inr (some (10, 0))), some (.inl (nI a)), some (.inl (nI b)), some (.inl z), none, none, none] : List (Option AV))) (by first | rfl | (simp only [il_0, il_1, il_2, il_3, il_4, il_5, il_6, il_7, il_16, il_20, il_40, il_160, pk_mul, nI_add]; done) | (simp only [il_0, il_1, il_2, il_3, il_4, il_5, il_6, il_7, il_16, il_20, il_40, il_160, pk_mul, nI_add]; exact congrArg nI (by omega)))) rfl rfl ?_
        refine up_ind 4 (fun i => ∀ (A2 : Nat → Nat → Int32) (l4 l5 l6 : Option AV), (∀ k, k ≠ 19 → A2 k = A k) → (∀ j, j < 16 → j % 4 < i → A2 19 j = nI (mtV σ a b (j / 4) (j % 4))) → X M_Mo_meet (rmo M_Mo_meet 0 0) (Zm Q 0 0) 25 [some (.inr (some (10, 0))), some (.inl (nI a)), some (.inl (nI b)), some (.inl (nI i)), l4, l5, l6] [] (mH g I A2) 0 0) ?_ 0 (by omega) A none none none (fun _ _ => rfl) (fun j _ hj => by omega)
        intro i hi ih A2 l4 l5 l6 hk2 h19
        refine X_run 2 (pc' := 27) (L' := [some (.inr (some (10, 0))), some (.inl (nI a)), some (.inl (nI b)), some (.inl (nI i)), l4, l5, l6]) (st' := [.inl (4), .inl (nI i)]) rfl ?_
        refine X_ic_ge (tgt := 135) (nx := 30) rfl rfl rfl (fun h5 => ?_) (fun h5 => ?_)
        · have h5 := li_le (a := 4) (by decide) (by omega) h5
          have ei : i = 4 := by omega
          rw [ei]
          exact copy A2 _ _ _ hk2 (fun j hj => h19 j hj (by omega))
        · have h5 := li_nle (a := 4) (by decide) (by omega) h5
          have ra := b40 a a i
          have rb := b40 b b i
          refine X_run 3 (pc' := 33) (L' := [some (.inr (some (10, 0))), some (.inl (nI a)), some (.inl (nI b)), some (.inl (nI i)), l4, l5, l6]) (st' := [.inl (nI i), .inl (nI a), .inr (some (10, 0))]) rfl ?_
          refine X_callV (vs := [.inl (nI a), .inl (nI i)]) (st := []) (mc := 0) (ms := 0) rfl ok_Mo_known v_Mo_82 rfl rfl rfl (Nat.le_of_ble_eq_true rfl) (Nat.le_of_ble_eq_true rfl) (Nat.le_of_ble_eq_true rfl) (Nat.le_of_ble_eq_true rfl) (Nat.le_of_ble_eq_true rfl) (Nat.le_of_ble_eq_true rfl) rfl ?_
          refine c_Mo_known (by omega) h5 ?_
          show X M_Mo_meet _ _ 36 [some (.inr (some (10, 0))), some (.inl (nI a)), some (.inl (nI b)), some (.inl (nI i)), l4, l5, l6] [.inl (A2 9 (20 * a + i))] (mH g I A2) 0 0
          refine X_eq (st' := [.inl (nI (rk σ a a i))]) rfl (congrArg (fun z => Sum.inl z :: _) (by rw [hk2 9 (by omega), show 20 * a + i = 16 * a + 4 * a + i by omega]; exact hr a a i (by omega) (by omega) h5)) rfl ?_
          refine X_run 3 (pc' := 39) (L' := [some (.inr (some (10, 0))), some (.inl (nI a)), some (.inl (nI b)), some (.inl (nI i)), l4, l5, l6]) (st' := [.inl (nI i), .inl (nI b), .inr (some (10, 0)), .inl (nI (rk σ a a i))]) rfl ?_
          refine X_callV (vs := [.inl (nI b), .inl (nI i)]) (st := [.inl (nI (rk σ a a i))]) (mc := 0) (ms := 0) rfl ok_Mo_known v_Mo_82 rfl rfl rfl (Nat.le_of_ble_eq_true rfl) (Nat.le_of_ble_eq_true rfl) (Nat.le_of_ble_eq_true rfl) (Nat.le_of_ble_eq_true rfl) (Nat.le_of_ble_eq_true rfl) (Nat.le_of_ble_eq_true rfl) rfl ?_
          refine c_Mo_known (by omega) h5 ?_
          show X M_Mo_meet _ _ 42 [some (.inr (some (10, 0))), some (.inl (nI a)), some (.inl (nI b)), some (.inl (nI i)), l4, l5, l6] [.inl (A2 9 (20 * b + i)), .inl (nI (rk σ a a i))] (mH g I A2) 0 0
          refine X_eq (st' := [.inl (nI (rk σ b b i)), .inl (nI (rk σ a a i))]) rfl (congrArg (fun z => Sum.inl z :: _) (by rw [hk2 9 (by omega), show 20 * b + i = 16 * b + 4 * b + i by omega]; exact hr b b i (by omega) (by omega) h5)) rfl ?_
          refine X_callS (vs := [.inl (nI (rk σ a a i)), .inl (nI (rk σ b b i))]) (st := []) (mc := 0) (ms := 0) rfl ok_Mo_greater s_Mo_85 rfl rfl (Nat.le_of_ble_eq_true rfl) (Nat.le_of_ble_eq_true rfl) (Nat.le_of_ble_eq_true rfl) (Nat.le_of_ble_eq_true rfl) (Nat.le_of_ble_eq_true rfl) (Nat.le_of_ble_eq_true rfl) rfl ?_
          refine c_Mo_greater (by omega) (by omega) ?_
          show X M_Mo_meet _ _ 45 [some (.inr (some (10, 0))), some (.inl (nI a)), some (.inl (nI b)), some (.inl (nI i)), l4, l5, l6] [.inl (nI (max (rk σ a a i) (rk σ b b i)))] (mH g I A2) 0 0
          refine X_run 3 (pc' := 50) (L' := [some (.inr (some (10, 0))), some (.inl (nI a)), some (.inl (nI b)), some (.inl (nI i)), some (.inl (nI (max (rk σ a a i) (rk σ b b i)))), some (.inl (0)), l6]) (st' := []) rfl ?_
          refine X_eq (L' := [some (.inr (some (10, 0))), some (.inl (nI a)), some (.inl (nI b)), some (.inl (nI i)), some (.inl (nI (max (rk σ a a i) (rk σ b b i)))), some (.inl (nI (0))), l6]) (congrArg (fun z : Int32 => ([some (.inr (some (10, 0))), some (.inl (nI a)), some (.inl (nI b)), some (.inl (nI i)), some (.inl (nI (max (rk σ a a i) (rk σ b b i)))), some (.inl z), l6] : List (Option AV))) (by first | rfl | (simp only [il_0, il_1, il_2, il_3, il_4, il_5, il_6, il_7, il_16, il_20, il_40, il_160, pk_mul, nI_add]; done) | (simp only [il_0, il_1, il_2, il_3, il_4, il_5, il_6, il_7, il_16, il_20, il_40, il_160, pk_mul, nI_add]; exact congrArg nI (by omega)))) rfl rfl ?_
          refine up_ind 4 (fun f => ∀ (A3 : Nat → Nat → Int32) (l6 : Option AV), (∀ k, k ≠ 19 → A3 k = A k) → (∀ j, j < 16 → j % 4 < i ∨ (j % 4 = i ∧ j / 4 < f) → A3 19 j = nI (mtV σ a b (j / 4) (j % 4))) → X M_Mo_meet (rmo M_Mo_meet 0 0) (Zm Q 0 0) 50 [some (.inr (some (10, 0))), some (.inl (nI a)), some (.inl (nI b)), some (.inl (nI i)), some (.inl (nI (max (rk σ a a i) (rk σ b b i)))), some (.inl (nI f)), l6] [] (mH g I A3) 0 0) ?_ 0 (by omega) A2 l6 hk2 (fun j hj hh => h19 j hj (by omega))
          intro f hf ih2 A3 l6 hk3 h193
          refine X_run 2 (pc' := 53) (L' := [some (.inr (some (10, 0))), some (.inl (nI a)), some (.inl (nI b)), some (.inl (nI i)), some (.inl (nI (max (rk σ a a i) (rk σ b b i)))), some (.inl (nI f)), l6]) (st' := [.inl (4), .inl (nI f)]) rfl ?_
          refine X_ic_ge (tgt := 129) (nx := 56) rfl rfl rfl (fun h6 => ?_) (fun h6 => ?_)
          · have h6 := li_le (a := 4) (by decide) (by omega) h6
            refine X_run 2 (pc' := 25) (L' := [some (.inr (some (10, 0))), some (.inl (nI a)), some (.inl (nI b)), some (.inl (nI i + 1)), some (.inl (nI (max (rk σ a a i) (rk σ b b i)))), some (.inl (nI f)), l6]) (st' := []) rfl ?_
            refine X_eq (L' := [some (.inr (some (10, 0))), some (.inl (nI a)), some (.inl (nI b)), some (.inl (nI (i + 1))), some (.inl (nI (max (rk σ a a i) (rk σ b b i)))), some (.inl (nI f)), l6]) (congrArg (fun z : Int32 => ([some (.inr (some (10, 0))), some (.inl (nI a)), some (.inl (nI b)), some (.inl z), some (.inl (nI (max (rk σ a a i) (rk σ b b i)))), some (.inl (nI f)), l6] : List (Option AV))) (by first | rfl | (simp only [il_0, il_1, il_2, il_3, il_4, il_5, il_6, il_7, il_16, il_20, il_40, il_160, pk_mul, nI_add]; done) | (simp only [il_0, il_1, il_2, il_3, il_4, il_5, il_6, il_7, il_16, il_20, il_40, il_160, pk_mul, nI_add]; exact congrArg nI (by omega)))) rfl rfl ?_
            exact ih h5 A3 _ _ _ hk3 (fun j hj hh => h193 j hj (by omega))
          · have h6 := li_nle (a := 4) (by decide) (by omega) h6
            have next : ∀ y : Int32, y = nI (mtV σ a b f i) → X M_Mo_meet (rmo M_Mo_meet 0 0) (Zm Q 0 0) 108 [some (.inr (some (10, 0))), some (.inl (nI a)), some (.inl (nI b)), some (.inl (nI i)), some (.inl (nI (max (rk σ a a i) (rk σ b b i)))), some (.inl (nI f)), l6] [.inl y] (mH g I A3) 0 0 := by
              intro y hy
              refine X_run 2 (pc' := 111) (L' := [some (.inr (some (10, 0))), some (.inl (nI a)), some (.inl (nI b)), some (.inl (nI i)), some (.inl (nI (max (rk σ a a i) (rk σ b b i)))), some (.inl (nI f)), some (.inl (y))]) (st' := [.inr (some (10, 0))]) rfl ?_
              refine XM_get (v := .inr (some (11, 19))) rfl f_Mo_57 rfl rfl ?_
              refine X_run 6 (pc' := 122) (L' := [some (.inr (some (10, 0))), some (.inl (nI a)), some (.inl (nI b)), some (.inl (nI i)), some (.inl (nI (max (rk σ a a i) (rk σ b b i)))), some (.inl (nI f)), some (.inl (y))]) (st' := [.inl (y), .inl ((4 * (nI f)) + (nI i)), .inr (some (11, 19))]) rfl ?_
              refine X_eq (st' := [.inl (y), .inl (nI (4 * f + i)), .inr (some (11, 19))]) rfl (congrArg (fun z : Int32 => ([.inl (y), .inl z, .inr (some (11, 19))] : List AV)) (by first | rfl | (simp only [il_0, il_1, il_2, il_3, il_4, il_5, il_6, il_7, il_16, il_20, il_40, il_160, pk_mul, nI_add]; done) | (simp only [il_0, il_1, il_2, il_3, il_4, il_5, il_6, il_7, il_16, il_20, il_40, il_160, pk_mul, nI_add]; exact congrArg nI (by omega)))) rfl ?_
              refine XM_ast (k := 19) (i := (4 * f + i)) rfl (by decide) (by simp only [mln]; omega) rfl ?_
              refine X_run 2 (pc' := 50) (L' := [some (.inr (some (10, 0))), some (.inl (nI a)), some (.inl (nI b)), some (.inl (nI i)), some (.inl (nI (max (rk σ a a i) (rk σ b b i)))), some (.inl (nI f + 1)), some (.inl (y))]) (st' := []) rfl ?_
              refine X_eq (L' := [some (.inr (some (10, 0))), some (.inl (nI a)), some (.inl (nI b)), some (.inl (nI i)), some (.inl (nI (max (rk σ a a i) (rk σ b b i)))), some (.inl (nI (f + 1))), some (.inl (y))]) (congrArg (fun z : Int32 => ([some (.inr (some (10, 0))), some (.inl (nI a)), some (.inl (nI b)), some (.inl (nI i)), some (.inl (nI (max (rk σ a a i) (rk σ b b i)))), some (.inl z), some (.inl (y))] : List (Option AV))) (by first | rfl | (simp only [il_0, il_1, il_2, il_3, il_4, il_5, il_6, il_7, il_16, il_20, il_40, il_160, pk_mul, nI_add]; done) | (simp only [il_0, il_1, il_2, il_3, il_4, il_5, il_6, il_7, il_16, il_20, il_40, il_160, pk_mul, nI_add]; exact congrArg nI (by omega)))) rfl rfl ?_
              refine ih2 h6 _ _ (fun k hk => by funext j; rw [ua_k hk, hk3 k hk]) (fun j hj hh => ?_)
              by_cases q : j = 4 * f + i
              · rw [q, ua_eq, hy, show (4 * f + i) / 4 = f by omega, show (4 * f + i) % 4 = i by omega]
              · rw [ua_i q]
                exact h193 j hj (by omega)
            refine X_run 2 (pc' := 59) (L' := [some (.inr (some (10, 0))), some (.inl (nI a)), some (.inl (nI b)), some (.inl (nI i)), some (.inl (nI (max (rk σ a a i) (rk σ b b i)))), some (.inl (nI f)), l6]) (st' := [.inl (nI a), .inl (nI f)]) rfl ?_
            refine X_ic_eq (tgt := 68) (nx := 62) rfl rfl rfl (fun h7 => ?_) (fun h7 => ?_)
            · have h7 := li_eq (by omega) (by omega) h7
              refine X_run 2 (pc' := 108) (L' := [some (.inr (some (10, 0))), some (.inl (nI a)), some (.inl (nI b)), some (.inl (nI i)), some (.inl (nI (max (rk σ a a i) (rk σ b b i)))), some (.inl (nI f)), l6]) (st' := [.inl (nI (max (rk σ a a i) (rk σ b b i)))]) rfl ?_
              exact next _ (by unfold mtV; rw [if_pos (Or.inl h7)])
            · have h7 := li_ne h7
              refine X_run 2 (pc' := 65) (L' := [some (.inr (some (10, 0))), some (.inl (nI a)), some (.inl (nI b)), some (.inl (nI i)), some (.inl (nI (max (rk σ a a i) (rk σ b b i)))), some (.inl (nI f)), l6]) (st' := [.inl (nI b), .inl (nI f)]) rfl ?_
              refine X_ic_ne (tgt := 73) (nx := 68) rfl rfl rfl (fun h8 => ?_) (fun h8 => ?_)
              · have h8 := li_ne h8
                have r1 := b40 a f i
                have r2 := b40 b f i
                refine X_run 1 (pc' := 74) (L' := [some (.inr (some (10, 0))), some (.inl (nI a)), some (.inl (nI b)), some (.inl (nI i)), some (.inl (nI (max (rk σ a a i) (rk σ b b i)))), some (.inl (nI f)), l6]) (st' := [.inr (some (10, 0))]) rfl ?_
                refine XM_get (v := .inr (some (11, 9))) rfl f_Mo_31 rfl rfl ?_
                refine X_run 9 (pc' := 88) (L' := [some (.inr (some (10, 0))), some (.inl (nI a)), some (.inl (nI b)), some (.inl (nI i)), some (.inl (nI (max (rk σ a a i) (rk σ b b i)))), some (.inl (nI f)), l6]) (st' := [.inl (((16 * (nI a)) + (4 * (nI f))) + (nI i)), .inr (some (11, 9))]) rfl ?_
                refine X_eq (st' := [.inl (nI (16 * a + 4 * f + i)), .inr (some (11, 9))]) rfl (congrArg (fun z => Sum.inl z :: _) (by first | rfl | (simp only [il_0, il_1, il_2, il_3, il_4, il_5, il_6, il_7, il_16, il_20, il_40, il_160, pk_mul, nI_add]; done) | (simp only [il_0, il_1, il_2, il_3, il_4, il_5, il_6, il_7, il_16, il_20, il_40, il_160, pk_mul, nI_add]; exact congrArg nI (by omega)))) rfl ?_
                refine XM_ald (k := 9) (i := (16 * a + 4 * f + i)) rfl (by decide) (by simp only [mln]; omega) rfl ?_
                refine X_eq (st' := [.inl (nI (rk σ a f i))]) rfl (congrArg (fun z => Sum.inl z :: _) (by rw [hk3 9 (by omega)]; exact hr a f i (by omega) h6 h5)) rfl ?_
                refine X_run 1 (pc' := 90) (L' := [some (.inr (some (10, 0))), some (.inl (nI a)), some (.inl (nI b)), some (.inl (nI i)), some (.inl (nI (max (rk σ a a i) (rk σ b b i)))), some (.inl (nI f)), l6]) (st' := [.inr (some (10, 0)), .inl (nI (rk σ a f i))]) rfl ?_
                refine XM_get (v := .inr (some (11, 9))) rfl f_Mo_31 rfl rfl ?_
                refine X_run 9 (pc' := 104) (L' := [some (.inr (some (10, 0))), some (.inl (nI a)), some (.inl (nI b)), some (.inl (nI i)), some (.inl (nI (max (rk σ a a i) (rk σ b b i)))), some (.inl (nI f)), l6]) (st' := [.inl (((16 * (nI b)) + (4 * (nI f))) + (nI i)), .inr (some (11, 9)), .inl (nI (rk σ a f i))]) rfl ?_
                refine X_eq (st' := [.inl (nI (16 * b + 4 * f + i)), .inr (some (11, 9)), .inl (nI (rk σ a f i))]) rfl (congrArg (fun z => Sum.inl z :: _) (by first | rfl | (simp only [il_0, il_1, il_2, il_3, il_4, il_5, il_6, il_7, il_16, il_20, il_40, il_160, pk_mul, nI_add]; done) | (simp only [il_0, il_1, il_2, il_3, il_4, il_5, il_6, il_7, il_16, il_20, il_40, il_160, pk_mul, nI_add]; exact congrArg nI (by omega)))) rfl ?_
                refine XM_ald (k := 9) (i := (16 * b + 4 * f + i)) rfl (by decide) (by simp only [mln]; omega) rfl ?_
                refine X_eq (st' := [.inl (nI (rk σ b f i)), .inl (nI (rk σ a f i))]) rfl (congrArg (fun z => Sum.inl z :: _) (by rw [hk3 9 (by omega)]; exact hr b f i (by omega) h6 h5)) rfl ?_
                refine X_callS (vs := [.inl (nI (rk σ a f i)), .inl (nI (rk σ b f i))]) (st := []) (mc := 0) (ms := 0) rfl ok_Mo_greater s_Mo_85 rfl rfl (Nat.le_of_ble_eq_true rfl) (Nat.le_of_ble_eq_true rfl) (Nat.le_of_ble_eq_true rfl) (Nat.le_of_ble_eq_true rfl) (Nat.le_of_ble_eq_true rfl) (Nat.le_of_ble_eq_true rfl) rfl ?_
                refine c_Mo_greater (by omega) (by omega) ?_
                show X M_Mo_meet _ _ 108 [some (.inr (some (10, 0))), some (.inl (nI a)), some (.inl (nI b)), some (.inl (nI i)), some (.inl (nI (max (rk σ a a i) (rk σ b b i)))), some (.inl (nI f)), l6] [.inl (nI (max (rk σ a f i) (rk σ b f i)))] (mH g I A3) 0 0
                exact next _ (by unfold mtV; rw [if_neg (by rintro (q | q) <;> contradiction)])
              · have h8 := li_eq (by omega) (by omega) h8
                refine X_run 2 (pc' := 108) (L' := [some (.inr (some (10, 0))), some (.inl (nI a)), some (.inl (nI b)), some (.inl (nI i)), some (.inl (nI (max (rk σ a a i) (rk σ b b i)))), some (.inl (nI f)), l6]) (st' := [.inl (nI (max (rk σ a a i) (rk σ b b i)))]) rfl ?_
                exact next _ (by unfold mtV; rw [if_pos (Or.inr h8)])
      · refine X_run 1 (pc' := 22) (L' := [some (.inr (some (10, 0))), some (.inl (a)), some (.inl (b)), none, none, none, none]) (st' := [.inl (-1)]) rfl ?_
        exact X_iret rfl rfl rfl (Nat.le_refl _) (Nat.le_refl _) (no (by rw [show decide (a ≠ b) = false from decide_eq_false (fun q => q h3), Bool.and_false]))
theorem c_Mo_device {f : Int32} (hM : MB σ I A) (hK : ∀ d f e, rk σ d f e ≤ rk σ e e e)
    (hq : ∀ (I' : Nat → Int32) (A' : Nat → Nat → Int32), MB (sDev σ f).1 I' A' → Q (some (.inl (sDev σ f).2)) (mH g I' A')) : X M_Mo_device (rmo M_Mo_device 0 0) (Zm Q 0 0) 0 (ini M_Mo_device [mo, .inl f]) [] (mH g I A) 0 0 := by
  have h4 := hM.1.1.1
  have no : sDev σ f = (σ, -1) → Q (some (.inl (-1))) (mH g I A) := by
    intro h
    have := hq I A
    rw [h] at this
    exact this hM
  have go : nd σ ≠ 4 → (f = -1 → nd σ = 0) → (f ≠ -1 → isD σ f = true) → X M_Mo_device (rmo M_Mo_device 0 0) (Zm Q 0 0) 33 [some (.inr (some (10, 0))), some (.inl f), none] [] (mH g I A) 0 0 := by
    intro g1 g2 g3
    refine X_run 2 (pc' := 35) (L' := [some (.inr (some (10, 0))), some (.inl (f)), none]) (st' := [.inr (some (10, 0)), .inr (some (10, 0))]) rfl ?_
    refine XM_get (v := .inl (I 1)) rfl f_Mo_67 rfl rfl ?_
    refine X_eq (st' := [.inl (nI (nd σ)), .inr (some (10, 0))]) rfl (congrArg (fun z => Sum.inl z :: _) hM.2.2.1) rfl ?_
    refine X_run 2 (pc' := 40) (L' := [some (.inr (some (10, 0))), some (.inl (f)), none]) (st' := [.inl ((nI (nd σ)) + 1), .inr (some (10, 0))]) rfl ?_
    refine X_eq (st' := [.inl (nI (nd σ + 1)), .inr (some (10, 0))]) rfl (congrArg (fun z => Sum.inl z :: _) (by first | rfl | (simp only [il_0, il_1, il_2, il_3, il_4, il_5, il_6, il_7, il_16, il_20, il_40, il_160, pk_mul, nI_add]; done) | (simp only [il_0, il_1, il_2, il_3, il_4, il_5, il_6, il_7, il_16, il_20, il_40, il_160, pk_mul, nI_add]; exact congrArg nI (by omega)))) rfl ?_
    refine XM_put (k := 1) rfl f_Mo_67 (by decide) (by decide) rfl ?_
    generalize hI1e : upd I 1 (nI (nd σ + 1)) = I1
    have hI1 : I1 1 = nI (nd σ + 1) := by rw [← hI1e]; rfl
    have hIk : ∀ k, k ≠ 1 → I1 k = I k := fun k hk => by rw [← hI1e]; simp [upd, hk]
    have hM1 : MB (addD σ) I1 A := ⟨⟨⟨by show nd σ + 1 ≤ 4; omega, hM.1.1.2⟩, hM.1.2⟩, (hIk 0 (by omega)).trans hM.2.1, hI1, hM.2.2.2.1, hM.2.2.2.2.1, (hIk 10 (by omega)).trans hM.2.2.2.2.2.1, (hIk 11 (by omega)).trans hM.2.2.2.2.2.2⟩
    refine X_run 2 (pc' := 45) (L' := [some (.inr (some (10, 0))), some (.inl (f)), none]) (st' := [.inl (-1), .inl (f)]) rfl ?_
    refine X_ic_eq (tgt := 60) (nx := 48) rfl rfl rfl (fun h1 => ?_) (fun h1 => ?_)
    · have e : sDev σ f = (addD σ, nI (nd σ)) := by
        unfold sDev
        rw [if_neg g1, if_pos h1, if_neg (by have := g2 h1; omega)]
      rw [e] at hq
      refine X_run 1 (pc' := 61) (L' := [some (.inr (some (10, 0))), some (.inl (f)), none]) (st' := [.inr (some (10, 0))]) rfl ?_
      refine XM_get (v := .inl (I1 1)) rfl f_Mo_67 rfl rfl ?_
      refine X_eq (st' := [.inl (nI (nd σ + 1))]) rfl (congrArg (fun z => Sum.inl z :: _) hI1) rfl ?_
      refine X_run 2 (pc' := 66) (L' := [some (.inr (some (10, 0))), some (.inl (f)), none]) (st' := [.inl ((nI (nd σ + 1)) - 1)]) rfl ?_
      refine X_eq (st' := [.inl (nI (nd σ))]) rfl (congrArg (fun z => Sum.inl z :: _) (nI_pred _)) rfl ?_
      exact X_iret rfl rfl rfl (Nat.le_refl _) (Nat.le_refl _) (hq I1 A hM1)
    · have hD := g3 h1
      obtain ⟨k, hk, rfl⟩ := isD_t hD
      have hck : (nI k).toNatClampNeg = k := nI_clamp (by omega)
      have hcn : (nI (nd σ)).toNatClampNeg = nd σ := nI_clamp (by omega)
      have e : sDev σ (nI k) = (mtS (addD σ) (nd σ) k, nI (nd σ)) := by
        unfold sDev
        rw [if_neg g1, if_neg h1, hD, hck]
        rfl
      rw [e] at hq
      have e2 : (sMeet (addD σ) (nI (nd σ)) (nI k)).1 = mtS (addD σ) (nd σ) k := by
        unfold sMeet
        have d1 : isD (addD σ) (nI (nd σ)) = true := by rw [isD_nI (by omega)]; exact decide_eq_true (by show nd σ < nd σ + 1; omega)
        have d2 : isD (addD σ) (nI k) = true := by rw [isD_nI (by omega)]; exact decide_eq_true (by show k < nd σ + 1; omega)
        rw [d1, d2, show decide (nI (nd σ) ≠ nI k) = true from decide_eq_true (fun q => by have := li_eq (by omega) (by omega) q; omega), hcn, hck]
        rfl
      refine X_run 2 (pc' := 50) (L' := [some (.inr (some (10, 0))), some (.inl (nI k)), none]) (st' := [.inr (some (10, 0)), .inr (some (10, 0))]) rfl ?_
      refine XM_get (v := .inl (I1 1)) rfl f_Mo_67 rfl rfl ?_
      refine X_eq (st' := [.inl (nI (nd σ + 1)), .inr (some (10, 0))]) rfl (congrArg (fun z => Sum.inl z :: _) hI1) rfl ?_
      refine X_run 2 (pc' := 55) (L' := [some (.inr (some (10, 0))), some (.inl (nI k)), none]) (st' := [.inl ((nI (nd σ + 1)) - 1), .inr (some (10, 0))]) rfl ?_
      refine X_eq (st' := [.inl (nI (nd σ)), .inr (some (10, 0))]) rfl (congrArg (fun z => Sum.inl z :: _) (nI_pred _)) rfl ?_
      refine X_run 1 (pc' := 56) (L' := [some (.inr (some (10, 0))), some (.inl (nI k)), none]) (st' := [.inl (nI k), .inl (nI (nd σ)), .inr (some (10, 0))]) rfl ?_
      refine X_callV (vs := [.inl (nI (nd σ)), .inl (nI k)]) (st := []) (mc := 0) (ms := 0) rfl ok_Mo_meet v_Mo_78 rfl rfl rfl (Nat.le_of_ble_eq_true rfl) (Nat.le_of_ble_eq_true rfl) (Nat.le_of_ble_eq_true rfl) (Nat.le_of_ble_eq_true rfl) (Nat.le_of_ble_eq_true rfl) (Nat.le_of_ble_eq_true rfl) rfl ?_
      refine c_Mo_meet hM1 hK (fun A2 hM2 => ?_)
      rw [e2] at hM2
      show X M_Mo_device _ _ 59 [some (.inr (some (10, 0))), some (.inl (nI k)), none] [.inl ((sMeet (addD σ) (nI (nd σ)) (nI k)).2)] (mH g I1 A2) 0 0
      refine X_run 2 (pc' := 61) (L' := [some (.inr (some (10, 0))), some (.inl (nI k)), some (.inl ((sMeet (addD σ) (nI (nd σ)) (nI k)).2))]) (st' := [.inr (some (10, 0))]) rfl ?_
      refine XM_get (v := .inl (I1 1)) rfl f_Mo_67 rfl rfl ?_
      refine X_eq (st' := [.inl (nI (nd σ + 1))]) rfl (congrArg (fun z => Sum.inl z :: _) hI1) rfl ?_
      refine X_run 2 (pc' := 66) (L' := [some (.inr (some (10, 0))), some (.inl (nI k)), some (.inl ((sMeet (addD σ) (nI (nd σ)) (nI k)).2))]) (st' := [.inl ((nI (nd σ + 1)) - 1)]) rfl ?_
      refine X_eq (st' := [.inl (nI (nd σ))]) rfl (congrArg (fun z => Sum.inl z :: _) (nI_pred _)) rfl ?_
      exact X_iret rfl rfl rfl (Nat.le_refl _) (Nat.le_refl _) (hq I1 A2 hM2)
  show X M_Mo_device _ _ 0 [some (.inr (some (10, 0))), some (.inl (f)), none] [] (mH g I A) 0 0
  refine X_run 1 (pc' := 1) (L' := [some (.inr (some (10, 0))), some (.inl (f)), none]) (st' := [.inr (some (10, 0))]) rfl ?_
  refine XM_get (v := .inl (I 1)) rfl f_Mo_67 rfl rfl ?_
  refine X_eq (st' := [.inl (nI (nd σ))]) rfl (congrArg (fun z => Sum.inl z :: _) hM.2.2.1) rfl ?_
  refine X_run 1 (pc' := 5) (L' := [some (.inr (some (10, 0))), some (.inl (f)), none]) (st' := [.inl (4), .inl (nI (nd σ))]) rfl ?_
  refine X_ic_eq (tgt := 31) (nx := 8) rfl rfl rfl (fun h1 => ?_) (fun h1 => ?_)
  · have h1 := li_eq (b := 4) (by omega) (by decide) h1
    refine X_run 1 (pc' := 32) (L' := [some (.inr (some (10, 0))), some (.inl (f)), none]) (st' := [.inl (-1)]) rfl ?_
    exact X_iret rfl rfl rfl (Nat.le_refl _) (Nat.le_refl _) (no (by unfold sDev; rw [if_pos h1]))
  · have h1 := li_ne (b := 4) h1
    refine X_run 2 (pc' := 10) (L' := [some (.inr (some (10, 0))), some (.inl (f)), none]) (st' := [.inl (-1), .inl (f)]) rfl ?_
    refine X_ic_ne (tgt := 23) (nx := 13) rfl rfl rfl (fun h2 => ?_) (fun h2 => ?_)
    · refine X_run 2 (pc' := 25) (L' := [some (.inr (some (10, 0))), some (.inl (f)), none]) (st' := [.inl (f), .inr (some (10, 0))]) rfl ?_
      refine X_callV (vs := [.inl (f)]) (st := []) (mc := 0) (ms := 0) rfl ok_Mo_isDevice v_Mo_74 rfl rfl rfl (Nat.le_of_ble_eq_true rfl) (Nat.le_of_ble_eq_true rfl) (Nat.le_of_ble_eq_true rfl) (Nat.le_of_ble_eq_true rfl) (Nat.le_of_ble_eq_true rfl) (Nat.le_of_ble_eq_true rfl) rfl ?_
      refine c_Mo_isDevice hM.2.2.1 hM.1.1.1 ?_
      show X M_Mo_device _ _ 28 [some (.inr (some (10, 0))), some (.inl (f)), none] [.inl (b2i (isD σ f))] (mH g I A) 0 0
      refine X_if_ne (tgt := 33) (nx := 31) rfl rfl rfl (fun h3 => ?_) (fun h3 => ?_)
      · rw [b2i_n0] at h3
        exact go h1 (fun q => absurd q h2) (fun _ => h3)
      · rw [b2i_0] at h3
        refine X_run 1 (pc' := 32) (L' := [some (.inr (some (10, 0))), some (.inl (f)), none]) (st' := [.inl (-1)]) rfl ?_
        exact X_iret rfl rfl rfl (Nat.le_refl _) (Nat.le_refl _) (no (by unfold sDev; rw [if_neg h1, if_neg h2, h3]; rfl))
    · refine X_run 1 (pc' := 14) (L' := [some (.inr (some (10, 0))), some (.inl (f)), none]) (st' := [.inr (some (10, 0))]) rfl ?_
      refine XM_get (v := .inl (I 1)) rfl f_Mo_67 rfl rfl ?_
      refine X_eq (st' := [.inl (nI (nd σ))]) rfl (congrArg (fun z => Sum.inl z :: _) hM.2.2.1) rfl ?_
      refine X_if_le (tgt := 33) (nx := 20) rfl rfl rfl (fun h3 => ?_) (fun h3 => ?_)
      · have h3 := li_le (b := 0) (by omega) (by decide) h3
        exact go h1 (fun _ => by omega) (fun q => absurd h2 q)
      · have h3 := li_nle (b := 0) (by omega) (by decide) h3
        refine X_run 2 (pc' := 32) (L' := [some (.inr (some (10, 0))), some (.inl (f)), none]) (st' := [.inl (-1)]) rfl ?_
        exact X_iret rfl rfl rfl (Nat.le_refl _) (Nat.le_refl _) (no (by unfold sDev; rw [if_neg h1, if_pos h2, if_pos h3]))
theorem c_Mo_knows4 {d e f w : Int32} (hM : MB σ I A) (hq : Q (some (.inl (sKnows σ d e f w))) (mH g I A)) : X M_Mo_knows4 (rmo M_Mo_knows4 0 0) (Zm Q 0 0) 0 (ini M_Mo_knows4 [mo, .inl d, .inl e, .inl f, .inl w]) [] (mH g I A) 0 0 := by
  have h4 := hM.1.1.1
  have no : (isD σ d && isD σ e && decide (0 ≤ w.toInt ∧ w.toInt ≤ 1) && (decide (w ≠ 1) || isD σ f)) = false → Q (some (.inl (-1))) (mH g I A) := by
    intro h
    unfold sKnows at hq
    rw [h] at hq
    exact hq
  show X M_Mo_knows4 _ _ 0 [some (.inr (some (10, 0))), some (.inl (d)), some (.inl (e)), some (.inl (f)), some (.inl (w))] [] (mH g I A) 0 0
  refine X_run 2 (pc' := 2) (L' := [some (.inr (some (10, 0))), some (.inl (d)), some (.inl (e)), some (.inl (f)), some (.inl (w))]) (st' := [.inl (d), .inr (some (10, 0))]) rfl ?_
  refine X_callV (vs := [.inl (d)]) (st := []) (mc := 0) (ms := 0) rfl ok_Mo_isDevice v_Mo_74 rfl rfl rfl (Nat.le_of_ble_eq_true rfl) (Nat.le_of_ble_eq_true rfl) (Nat.le_of_ble_eq_true rfl) (Nat.le_of_ble_eq_true rfl) (Nat.le_of_ble_eq_true rfl) (Nat.le_of_ble_eq_true rfl) rfl ?_
  refine c_Mo_isDevice hM.2.2.1 hM.1.1.1 ?_
  show X M_Mo_knows4 _ _ 5 [some (.inr (some (10, 0))), some (.inl (d)), some (.inl (e)), some (.inl (f)), some (.inl (w))] [.inl (b2i (isD σ d))] (mH g I A) 0 0
  refine X_if_eq (tgt := 40) (nx := 8) rfl rfl rfl (fun h1 => ?_) (fun h1 => ?_)
  · rw [b2i_0] at h1
    refine X_run 1 (pc' := 41) (L' := [some (.inr (some (10, 0))), some (.inl (d)), some (.inl (e)), some (.inl (f)), some (.inl (w))]) (st' := [.inl (-1)]) rfl ?_
    exact X_iret rfl rfl rfl (Nat.le_refl _) (Nat.le_refl _) (no (by rw [h1]; rfl))
  · rw [b2i_n0] at h1
    refine X_run 2 (pc' := 10) (L' := [some (.inr (some (10, 0))), some (.inl (d)), some (.inl (e)), some (.inl (f)), some (.inl (w))]) (st' := [.inl (e), .inr (some (10, 0))]) rfl ?_
    refine X_callV (vs := [.inl (e)]) (st := []) (mc := 0) (ms := 0) rfl ok_Mo_isDevice v_Mo_74 rfl rfl rfl (Nat.le_of_ble_eq_true rfl) (Nat.le_of_ble_eq_true rfl) (Nat.le_of_ble_eq_true rfl) (Nat.le_of_ble_eq_true rfl) (Nat.le_of_ble_eq_true rfl) (Nat.le_of_ble_eq_true rfl) rfl ?_
    refine c_Mo_isDevice hM.2.2.1 hM.1.1.1 ?_
    show X M_Mo_knows4 _ _ 13 [some (.inr (some (10, 0))), some (.inl (d)), some (.inl (e)), some (.inl (f)), some (.inl (w))] [.inl (b2i (isD σ e))] (mH g I A) 0 0
    refine X_if_eq (tgt := 40) (nx := 16) rfl rfl rfl (fun h2 => ?_) (fun h2 => ?_)
    · rw [b2i_0] at h2
      refine X_run 1 (pc' := 41) (L' := [some (.inr (some (10, 0))), some (.inl (d)), some (.inl (e)), some (.inl (f)), some (.inl (w))]) (st' := [.inl (-1)]) rfl ?_
      exact X_iret rfl rfl rfl (Nat.le_refl _) (Nat.le_refl _) (no (by rw [h2, Bool.and_false]; rfl))
    · rw [b2i_n0] at h2
      refine X_run 3 (pc' := 20) (L' := [some (.inr (some (10, 0))), some (.inl (d)), some (.inl (e)), some (.inl (f)), some (.inl (w))]) (st' := [.inl (1), .inl (0), .inl (w)]) rfl ?_
      refine X_callS (vs := [.inl (w), .inl (0), .inl (1)]) (st := []) (mc := 0) (ms := 0) rfl ok_Mo_in s_Mo_70 rfl rfl (Nat.le_of_ble_eq_true rfl) (Nat.le_of_ble_eq_true rfl) (Nat.le_of_ble_eq_true rfl) (Nat.le_of_ble_eq_true rfl) (Nat.le_of_ble_eq_true rfl) (Nat.le_of_ble_eq_true rfl) rfl ?_
      refine c_Mo_in ?_
      show X M_Mo_knows4 _ _ 23 [some (.inr (some (10, 0))), some (.inl (d)), some (.inl (e)), some (.inl (f)), some (.inl (w))] [.inl (b2i (decide ((0 : Int32) ≤ w ∧ w ≤ 1)))] (mH g I A) 0 0
      refine X_eq (st' := [.inl (b2i (decide (0 ≤ w.toInt ∧ w.toInt ≤ 1)))]) rfl (congrArg (fun z => Sum.inl z :: _) (congrArg b2i (in_dec rfl rfl))) rfl ?_
      refine X_if_eq (tgt := 40) (nx := 26) rfl rfl rfl (fun h3 => ?_) (fun h3 => ?_)
      · rw [b2i_0] at h3
        refine X_run 1 (pc' := 41) (L' := [some (.inr (some (10, 0))), some (.inl (d)), some (.inl (e)), some (.inl (f)), some (.inl (w))]) (st' := [.inl (-1)]) rfl ?_
        exact X_iret rfl rfl rfl (Nat.le_refl _) (Nat.le_refl _) (no (by rw [h3, Bool.and_false]; rfl))
      · rw [b2i_n0] at h3
        have yes : (decide (w ≠ 1) || isD σ f) = true → X M_Mo_knows4 (rmo M_Mo_knows4 0 0) (Zm Q 0 0) 42 [some (.inr (some (10, 0))), some (.inl d), some (.inl e), some (.inl f), some (.inl w)] [] (mH g I A) 0 0 := by
          intro h5
          obtain ⟨a, ha, rfl⟩ := isD_t h1
          obtain ⟨b, hb, rfl⟩ := isD_t h2
          have hca : (nI a).toNatClampNeg = a := nI_clamp (by omega)
          have hcb : (nI b).toNatClampNeg = b := nI_clamp (by omega)
          unfold sKnows at hq
          rw [h1, h2, h3, h5, hca, hcb] at hq
          refine X_run 1 (pc' := 44) (L' := [some (.inr (some (10, 0))), some (.inl (nI a)), some (.inl (nI b)), some (.inl (f)), some (.inl (w))]) (st' := [.inl (w)]) rfl ?_
          refine X_if_ne (tgt := 56) (nx := 47) rfl rfl rfl (fun h6 => ?_) (fun h6 => ?_)
          · have hw1 : w = 1 := by
              have h7 := of_decide_eq_true h3
              have h8 : w.toInt ≠ 0 := fun q => h6 (by rw [← Int32.toInt_inj, q]; rfl)
              rw [← Int32.toInt_inj]
              show w.toInt = 1
              omega
            have hf : isD σ f = true := by simpa [hw1] using h5
            obtain ⟨z, hz, rfl⟩ := isD_t hf
            have hcz : (nI z).toNatClampNeg = z := nI_clamp (by omega)
            rw [hcz] at hq
            have hq : Q (some (.inl (if w = 0 then nI (rk σ a a b) else nI (rk σ a z b)))) (mH g I A) := hq
            rw [if_neg h6] at hq
            refine X_run 1 (pc' := 57) (L' := [some (.inr (some (10, 0))), some (.inl (nI a)), some (.inl (nI b)), some (.inl (nI z)), some (.inl (w))]) (st' := [.inr (some (10, 0))]) rfl ?_
            refine XM_get (v := .inr (some (11, 9))) rfl f_Mo_31 rfl rfl ?_
            refine X_run 9 (pc' := 70) (L' := [some (.inr (some (10, 0))), some (.inl (nI a)), some (.inl (nI b)), some (.inl (nI z)), some (.inl (w))]) (st' := [.inl (((16 * (nI a)) + (4 * (nI z))) + (nI b)), .inr (some (11, 9))]) rfl ?_
            refine X_eq (st' := [.inl (nI (16 * a + 4 * z + b)), .inr (some (11, 9))]) rfl (congrArg (fun z => Sum.inl z :: _) (by first | rfl | (simp only [il_0, il_1, il_2, il_3, il_4, il_5, il_6, il_7, il_16, il_20, il_40, il_160, pk_mul, nI_add]; done) | (simp only [il_0, il_1, il_2, il_3, il_4, il_5, il_6, il_7, il_16, il_20, il_40, il_160, pk_mul, nI_add]; exact congrArg nI (by omega)))) rfl ?_
            refine XM_ald (k := 9) (i := (16 * a + 4 * z + b)) rfl (by decide) (by simp only [mln]; omega) rfl ?_
            exact X_iret rfl rfl rfl (Nat.le_refl _) (Nat.le_refl _) (by rw [hM.2.2.2.2.1 a z b (by omega) (by omega) (by omega)]; exact hq)
          · have hq : Q (some (.inl (if w = 0 then nI (rk σ a a b) else nI (rk σ a f.toNatClampNeg b)))) (mH g I A) := hq
            rw [if_pos h6] at hq
            refine X_run 3 (pc' := 50) (L' := [some (.inr (some (10, 0))), some (.inl (nI a)), some (.inl (nI b)), some (.inl (f)), some (.inl (w))]) (st' := [.inl (nI b), .inl (nI a), .inr (some (10, 0))]) rfl ?_
            refine X_callV (vs := [.inl (nI a), .inl (nI b)]) (st := []) (mc := 0) (ms := 0) rfl ok_Mo_known v_Mo_82 rfl rfl rfl (Nat.le_of_ble_eq_true rfl) (Nat.le_of_ble_eq_true rfl) (Nat.le_of_ble_eq_true rfl) (Nat.le_of_ble_eq_true rfl) (Nat.le_of_ble_eq_true rfl) (Nat.le_of_ble_eq_true rfl) rfl ?_
            refine c_Mo_known (by omega) (by omega) ?_
            show X M_Mo_knows4 _ _ 53 [some (.inr (some (10, 0))), some (.inl (nI a)), some (.inl (nI b)), some (.inl (f)), some (.inl (w))] [.inl (A 9 (20 * a + b))] (mH g I A) 0 0
            refine X_run 1 (pc' := 71) (L' := [some (.inr (some (10, 0))), some (.inl (nI a)), some (.inl (nI b)), some (.inl (f)), some (.inl (w))]) (st' := [.inl (A 9 (20 * a + b))]) rfl ?_
            exact X_iret rfl rfl rfl (Nat.le_refl _) (Nat.le_refl _) (by rw [show 20 * a + b = 16 * a + 4 * a + b by omega, hM.2.2.2.2.1 a a b (by omega) (by omega) (by omega)]; exact hq)
        refine X_run 2 (pc' := 29) (L' := [some (.inr (some (10, 0))), some (.inl (d)), some (.inl (e)), some (.inl (f)), some (.inl (w))]) (st' := [.inl (1), .inl (w)]) rfl ?_
        refine X_ic_ne (tgt := 42) (nx := 32) rfl rfl rfl (fun h5 => ?_) (fun h5 => ?_)
        · exact yes (by rw [show decide (w ≠ 1) = true from decide_eq_true h5]; rfl)
        · refine X_run 2 (pc' := 34) (L' := [some (.inr (some (10, 0))), some (.inl (d)), some (.inl (e)), some (.inl (f)), some (.inl (w))]) (st' := [.inl (f), .inr (some (10, 0))]) rfl ?_
          refine X_callV (vs := [.inl (f)]) (st := []) (mc := 0) (ms := 0) rfl ok_Mo_isDevice v_Mo_74 rfl rfl rfl (Nat.le_of_ble_eq_true rfl) (Nat.le_of_ble_eq_true rfl) (Nat.le_of_ble_eq_true rfl) (Nat.le_of_ble_eq_true rfl) (Nat.le_of_ble_eq_true rfl) (Nat.le_of_ble_eq_true rfl) rfl ?_
          refine c_Mo_isDevice hM.2.2.1 hM.1.1.1 ?_
          show X M_Mo_knows4 _ _ 37 [some (.inr (some (10, 0))), some (.inl (d)), some (.inl (e)), some (.inl (f)), some (.inl (w))] [.inl (b2i (isD σ f))] (mH g I A) 0 0
          refine X_if_ne (tgt := 42) (nx := 40) rfl rfl rfl (fun h6 => ?_) (fun h6 => ?_)
          · rw [b2i_n0] at h6
            exact yes (by rw [h6, Bool.or_true])
          · rw [b2i_0] at h6
            refine X_run 1 (pc' := 41) (L' := [some (.inr (some (10, 0))), some (.inl (d)), some (.inl (e)), some (.inl (f)), some (.inl (w))]) (st' := [.inl (-1)]) rfl ?_
            exact X_iret rfl rfl rfl (Nat.le_refl _) (Nat.le_refl _) (no (by rw [h6, show decide (w ≠ 1) = false from decide_eq_false (fun q => q h5)]; simp))
theorem kpA_succ (σ : Sg) (d e k : Nat) : kpA σ d e (k + 1) = if rk σ d k e < kpA σ d e k then rk σ d k e else kpA σ d e k := by
  unfold kpA
  rw [List.range_succ, List.foldl_append]
  rfl
theorem kpA_le (σ : Sg) (d e k : Nat) : kpA σ d e k ≤ rk σ d d e := by
  induction k with
  | zero => exact Nat.le_refl _
  | succ k ih =>
    rw [kpA_succ]
    split <;> omega
theorem kpN_succ (σ : Sg) (d k : Nat) : kpN σ d (k + 1) = kpN σ d k + (rk σ d d k - kpA σ d k (nd σ)) := by
  unfold kpN
  rw [List.range_succ, List.foldl_append]
  rfl
theorem kpN_le {σ : Sg} (h : ∀ d f e, rk σ d f e ≤ 40) (d k : Nat) : kpN σ d k ≤ 40 * k := by
  induction k with
  | zero => exact Nat.le_refl _
  | succ k ih =>
    rw [kpN_succ]
    have := h d d k
    omega
theorem c_Mo_keeps {d : Int32} (hM : MB σ I A) (hq : Q (some (.inl (sKeeps σ d))) (mH g I A)) : X M_Mo_keeps (rmo M_Mo_keeps 0 0) (Zm Q 0 0) 0 (ini M_Mo_keeps [mo, .inl d]) [] (mH g I A) 0 0 := by
  have h4 := hM.1.1.1
  have b40 := hM.1.1.2.1
  have hr := hM.2.2.2.2.1
  show X M_Mo_keeps _ _ 0 [some (.inr (some (10, 0))), some (.inl (d)), none, none, none, none] [] (mH g I A) 0 0
  refine X_run 2 (pc' := 2) (L' := [some (.inr (some (10, 0))), some (.inl (d)), none, none, none, none]) (st' := [.inl (d), .inr (some (10, 0))]) rfl ?_
  refine X_callV (vs := [.inl (d)]) (st := []) (mc := 0) (ms := 0) rfl ok_Mo_isDevice v_Mo_74 rfl rfl rfl (Nat.le_of_ble_eq_true rfl) (Nat.le_of_ble_eq_true rfl) (Nat.le_of_ble_eq_true rfl) (Nat.le_of_ble_eq_true rfl) (Nat.le_of_ble_eq_true rfl) (Nat.le_of_ble_eq_true rfl) rfl ?_
  refine c_Mo_isDevice hM.2.2.1 hM.1.1.1 ?_
  show X M_Mo_keeps _ _ 5 [some (.inr (some (10, 0))), some (.inl (d)), none, none, none, none] [.inl (b2i (isD σ d))] (mH g I A) 0 0
  refine X_if_ne (tgt := 10) (nx := 8) rfl rfl rfl (fun h1 => ?_) (fun h1 => ?_)
  · rw [b2i_n0] at h1
    obtain ⟨a, ha, rfl⟩ := isD_t h1
    have hca : (nI a).toNatClampNeg = a := nI_clamp (by omega)
    unfold sKeeps at hq
    rw [h1, hca] at hq
    have hq : Q (some (.inl (nI (kpN σ a (nd σ))))) (mH g I A) := hq
    refine X_run 4 (pc' := 14) (L' := [some (.inr (some (10, 0))), some (.inl (nI a)), some (.inl (0)), some (.inl (0)), none, none]) (st' := []) rfl ?_
    refine X_eq (L' := [some (.inr (some (10, 0))), some (.inl (nI a)), some (.inl (nI (0))), some (.inl (0)), none, none]) (congrArg (fun z : Int32 => ([some (.inr (some (10, 0))), some (.inl (nI a)), some (.inl z), some (.inl (0)), none, none] : List (Option AV))) (by first | rfl | (simp only [il_0, il_1, il_2, il_3, il_4, il_5, il_6, il_7, il_16, il_20, il_40, il_160, pk_mul, nI_add]; done) | (simp only [il_0, il_1, il_2, il_3, il_4, il_5, il_6, il_7, il_16, il_20, il_40, il_160, pk_mul, nI_add]; exact congrArg nI (by omega)))) rfl rfl ?_
    refine X_eq (L' := [some (.inr (some (10, 0))), some (.inl (nI a)), some (.inl (nI (0))), some (.inl (nI (0))), none, none]) (congrArg (fun z : Int32 => ([some (.inr (some (10, 0))), some (.inl (nI a)), some (.inl (nI (0))), some (.inl z), none, none] : List (Option AV))) (by first | rfl | (simp only [il_0, il_1, il_2, il_3, il_4, il_5, il_6, il_7, il_16, il_20, il_40, il_160, pk_mul, nI_add]; done) | (simp only [il_0, il_1, il_2, il_3, il_4, il_5, il_6, il_7, il_16, il_20, il_40, il_160, pk_mul, nI_add]; exact congrArg nI (by omega)))) rfl rfl ?_
    refine up_ind (nd σ) (fun i => ∀ (l4 l5 : Option AV), X M_Mo_keeps (rmo M_Mo_keeps 0 0) (Zm Q 0 0) 14 [some (.inr (some (10, 0))), some (.inl (nI a)), some (.inl (nI (kpN σ a i))), some (.inl (nI i)), l4, l5] [] (mH g I A) 0 0) ?_ 0 (by omega) none none
    intro i hi ih l4 l5
    refine X_run 2 (pc' := 16) (L' := [some (.inr (some (10, 0))), some (.inl (nI a)), some (.inl (nI (kpN σ a i))), some (.inl (nI i)), l4, l5]) (st' := [.inr (some (10, 0)), .inl (nI i)]) rfl ?_
    refine XM_get (v := .inl (I 1)) rfl f_Mo_67 rfl rfl ?_
    refine X_eq (st' := [.inl (nI (nd σ)), .inl (nI i)]) rfl (congrArg (fun z => Sum.inl z :: _) hM.2.2.1) rfl ?_
    refine X_ic_ge (tgt := 110) (nx := 22) rfl rfl rfl (fun h2 => ?_) (fun h2 => ?_)
    · have h2 := li_le (by omega) (by omega) h2
      have ei : i = nd σ := by omega
      refine X_run 1 (pc' := 111) (L' := [some (.inr (some (10, 0))), some (.inl (nI a)), some (.inl (nI (kpN σ a i))), some (.inl (nI i)), l4, l5]) (st' := [.inl (nI (kpN σ a i))]) rfl ?_
      exact X_iret rfl rfl rfl (Nat.le_refl _) (Nat.le_refl _) (by rw [ei]; exact hq)
    · have h2 := li_nle (by omega) (by omega) h2
      have hkn : A 9 (20 * a + i) = nI (rk σ a a i) := by rw [show 20 * a + i = 16 * a + 4 * a + i by omega]; exact hr a a i (by omega) (by omega) (by omega)
      have bi := b40 a a i
      refine X_run 3 (pc' := 25) (L' := [some (.inr (some (10, 0))), some (.inl (nI a)), some (.inl (nI (kpN σ a i))), some (.inl (nI i)), l4, l5]) (st' := [.inl (nI i), .inl (nI a), .inr (some (10, 0))]) rfl ?_
      refine X_callV (vs := [.inl (nI a), .inl (nI i)]) (st := []) (mc := 0) (ms := 0) rfl ok_Mo_known v_Mo_82 rfl rfl rfl (Nat.le_of_ble_eq_true rfl) (Nat.le_of_ble_eq_true rfl) (Nat.le_of_ble_eq_true rfl) (Nat.le_of_ble_eq_true rfl) (Nat.le_of_ble_eq_true rfl) (Nat.le_of_ble_eq_true rfl) rfl ?_
      refine c_Mo_known (by omega) (by omega) ?_
      show X M_Mo_keeps _ _ 28 [some (.inr (some (10, 0))), some (.inl (nI a)), some (.inl (nI (kpN σ a i))), some (.inl (nI i)), l4, l5] [.inl (A 9 (20 * a + i))] (mH g I A) 0 0
      refine X_eq (st' := [.inl (nI (kpA σ a i 0))]) rfl (congrArg (fun z => Sum.inl z :: _) hkn) rfl ?_
      refine X_run 3 (pc' := 33) (L' := [some (.inr (some (10, 0))), some (.inl (nI a)), some (.inl (nI (kpN σ a i))), some (.inl (nI i)), some (.inl (nI (kpA σ a i 0))), some (.inl (0))]) (st' := []) rfl ?_
      refine X_eq (L' := [some (.inr (some (10, 0))), some (.inl (nI a)), some (.inl (nI (kpN σ a i))), some (.inl (nI i)), some (.inl (nI (kpA σ a i 0))), some (.inl (nI (0)))]) (congrArg (fun z : Int32 => ([some (.inr (some (10, 0))), some (.inl (nI a)), some (.inl (nI (kpN σ a i))), some (.inl (nI i)), some (.inl (nI (kpA σ a i 0))), some (.inl z)] : List (Option AV))) (by first | rfl | (simp only [il_0, il_1, il_2, il_3, il_4, il_5, il_6, il_7, il_16, il_20, il_40, il_160, pk_mul, nI_add]; done) | (simp only [il_0, il_1, il_2, il_3, il_4, il_5, il_6, il_7, il_16, il_20, il_40, il_160, pk_mul, nI_add]; exact congrArg nI (by omega)))) rfl rfl ?_
      refine up_ind (nd σ) (fun f => X M_Mo_keeps (rmo M_Mo_keeps 0 0) (Zm Q 0 0) 33 [some (.inr (some (10, 0))), some (.inl (nI a)), some (.inl (nI (kpN σ a i))), some (.inl (nI i)), some (.inl (nI (kpA σ a i f))), some (.inl (nI f))] [] (mH g I A) 0 0) ?_ 0 (by omega)
      intro f hf ih2
      have ba := kpA_le σ a i f
      refine X_run 2 (pc' := 36) (L' := [some (.inr (some (10, 0))), some (.inl (nI a)), some (.inl (nI (kpN σ a i))), some (.inl (nI i)), some (.inl (nI (kpA σ a i f))), some (.inl (nI f))]) (st' := [.inr (some (10, 0)), .inl (nI f)]) rfl ?_
      refine XM_get (v := .inl (I 1)) rfl f_Mo_67 rfl rfl ?_
      refine X_eq (st' := [.inl (nI (nd σ)), .inl (nI f)]) rfl (congrArg (fun z => Sum.inl z :: _) hM.2.2.1) rfl ?_
      refine X_ic_ge (tgt := 92) (nx := 42) rfl rfl rfl (fun h3 => ?_) (fun h3 => ?_)
      · have h3 := li_le (by omega) (by omega) h3
        have ef : f = nd σ := by omega
        have bn := kpN_le b40 a i
        refine X_run 4 (pc' := 96) (L' := [some (.inr (some (10, 0))), some (.inl (nI a)), some (.inl (nI (kpN σ a i))), some (.inl (nI i)), some (.inl (nI (kpA σ a i f))), some (.inl (nI f))]) (st' := [.inl (nI i), .inl (nI a), .inr (some (10, 0)), .inl (nI (kpN σ a i))]) rfl ?_
        refine X_callV (vs := [.inl (nI a), .inl (nI i)]) (st := [.inl (nI (kpN σ a i))]) (mc := 0) (ms := 0) rfl ok_Mo_known v_Mo_82 rfl rfl rfl (Nat.le_of_ble_eq_true rfl) (Nat.le_of_ble_eq_true rfl) (Nat.le_of_ble_eq_true rfl) (Nat.le_of_ble_eq_true rfl) (Nat.le_of_ble_eq_true rfl) (Nat.le_of_ble_eq_true rfl) rfl ?_
        refine c_Mo_known (by omega) (by omega) ?_
        show X M_Mo_keeps _ _ 99 [some (.inr (some (10, 0))), some (.inl (nI a)), some (.inl (nI (kpN σ a i))), some (.inl (nI i)), some (.inl (nI (kpA σ a i f))), some (.inl (nI f))] [.inl (A 9 (20 * a + i)), .inl (nI (kpN σ a i))] (mH g I A) 0 0
        refine X_eq (st' := [.inl (nI (rk σ a a i)), .inl (nI (kpN σ a i))]) rfl (congrArg (fun z => Sum.inl z :: _) hkn) rfl ?_
        refine X_run 2 (pc' := 102) (L' := [some (.inr (some (10, 0))), some (.inl (nI a)), some (.inl (nI (kpN σ a i))), some (.inl (nI i)), some (.inl (nI (kpA σ a i f))), some (.inl (nI f))]) (st' := [.inl ((nI (rk σ a a i)) - (nI (kpA σ a i f))), .inl (nI (kpN σ a i))]) rfl ?_
        refine X_eq (st' := [.inl (nI (rk σ a a i - kpA σ a i f)), .inl (nI (kpN σ a i))]) rfl (congrArg (fun z => Sum.inl z :: _) (pk_sub ba)) rfl ?_
        refine X_run 4 (pc' := 14) (L' := [some (.inr (some (10, 0))), some (.inl (nI a)), some (.inl ((nI (kpN σ a i)) + (nI (rk σ a a i - kpA σ a i f)))), some (.inl (nI i + 1)), some (.inl (nI (kpA σ a i f))), some (.inl (nI f))]) (st' := []) rfl ?_
        refine X_eq (L' := [some (.inr (some (10, 0))), some (.inl (nI a)), some (.inl (nI (kpN σ a (i + 1)))), some (.inl (nI i + 1)), some (.inl (nI (kpA σ a i f))), some (.inl (nI f))]) (congrArg (fun z : Int32 => ([some (.inr (some (10, 0))), some (.inl (nI a)), some (.inl z), some (.inl (nI i + 1)), some (.inl (nI (kpA σ a i f))), some (.inl (nI f))] : List (Option AV))) (by rw [nI_add, kpN_succ, ef])) rfl rfl ?_
        refine X_eq (L' := [some (.inr (some (10, 0))), some (.inl (nI a)), some (.inl (nI (kpN σ a (i + 1)))), some (.inl (nI (i + 1))), some (.inl (nI (kpA σ a i f))), some (.inl (nI f))]) (congrArg (fun z : Int32 => ([some (.inr (some (10, 0))), some (.inl (nI a)), some (.inl (nI (kpN σ a (i + 1)))), some (.inl z), some (.inl (nI (kpA σ a i f))), some (.inl (nI f))] : List (Option AV))) (by first | rfl | (simp only [il_0, il_1, il_2, il_3, il_4, il_5, il_6, il_7, il_16, il_20, il_40, il_160, pk_mul, nI_add]; done) | (simp only [il_0, il_1, il_2, il_3, il_4, il_5, il_6, il_7, il_16, il_20, il_40, il_160, pk_mul, nI_add]; exact congrArg nI (by omega)))) rfl rfl ?_
        exact ih h2 _ _
      · have h3 := li_nle (by omega) (by omega) h3
        have bf := b40 a f i
        have next : ∀ y : Int32, y = nI (kpA σ a i (f + 1)) → X M_Mo_keeps (rmo M_Mo_keeps 0 0) (Zm Q 0 0) 84 [some (.inr (some (10, 0))), some (.inl (nI a)), some (.inl (nI (kpN σ a i))), some (.inl (nI i)), some (.inl (nI (kpA σ a i f))), some (.inl (nI f))] [.inl y] (mH g I A) 0 0 := by
          intro y hy
          refine X_eq (st' := [.inl (nI (kpA σ a i (f + 1)))]) rfl (congrArg (fun z => Sum.inl z :: _) hy) rfl ?_
          refine X_run 3 (pc' := 33) (L' := [some (.inr (some (10, 0))), some (.inl (nI a)), some (.inl (nI (kpN σ a i))), some (.inl (nI i)), some (.inl (nI (kpA σ a i (f + 1)))), some (.inl (nI f + 1))]) (st' := []) rfl ?_
          refine X_eq (L' := [some (.inr (some (10, 0))), some (.inl (nI a)), some (.inl (nI (kpN σ a i))), some (.inl (nI i)), some (.inl (nI (kpA σ a i (f + 1)))), some (.inl (nI (f + 1)))]) (congrArg (fun z : Int32 => ([some (.inr (some (10, 0))), some (.inl (nI a)), some (.inl (nI (kpN σ a i))), some (.inl (nI i)), some (.inl (nI (kpA σ a i (f + 1)))), some (.inl z)] : List (Option AV))) (by first | rfl | (simp only [il_0, il_1, il_2, il_3, il_4, il_5, il_6, il_7, il_16, il_20, il_40, il_160, pk_mul, nI_add]; done) | (simp only [il_0, il_1, il_2, il_3, il_4, il_5, il_6, il_7, il_16, il_20, il_40, il_160, pk_mul, nI_add]; exact congrArg nI (by omega)))) rfl rfl ?_
          exact ih2 h3
        refine X_run 1 (pc' := 43) (L' := [some (.inr (some (10, 0))), some (.inl (nI a)), some (.inl (nI (kpN σ a i))), some (.inl (nI i)), some (.inl (nI (kpA σ a i f))), some (.inl (nI f))]) (st' := [.inr (some (10, 0))]) rfl ?_
        refine XM_get (v := .inr (some (11, 9))) rfl f_Mo_31 rfl rfl ?_
        refine X_run 9 (pc' := 57) (L' := [some (.inr (some (10, 0))), some (.inl (nI a)), some (.inl (nI (kpN σ a i))), some (.inl (nI i)), some (.inl (nI (kpA σ a i f))), some (.inl (nI f))]) (st' := [.inl (((16 * (nI a)) + (4 * (nI f))) + (nI i)), .inr (some (11, 9))]) rfl ?_
        refine X_eq (st' := [.inl (nI (16 * a + 4 * f + i)), .inr (some (11, 9))]) rfl (congrArg (fun z => Sum.inl z :: _) (by first | rfl | (simp only [il_0, il_1, il_2, il_3, il_4, il_5, il_6, il_7, il_16, il_20, il_40, il_160, pk_mul, nI_add]; done) | (simp only [il_0, il_1, il_2, il_3, il_4, il_5, il_6, il_7, il_16, il_20, il_40, il_160, pk_mul, nI_add]; exact congrArg nI (by omega)))) rfl ?_
        refine XM_ald (k := 9) (i := (16 * a + 4 * f + i)) rfl (by decide) (by simp only [mln]; omega) rfl ?_
        refine X_eq (st' := [.inl (nI (rk σ a f i))]) rfl (congrArg (fun z => Sum.inl z :: _) (hr a f i (by omega) (by omega) (by omega))) rfl ?_
        refine X_run 1 (pc' := 60) (L' := [some (.inr (some (10, 0))), some (.inl (nI a)), some (.inl (nI (kpN σ a i))), some (.inl (nI i)), some (.inl (nI (kpA σ a i f))), some (.inl (nI f))]) (st' := [.inl (nI (kpA σ a i f)), .inl (nI (rk σ a f i))]) rfl ?_
        refine X_ic_ge (tgt := 82) (nx := 63) rfl rfl rfl (fun h5 => ?_) (fun h5 => ?_)
        · have h5 := li_le (by omega) (by omega) h5
          refine X_run 1 (pc' := 84) (L' := [some (.inr (some (10, 0))), some (.inl (nI a)), some (.inl (nI (kpN σ a i))), some (.inl (nI i)), some (.inl (nI (kpA σ a i f))), some (.inl (nI f))]) (st' := [.inl (nI (kpA σ a i f))]) rfl ?_
          exact next _ (by rw [kpA_succ, if_neg (by omega)])
        · have h5 := li_nle (by omega) (by omega) h5
          refine X_run 1 (pc' := 64) (L' := [some (.inr (some (10, 0))), some (.inl (nI a)), some (.inl (nI (kpN σ a i))), some (.inl (nI i)), some (.inl (nI (kpA σ a i f))), some (.inl (nI f))]) (st' := [.inr (some (10, 0))]) rfl ?_
          refine XM_get (v := .inr (some (11, 9))) rfl f_Mo_31 rfl rfl ?_
          refine X_run 9 (pc' := 78) (L' := [some (.inr (some (10, 0))), some (.inl (nI a)), some (.inl (nI (kpN σ a i))), some (.inl (nI i)), some (.inl (nI (kpA σ a i f))), some (.inl (nI f))]) (st' := [.inl (((16 * (nI a)) + (4 * (nI f))) + (nI i)), .inr (some (11, 9))]) rfl ?_
          refine X_eq (st' := [.inl (nI (16 * a + 4 * f + i)), .inr (some (11, 9))]) rfl (congrArg (fun z => Sum.inl z :: _) (by first | rfl | (simp only [il_0, il_1, il_2, il_3, il_4, il_5, il_6, il_7, il_16, il_20, il_40, il_160, pk_mul, nI_add]; done) | (simp only [il_0, il_1, il_2, il_3, il_4, il_5, il_6, il_7, il_16, il_20, il_40, il_160, pk_mul, nI_add]; exact congrArg nI (by omega)))) rfl ?_
          refine XM_ald (k := 9) (i := (16 * a + 4 * f + i)) rfl (by decide) (by simp only [mln]; omega) rfl ?_
          refine X_run 1 (pc' := 84) (L' := [some (.inr (some (10, 0))), some (.inl (nI a)), some (.inl (nI (kpN σ a i))), some (.inl (nI i)), some (.inl (nI (kpA σ a i f))), some (.inl (nI f))]) (st' := [.inl (A 9 (16 * a + 4 * f + i))]) rfl ?_
          exact next _ (by rw [kpA_succ, if_pos h5]; exact hr a f i (by omega) (by omega) (by omega))
  · rw [b2i_0] at h1
    refine X_run 1 (pc' := 9) (L' := [some (.inr (some (10, 0))), some (.inl (d)), none, none, none, none]) (st' := [.inl (-1)]) rfl ?_
    exact X_iret rfl rfl rfl (Nat.le_refl _) (Nat.le_refl _) (by unfold sKeeps at hq; rw [h1] at hq; exact hq)
end

