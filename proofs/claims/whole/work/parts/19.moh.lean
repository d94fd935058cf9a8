/-! stamps; the model's deeds from outside -/
theorem stpK_succ (σ : Sg) (s e k : Nat) : stpK σ s e (k + 1) = if stpK σ s e k ≤ sp σ (40 * e + k) then sp σ (40 * e + k) + 1 else stpK σ s e k := by
  unfold stpK
  rw [List.range_succ, List.foldl_append]
  rfl
theorem stpK_ge (σ : Sg) (s e k : Nat) : s ≤ stpK σ s e k := by
  induction k with
  | zero => exact Nat.le_refl _
  | succ k ih =>
    rw [stpK_succ]
    split
    · omega
    · exact ih
theorem stpK_gt (σ : Sg) (s e k : Nat) : ∀ j, j < k → sp σ (40 * e + j) < stpK σ s e k := by
  induction k with
  | zero => intro j hj; omega
  | succ k ih =>
    intro j hj
    rw [stpK_succ]
    by_cases q : j = k
    · rw [q]
      split
      · omega
      · omega
    · have := ih j (by omega)
      split
      · omega
      · exact this
theorem stpK_le {σ : Sg} {s e k B : Nat} (hs : s ≤ B + 1) (h : ∀ j, j < k → sp σ (40 * e + j) ≤ B) : stpK σ s e k ≤ B + 1 := by
  induction k with
  | zero => exact hs
  | succ k ih =>
    rw [stpK_succ]
    split
    · have := h k (by omega)
      omega
    · exact ih (fun j hj => h j (by omega))
theorem stpE_succ (σ : Sg) (d k : Nat) : stpE σ d (k + 1) = stpK σ (stpE σ d k) k (rk σ d d k) := by
  unfold stpE
  rw [List.range_succ, List.foldl_append]
  rfl
theorem stpE_mono (σ : Sg) (d k m : Nat) : stpE σ d k ≤ stpE σ d (k + m) := by
  induction m with
  | zero => exact Nat.le_refl _
  | succ m ih =>
    rw [show k + (m + 1) = (k + m) + 1 by omega, stpE_succ]
    exact Nat.le_trans ih (stpK_ge _ _ _ _)
theorem stpF_gt {σ : Sg} {d e j : Nat} (he : e < 4) (hj : j < rk σ d d e) : sp σ (40 * e + j) < stpF σ d := by
  have h1 := stpK_gt σ (stpE σ d e) e (rk σ d d e) j hj
  rw [← stpE_succ] at h1
  have h2 := stpE_mono σ d (e + 1) (4 - (e + 1))
  rw [show e + 1 + (4 - (e + 1)) = 4 by omega] at h2
  exact Nat.lt_of_lt_of_le h1 h2
theorem stpF_le {σ : Sg} {d B : Nat} (h : ∀ e j, e < 4 → j < rk σ d d e → sp σ (40 * e + j) ≤ B) : stpF σ d ≤ B + 1 := by
  have key : ∀ k, k ≤ 4 → stpE σ d k ≤ B + 1 := by
    intro k
    induction k with
    | zero => intro _; show 1 ≤ B + 1; omega
    | succ k ih =>
      intro hk
      rw [stpE_succ]
      exact stpK_le (ih (by omega)) (fun j hj => h k j (by omega) hj)
  exact key 4 (by omega)
theorem stpF_pos (σ : Sg) (d : Nat) : 1 ≤ stpF σ d := by
  have := stpE_mono σ d 0 4
  exact this
theorem WF.len {σ : Sg} (h : WF σ) : (ln σ).length ≤ 160 := by
  have h1 := h.2.2.2.2.2.2.2.2.2.2.2.2.1
  have b := h.1.2.1
  have b0 := b 0 0 0
  have b1 := b 1 1 1
  have b2 := b 2 2 2
  have b3 := b 3 3 3
  unfold mny at h1
  omega
theorem WF.known {σ : Sg} (h : WF σ) {d e j : Nat} (he : e < 4) (hj : j < rk σ d d e) : 40 * e + j ∈ ln σ := by
  have h1 := (h.2.2.2.2.2.2.2.2.2.2.2.1 d d e).1
  have h2 := h.1.2.1 e e e
  refine (h.2.1 _).mpr ⟨?_, ?_⟩
  · unfold mny at h1
    omega
  · rw [show (40 * e + j) % 40 = j by unfold mny at h1; omega, show (40 * e + j) / 40 = e by unfold mny at h1; omega]
    omega
theorem WF.stp {σ : Sg} (h : WF σ) (d : Nat) : stpF σ d ≤ (ln σ).length + 1 := stpF_le (fun e j he hj => h.2.2.2.2.2.2.2.2.2.2.2.2.2.1 _ (h.known he hj))
theorem WF.sgB_doS {σ : Sg} (h : WF σ) {d w t : Nat} {v n : Int32} (hm : mny σ d < 40) (hw : w ≤ 7) (ht : t < 160) : sgB (doS σ d w t v n) := by
  refine ⟨h.1.1, fun a b c => ?_, fun y => ?_⟩
  · show (if a = d ∧ b = d ∧ c = d then mny σ d + 1 else rk σ a b c) ≤ 40
    split
    · omega
    · exact h.1.2.1 a b c
  · have old := h.1.2.2 y
    have hs := h.stp d
    have hl := h.len
    refine ⟨?_, ?_, ?_, fun e => ?_⟩
    · show up1 _ _ _ y ≤ 7
      unfold up1
      split
      · exact hw
      · exact old.1
    · show up1 _ _ _ y < 1000
      unfold up1
      split
      · omega
      · exact old.2.1
    · show up1 _ _ _ y < 160
      unfold up1
      split
      · exact ht
      · exact old.2.2.1
    · show up1 (kn σ) _ _ y e ≤ 40
      unfold up1
      split
      · exact h.1.2.1 d d e
      · exact old.2.2.2 e
def sPut (σ : Sg) (d nm ct : Int32) : Sg × Int32 := if canD σ d && decide (1 ≤ nm.toInt ∧ nm.toInt ≤ 999) && decide (0 ≤ ct.toInt ∧ ct.toInt ≤ 99) then (doS σ d.toNatClampNeg 0 (40 * d.toNatClampNeg + mny σ d.toNatClampNeg) ct nm, nI (40 * d.toNatClampNeg + mny σ d.toNatClampNeg)) else (σ, -1)
def sOn (σ : Sg) (d t : Int32) (w : Nat) (b : Bool) (v : Int32) (ok : Bool) : Sg × Int32 := if ok && canT σ d t b then (doS σ d.toNatClampNeg w t.toNatClampNeg v 0, 1) else (σ, 0)
def okM (σ : Sg) (d t b : Int32) : Bool := decide (t ≠ b) && (decide (b = -1) || (decide (0 ≤ b.toInt ∧ b.toInt ≤ 159) && thF σ (rk σ d.toNatClampNeg d.toNatClampNeg) b.toNatClampNeg))
theorem in_dec {v : Int32} {a b : Int} {x y : Int32} (hx : x.toInt = a) (hy : y.toInt = b) : decide (x ≤ v ∧ v ≤ y) = decide (a ≤ v.toInt ∧ v.toInt ≤ b) := by
  refine decide_eq_decide.mpr ?_
  rw [i32_le, i32_le, hx, hy]
theorem canT_t {σ : Sg} (hB : nd σ ≤ 4) {d t : Int32} {b : Bool} (h : canT σ d t b = true) : ∃ k y, k < nd σ ∧ d = nI k ∧ mny σ k < 40 ∧ d.toNatClampNeg = k ∧ y < 160 ∧ t = nI y ∧ t.toNatClampNeg = y ∧ thF σ (rk σ k k) y = true ∧ stkF σ (rk σ k k) y = b := by
  simp only [canT, Bool.and_eq_true] at h
  obtain ⟨⟨⟨h1, h2⟩, h3⟩, h4⟩ := h
  obtain ⟨k, hk, e, hm, hcl⟩ := canD_t hB h1
  obtain ⟨y, hy, e2⟩ := rng_nI (n := 159) (by decide) (of_decide_eq_true h2)
  have hcy : t.toNatClampNeg = y := by rw [e2]; exact nI_clamp (by omega)
  rw [hcl, hcy] at h3 h4
  exact ⟨k, y, hk, e, hm, hcl, by omega, e2, hcy, h3, by simpa using h4⟩
section
variable {g : AH} {I : Nat → Int32} {A : Nat → Nat → Int32} {Q : Option AV → AH → Prop} {σ : Sg} {see : Nat → Nat}
theorem c_Mo_put {d nm ct : Int32} (hM : MB σ I A) (hW : WF σ)
    (hq : ∀ (I' : Nat → Int32) (A' : Nat → Nat → Int32), MB (sPut σ d nm ct).1 I' A' → Q (some (.inl (sPut σ d nm ct).2)) (mH g I' A')) : X M_Mo_put (rmo M_Mo_put 0 0) (Zm Q 0 0) 0 (ini M_Mo_put [mo, .inl d, .inl nm, .inl ct]) [] (mH g I A) 0 0 := by
  have no : (canD σ d && decide (1 ≤ nm.toInt ∧ nm.toInt ≤ 999) && decide (0 ≤ ct.toInt ∧ ct.toInt ≤ 99)) = false → Q (some (.inl (-1))) (mH g I A) := by
    intro h
    have := hq I A
    unfold sPut at this
    rw [h] at this
    exact this hM
  show X M_Mo_put _ _ 0 [some (.inr (some (10, 0))), some (.inl (d)), some (.inl (nm)), some (.inl (ct))] [] (mH g I A) 0 0
  refine X_run 2 (pc' := 2) (L' := [some (.inr (some (10, 0))), some (.inl (d)), some (.inl (nm)), some (.inl (ct))]) (st' := [.inl (d), .inr (some (10, 0))]) rfl ?_
  refine X_callV (vs := [.inl (d)]) (st := []) (mc := 0) (ms := 0) rfl ok_Mo_canDo v_Mo_124 rfl rfl rfl (Nat.le_of_ble_eq_true rfl) (Nat.le_of_ble_eq_true rfl) (Nat.le_of_ble_eq_true rfl) (Nat.le_of_ble_eq_true rfl) (Nat.le_of_ble_eq_true rfl) (Nat.le_of_ble_eq_true rfl) rfl ?_
  refine c_Mo_canDo hM ?_
  show X M_Mo_put _ _ 5 [some (.inr (some (10, 0))), some (.inl (d)), some (.inl (nm)), some (.inl (ct))] [.inl (b2i (canD σ d))] (mH g I A) 0 0
  refine X_if_eq (tgt := 29) (nx := 8) rfl rfl rfl (fun h1 => ?_) (fun h1 => ?_)
  · rw [b2i_0] at h1
    refine X_run 1 (pc' := 30) (L' := [some (.inr (some (10, 0))), some (.inl (d)), some (.inl (nm)), some (.inl (ct))]) (st' := [.inl (-1)]) rfl ?_
    exact X_iret rfl rfl rfl (Nat.le_refl _) (Nat.le_refl _) (no (by rw [h1]; rfl))
  · rw [b2i_n0] at h1
    refine X_run 3 (pc' := 13) (L' := [some (.inr (some (10, 0))), some (.inl (d)), some (.inl (nm)), some (.inl (ct))]) (st' := [.inl (999), .inl (1), .inl (nm)]) rfl ?_
    refine X_callS (vs := [.inl (nm), .inl (1), .inl (999)]) (st := []) (mc := 0) (ms := 0) rfl ok_Mo_in s_Mo_70 rfl rfl (Nat.le_of_ble_eq_true rfl) (Nat.le_of_ble_eq_true rfl) (Nat.le_of_ble_eq_true rfl) (Nat.le_of_ble_eq_true rfl) (Nat.le_of_ble_eq_true rfl) (Nat.le_of_ble_eq_true rfl) rfl ?_
    refine c_Mo_in ?_
    show X M_Mo_put _ _ 16 [some (.inr (some (10, 0))), some (.inl (d)), some (.inl (nm)), some (.inl (ct))] [.inl (b2i (decide ((1 : Int32) ≤ nm ∧ nm ≤ 999)))] (mH g I A) 0 0
    refine X_eq (st' := [.inl (b2i (decide (1 ≤ nm.toInt ∧ nm.toInt ≤ 999)))]) rfl (congrArg (fun z => Sum.inl z :: _) (congrArg b2i (in_dec rfl rfl))) rfl ?_
    refine X_if_eq (tgt := 29) (nx := 19) rfl rfl rfl (fun h2 => ?_) (fun h2 => ?_)
    · rw [b2i_0] at h2
      refine X_run 1 (pc' := 30) (L' := [some (.inr (some (10, 0))), some (.inl (d)), some (.inl (nm)), some (.inl (ct))]) (st' := [.inl (-1)]) rfl ?_
      exact X_iret rfl rfl rfl (Nat.le_refl _) (Nat.le_refl _) (no (by rw [h2, Bool.and_false]; rfl))
    · rw [b2i_n0] at h2
      refine X_run 3 (pc' := 23) (L' := [some (.inr (some (10, 0))), some (.inl (d)), some (.inl (nm)), some (.inl (ct))]) (st' := [.inl (99), .inl (0), .inl (ct)]) rfl ?_
      refine X_callS (vs := [.inl (ct), .inl (0), .inl (99)]) (st := []) (mc := 0) (ms := 0) rfl ok_Mo_in s_Mo_70 rfl rfl (Nat.le_of_ble_eq_true rfl) (Nat.le_of_ble_eq_true rfl) (Nat.le_of_ble_eq_true rfl) (Nat.le_of_ble_eq_true rfl) (Nat.le_of_ble_eq_true rfl) (Nat.le_of_ble_eq_true rfl) rfl ?_
      refine c_Mo_in ?_
      show X M_Mo_put _ _ 26 [some (.inr (some (10, 0))), some (.inl (d)), some (.inl (nm)), some (.inl (ct))] [.inl (b2i (decide ((0 : Int32) ≤ ct ∧ ct ≤ 99)))] (mH g I A) 0 0
      refine X_eq (st' := [.inl (b2i (decide (0 ≤ ct.toInt ∧ ct.toInt ≤ 99)))]) rfl (congrArg (fun z => Sum.inl z :: _) (congrArg b2i (in_dec rfl rfl))) rfl ?_
      refine X_if_ne (tgt := 31) (nx := 29) rfl rfl rfl (fun h3 => ?_) (fun h3 => ?_)
      · rw [b2i_n0] at h3
        obtain ⟨k, hk, rfl, hm, hcl⟩ := canD_t hM.1.1.1 h1
        have h4 := hM.1.1.1
        have e : sPut σ (nI k) nm ct = (doS σ k 0 (40 * k + mny σ k) ct nm, nI (40 * k + mny σ k)) := by
          unfold sPut
          rw [h1, h2, h3, hcl]
          rfl
        rw [e] at hq
        refine X_run 7 (pc' := 39) (L' := [some (.inr (some (10, 0))), some (.inl (nI k)), some (.inl (nm)), some (.inl (ct))]) (st' := [.inr (some (10, 0)), .inl (40 * (nI k)), .inl (0), .inl (nI k), .inr (some (10, 0))]) rfl ?_
        refine XM_get (v := .inr (some (11, 2))) rfl f_Mo_7 rfl rfl ?_
        refine X_run 1 (pc' := 43) (L' := [some (.inr (some (10, 0))), some (.inl (nI k)), some (.inl (nm)), some (.inl (ct))]) (st' := [.inl (nI k), .inr (some (11, 2)), .inl (40 * (nI k)), .inl (0), .inl (nI k), .inr (some (10, 0))]) rfl ?_
        refine XM_ald (k := 2) (i := k) rfl (by decide) (by simp only [mln]; omega) rfl ?_
        refine X_eq (st' := [.inl (nI (mny σ k)), .inl (40 * (nI k)), .inl (0), .inl (nI k), .inr (some (10, 0))]) rfl (congrArg (fun z => Sum.inl z :: _) (hM.2.2.2.1 k (by omega))) rfl ?_
        refine X_run 1 (pc' := 45) (L' := [some (.inr (some (10, 0))), some (.inl (nI k)), some (.inl (nm)), some (.inl (ct))]) (st' := [.inl ((40 * (nI k)) + (nI (mny σ k))), .inl (0), .inl (nI k), .inr (some (10, 0))]) rfl ?_
        refine X_eq (st' := [.inl (nI (40 * k + mny σ k)), .inl (0), .inl (nI k), .inr (some (10, 0))]) rfl (congrArg (fun z => Sum.inl z :: _) (by first | rfl | (simp only [il_0, il_1, il_2, il_3, il_4, il_5, il_6, il_7, il_16, il_20, il_40, il_160, pk_mul, nI_add]; done) | (simp only [il_0, il_1, il_2, il_3, il_4, il_5, il_6, il_7, il_16, il_20, il_40, il_160, pk_mul, nI_add]; exact congrArg nI (by omega)))) rfl ?_
        refine X_run 2 (pc' := 47) (L' := [some (.inr (some (10, 0))), some (.inl (nI k)), some (.inl (nm)), some (.inl (ct))]) (st' := [.inl (nm), .inl (ct), .inl (nI (40 * k + mny σ k)), .inl (0), .inl (nI k), .inr (some (10, 0))]) rfl ?_
        refine X_eq (st' := [.inl (nm), .inl (ct), .inl (nI (40 * k + mny σ k)), .inl (nI (0)), .inl (nI k), .inr (some (10, 0))]) rfl (congrArg (fun z : Int32 => ([.inl (nm), .inl (ct), .inl (nI (40 * k + mny σ k)), .inl z, .inl (nI k), .inr (some (10, 0))] : List AV)) (by first | rfl | (simp only [il_0, il_1, il_2, il_3, il_4, il_5, il_6, il_7, il_16, il_20, il_40, il_160, pk_mul, nI_add]; done) | (simp only [il_0, il_1, il_2, il_3, il_4, il_5, il_6, il_7, il_16, il_20, il_40, il_160, pk_mul, nI_add]; exact congrArg nI (by omega)))) rfl ?_
        refine X_callV (vs := [.inl (nI k), .inl (nI (0)), .inl (nI (40 * k + mny σ k)), .inl (ct), .inl (nm)]) (st := []) (mc := 0) (ms := 0) rfl ok_Mo_does v_Mo_134 rfl rfl rfl (Nat.le_of_ble_eq_true rfl) (Nat.le_of_ble_eq_true rfl) (Nat.le_of_ble_eq_true rfl) (Nat.le_of_ble_eq_true rfl) (Nat.le_of_ble_eq_true rfl) (Nat.le_of_ble_eq_true rfl) rfl ?_
        refine c_Mo_does hM (by omega) hm (hW.sgB_doS hm (by omega) (by omega)) (fun A2 hM2 => ?_)
        show X M_Mo_put _ _ 50 [some (.inr (some (10, 0))), some (.inl (nI k)), some (.inl (nm)), some (.inl (ct))] [.inl (nI (40 * k + mny σ k))] (mH g I A2) 0 0
        exact X_iret rfl rfl rfl (Nat.le_refl _) (Nat.le_refl _) (hq I A2 hM2)
      · rw [b2i_0] at h3
        refine X_run 1 (pc' := 30) (L' := [some (.inr (some (10, 0))), some (.inl (d)), some (.inl (nm)), some (.inl (ct))]) (st' := [.inl (-1)]) rfl ?_
        exact X_iret rfl rfl rfl (Nat.le_refl _) (Nat.le_refl _) (no (by rw [h3, Bool.and_false]))
theorem c_Mo_buy {d t v : Int32} (hM : MB σ I A) (hW : WF σ)
    (hq : ∀ (I' : Nat → Int32) (A' : Nat → Nat → Int32), MB (sOn σ d t 2 false v (decide (1 ≤ v.toInt ∧ v.toInt ≤ 99))).1 I' A' → Q (some (.inl (sOn σ d t 2 false v (decide (1 ≤ v.toInt ∧ v.toInt ≤ 99))).2)) (mH g I' A')) : X M_Mo_buy (rmo M_Mo_buy 0 0) (Zm Q 0 0) 0 (ini M_Mo_buy [mo, .inl d, .inl t, .inl v]) [] (mH g I A) 0 0 := by
  have no : ((decide (1 ≤ v.toInt ∧ v.toInt ≤ 99)) && canT σ d t false) = false → ∀ I' A', MB σ I' A' → Q (some (.inl 0)) (mH g I' A') := by
    intro h I' A' hM'
    have := hq I' A'
    unfold sOn at this
    rw [h] at this
    exact this hM'
  show X M_Mo_buy _ _ 0 [some (.inr (some (10, 0))), some (.inl (d)), some (.inl (t)), some (.inl (v)), none] [] (mH g I A) 0 0
  refine X_run 3 (pc' := 4) (L' := [some (.inr (some (10, 0))), some (.inl (d)), some (.inl (t)), some (.inl (v)), none]) (st' := [.inl (99), .inl (1), .inl (v)]) rfl ?_
  refine X_callS (vs := [.inl (v), .inl (1), .inl (99)]) (st := []) (mc := 0) (ms := 0) rfl ok_Mo_in s_Mo_70 rfl rfl (Nat.le_of_ble_eq_true rfl) (Nat.le_of_ble_eq_true rfl) (Nat.le_of_ble_eq_true rfl) (Nat.le_of_ble_eq_true rfl) (Nat.le_of_ble_eq_true rfl) (Nat.le_of_ble_eq_true rfl) rfl ?_
  refine c_Mo_in ?_
  show X M_Mo_buy _ _ 7 [some (.inr (some (10, 0))), some (.inl (d)), some (.inl (t)), some (.inl (v)), none] [.inl (b2i (decide ((1 : Int32) ≤ v ∧ v ≤ 99)))] (mH g I A) 0 0
  refine X_eq (st' := [.inl (b2i (decide (1 ≤ v.toInt ∧ v.toInt ≤ 99)))]) rfl (congrArg (fun z => Sum.inl z :: _) (congrArg b2i (in_dec rfl rfl))) rfl ?_
  refine X_if_eq (tgt := 20) (nx := 10) rfl rfl rfl (fun h1 => ?_) (fun h1 => ?_)
  · rw [b2i_0] at h1
    refine X_run 1 (pc' := 21) (L' := [some (.inr (some (10, 0))), some (.inl (d)), some (.inl (t)), some (.inl (v)), none]) (st' := [.inl (0)]) rfl ?_
    exact X_iret rfl rfl rfl (Nat.le_refl _) (Nat.le_refl _) (no (by rw [h1]; rfl) I A hM)
  · rw [b2i_n0] at h1
    refine X_run 4 (pc' := 14) (L' := [some (.inr (some (10, 0))), some (.inl (d)), some (.inl (t)), some (.inl (v)), none]) (st' := [.inl (0), .inl (t), .inl (d), .inr (some (10, 0))]) rfl ?_
    refine X_callV (vs := [.inl (d), .inl (t), .inl (0)]) (st := []) (mc := 0) (ms := 0) rfl ok_Mo_can v_Mo_138 rfl rfl rfl (Nat.le_of_ble_eq_true rfl) (Nat.le_of_ble_eq_true rfl) (Nat.le_of_ble_eq_true rfl) (Nat.le_of_ble_eq_true rfl) (Nat.le_of_ble_eq_true rfl) (Nat.le_of_ble_eq_true rfl) rfl ?_
    refine c_Mo_can (b := false) hM hW (fun I1 A1 hM1 _ => ?_)
    show X M_Mo_buy _ _ 17 [some (.inr (some (10, 0))), some (.inl (d)), some (.inl (t)), some (.inl (v)), none] [.inl (b2i (canT σ d t false))] (mH g I1 A1) 0 0
    refine X_if_ne (tgt := 22) (nx := 20) rfl rfl rfl (fun h2 => ?_) (fun h2 => ?_)
    · rw [b2i_n0] at h2
      obtain ⟨k, y, hk, rfl, hm, hcl, hy, rfl, hcy, -, -⟩ := canT_t hM.1.1.1 h2
      have h4 := hM.1.1.1
      have e : sOn σ (nI k) (nI y) 2 false v (decide (1 ≤ v.toInt ∧ v.toInt ≤ 99)) = (doS σ k 2 y v 0, 1) := by
        unfold sOn
        rw [h1, h2, hcl, hcy]
        rfl
      rw [e] at hq
      refine X_run 6 (pc' := 28) (L' := [some (.inr (some (10, 0))), some (.inl (nI k)), some (.inl (nI y)), some (.inl (v)), none]) (st' := [.inl (0), .inl (v), .inl (nI y), .inl (2), .inl (nI k), .inr (some (10, 0))]) rfl ?_
      refine X_eq (st' := [.inl (0), .inl (v), .inl (nI y), .inl (nI (2)), .inl (nI k), .inr (some (10, 0))]) rfl (congrArg (fun z : Int32 => ([.inl (0), .inl (v), .inl (nI y), .inl z, .inl (nI k), .inr (some (10, 0))] : List AV)) (by first | rfl | (simp only [il_0, il_1, il_2, il_3, il_4, il_5, il_6, il_7, il_16, il_20, il_40, il_160, pk_mul, nI_add]; done) | (simp only [il_0, il_1, il_2, il_3, il_4, il_5, il_6, il_7, il_16, il_20, il_40, il_160, pk_mul, nI_add]; exact congrArg nI (by omega)))) rfl ?_
      refine X_callV (vs := [.inl (nI k), .inl (nI (2)), .inl (nI y), .inl (v), .inl (0)]) (st := []) (mc := 0) (ms := 0) rfl ok_Mo_does v_Mo_134 rfl rfl rfl (Nat.le_of_ble_eq_true rfl) (Nat.le_of_ble_eq_true rfl) (Nat.le_of_ble_eq_true rfl) (Nat.le_of_ble_eq_true rfl) (Nat.le_of_ble_eq_true rfl) (Nat.le_of_ble_eq_true rfl) rfl ?_
      refine c_Mo_does hM1 (by omega) hm (hW.sgB_doS hm (by omega) hy) (fun A2 hM2 => ?_)
      show X M_Mo_buy _ _ 31 [some (.inr (some (10, 0))), some (.inl (nI k)), some (.inl (nI y)), some (.inl (v)), none] [.inl (nI (40 * k + mny σ k))] (mH g I1 A2) 0 0
      refine X_run 2 (pc' := 34) (L' := [some (.inr (some (10, 0))), some (.inl (nI k)), some (.inl (nI y)), some (.inl (v)), some (.inl (nI (40 * k + mny σ k)))]) (st' := [.inl (1)]) rfl ?_
      exact X_iret rfl rfl rfl (Nat.le_refl _) (Nat.le_refl _) (hq I1 A2 hM2)
    · rw [b2i_0] at h2
      refine X_run 1 (pc' := 21) (L' := [some (.inr (some (10, 0))), some (.inl (d)), some (.inl (t)), some (.inl (v)), none]) (st' := [.inl (0)]) rfl ?_
      exact X_iret rfl rfl rfl (Nat.le_refl _) (Nat.le_refl _) (no (by rw [h2, Bool.and_false]) I1 A1 hM1)
theorem c_Mo_name {d t v : Int32} (hM : MB σ I A) (hW : WF σ)
    (hq : ∀ (I' : Nat → Int32) (A' : Nat → Nat → Int32), MB (sOn σ d t 6 false v (decide (1 ≤ v.toInt ∧ v.toInt ≤ 999))).1 I' A' → Q (some (.inl (sOn σ d t 6 false v (decide (1 ≤ v.toInt ∧ v.toInt ≤ 999))).2)) (mH g I' A')) : X M_Mo_name (rmo M_Mo_name 0 0) (Zm Q 0 0) 0 (ini M_Mo_name [mo, .inl d, .inl t, .inl v]) [] (mH g I A) 0 0 := by
  have no : ((decide (1 ≤ v.toInt ∧ v.toInt ≤ 999)) && canT σ d t false) = false → ∀ I' A', MB σ I' A' → Q (some (.inl 0)) (mH g I' A') := by
    intro h I' A' hM'
    have := hq I' A'
    unfold sOn at this
    rw [h] at this
    exact this hM'
  show X M_Mo_name _ _ 0 [some (.inr (some (10, 0))), some (.inl (d)), some (.inl (t)), some (.inl (v)), none] [] (mH g I A) 0 0
  refine X_run 3 (pc' := 5) (L' := [some (.inr (some (10, 0))), some (.inl (d)), some (.inl (t)), some (.inl (v)), none]) (st' := [.inl (999), .inl (1), .inl (v)]) rfl ?_
  refine X_callS (vs := [.inl (v), .inl (1), .inl (999)]) (st := []) (mc := 0) (ms := 0) rfl ok_Mo_in s_Mo_70 rfl rfl (Nat.le_of_ble_eq_true rfl) (Nat.le_of_ble_eq_true rfl) (Nat.le_of_ble_eq_true rfl) (Nat.le_of_ble_eq_true rfl) (Nat.le_of_ble_eq_true rfl) (Nat.le_of_ble_eq_true rfl) rfl ?_
  refine c_Mo_in ?_
  show X M_Mo_name _ _ 8 [some (.inr (some (10, 0))), some (.inl (d)), some (.inl (t)), some (.inl (v)), none] [.inl (b2i (decide ((1 : Int32) ≤ v ∧ v ≤ 999)))] (mH g I A) 0 0
  refine X_eq (st' := [.inl (b2i (decide (1 ≤ v.toInt ∧ v.toInt ≤ 999)))]) rfl (congrArg (fun z => Sum.inl z :: _) (congrArg b2i (in_dec rfl rfl))) rfl ?_
  refine X_if_eq (tgt := 21) (nx := 11) rfl rfl rfl (fun h1 => ?_) (fun h1 => ?_)
  · rw [b2i_0] at h1
    refine X_run 1 (pc' := 22) (L' := [some (.inr (some (10, 0))), some (.inl (d)), some (.inl (t)), some (.inl (v)), none]) (st' := [.inl (0)]) rfl ?_
    exact X_iret rfl rfl rfl (Nat.le_refl _) (Nat.le_refl _) (no (by rw [h1]; rfl) I A hM)
  · rw [b2i_n0] at h1
    refine X_run 4 (pc' := 15) (L' := [some (.inr (some (10, 0))), some (.inl (d)), some (.inl (t)), some (.inl (v)), none]) (st' := [.inl (0), .inl (t), .inl (d), .inr (some (10, 0))]) rfl ?_
    refine X_callV (vs := [.inl (d), .inl (t), .inl (0)]) (st := []) (mc := 0) (ms := 0) rfl ok_Mo_can v_Mo_138 rfl rfl rfl (Nat.le_of_ble_eq_true rfl) (Nat.le_of_ble_eq_true rfl) (Nat.le_of_ble_eq_true rfl) (Nat.le_of_ble_eq_true rfl) (Nat.le_of_ble_eq_true rfl) (Nat.le_of_ble_eq_true rfl) rfl ?_
    refine c_Mo_can (b := false) hM hW (fun I1 A1 hM1 _ => ?_)
    show X M_Mo_name _ _ 18 [some (.inr (some (10, 0))), some (.inl (d)), some (.inl (t)), some (.inl (v)), none] [.inl (b2i (canT σ d t false))] (mH g I1 A1) 0 0
    refine X_if_ne (tgt := 23) (nx := 21) rfl rfl rfl (fun h2 => ?_) (fun h2 => ?_)
    · rw [b2i_n0] at h2
      obtain ⟨k, y, hk, rfl, hm, hcl, hy, rfl, hcy, -, -⟩ := canT_t hM.1.1.1 h2
      have h4 := hM.1.1.1
      have e : sOn σ (nI k) (nI y) 6 false v (decide (1 ≤ v.toInt ∧ v.toInt ≤ 999)) = (doS σ k 6 y v 0, 1) := by
        unfold sOn
        rw [h1, h2, hcl, hcy]
        rfl
      rw [e] at hq
      refine X_run 6 (pc' := 30) (L' := [some (.inr (some (10, 0))), some (.inl (nI k)), some (.inl (nI y)), some (.inl (v)), none]) (st' := [.inl (0), .inl (v), .inl (nI y), .inl (6), .inl (nI k), .inr (some (10, 0))]) rfl ?_
      refine X_eq (st' := [.inl (0), .inl (v), .inl (nI y), .inl (nI (6)), .inl (nI k), .inr (some (10, 0))]) rfl (congrArg (fun z : Int32 => ([.inl (0), .inl (v), .inl (nI y), .inl z, .inl (nI k), .inr (some (10, 0))] : List AV)) (by first | rfl | (simp only [il_0, il_1, il_2, il_3, il_4, il_5, il_6, il_7, il_16, il_20, il_40, il_160, pk_mul, nI_add]; done) | (simp only [il_0, il_1, il_2, il_3, il_4, il_5, il_6, il_7, il_16, il_20, il_40, il_160, pk_mul, nI_add]; exact congrArg nI (by omega)))) rfl ?_
      refine X_callV (vs := [.inl (nI k), .inl (nI (6)), .inl (nI y), .inl (v), .inl (0)]) (st := []) (mc := 0) (ms := 0) rfl ok_Mo_does v_Mo_134 rfl rfl rfl (Nat.le_of_ble_eq_true rfl) (Nat.le_of_ble_eq_true rfl) (Nat.le_of_ble_eq_true rfl) (Nat.le_of_ble_eq_true rfl) (Nat.le_of_ble_eq_true rfl) (Nat.le_of_ble_eq_true rfl) rfl ?_
      refine c_Mo_does hM1 (by omega) hm (hW.sgB_doS hm (by omega) hy) (fun A2 hM2 => ?_)
      show X M_Mo_name _ _ 33 [some (.inr (some (10, 0))), some (.inl (nI k)), some (.inl (nI y)), some (.inl (v)), none] [.inl (nI (40 * k + mny σ k))] (mH g I1 A2) 0 0
      refine X_run 2 (pc' := 36) (L' := [some (.inr (some (10, 0))), some (.inl (nI k)), some (.inl (nI y)), some (.inl (v)), some (.inl (nI (40 * k + mny σ k)))]) (st' := [.inl (1)]) rfl ?_
      exact X_iret rfl rfl rfl (Nat.le_refl _) (Nat.le_refl _) (hq I1 A2 hM2)
    · rw [b2i_0] at h2
      refine X_run 1 (pc' := 22) (L' := [some (.inr (some (10, 0))), some (.inl (d)), some (.inl (t)), some (.inl (v)), none]) (st' := [.inl (0)]) rfl ?_
      exact X_iret rfl rfl rfl (Nat.le_refl _) (Nat.le_refl _) (no (by rw [h2, Bool.and_false]) I1 A1 hM1)
theorem c_Mo_strike {d t : Int32} (hM : MB σ I A) (hW : WF σ)
    (hq : ∀ (I' : Nat → Int32) (A' : Nat → Nat → Int32), MB (sOn σ d t 3 false 0 true).1 I' A' → Q (some (.inl (sOn σ d t 3 false 0 true).2)) (mH g I' A')) : X M_Mo_strike (rmo M_Mo_strike 0 0) (Zm Q 0 0) 0 (ini M_Mo_strike [mo, .inl d, .inl t]) [] (mH g I A) 0 0 := by
  have no : (true && canT σ d t false) = false → ∀ I' A', MB σ I' A' → Q (some (.inl 0)) (mH g I' A') := by
    intro h I' A' hM'
    have := hq I' A'
    unfold sOn at this
    rw [h] at this
    exact this hM'
  show X M_Mo_strike _ _ 0 [some (.inr (some (10, 0))), some (.inl (d)), some (.inl (t)), none] [] (mH g I A) 0 0
  refine X_run 4 (pc' := 4) (L' := [some (.inr (some (10, 0))), some (.inl (d)), some (.inl (t)), none]) (st' := [.inl (0), .inl (t), .inl (d), .inr (some (10, 0))]) rfl ?_
  refine X_callV (vs := [.inl (d), .inl (t), .inl (0)]) (st := []) (mc := 0) (ms := 0) rfl ok_Mo_can v_Mo_138 rfl rfl rfl (Nat.le_of_ble_eq_true rfl) (Nat.le_of_ble_eq_true rfl) (Nat.le_of_ble_eq_true rfl) (Nat.le_of_ble_eq_true rfl) (Nat.le_of_ble_eq_true rfl) (Nat.le_of_ble_eq_true rfl) rfl ?_
  refine c_Mo_can (b := false) hM hW (fun I1 A1 hM1 _ => ?_)
  show X M_Mo_strike _ _ 7 [some (.inr (some (10, 0))), some (.inl (d)), some (.inl (t)), none] [.inl (b2i (canT σ d t false))] (mH g I1 A1) 0 0
  refine X_if_ne (tgt := 12) (nx := 10) rfl rfl rfl (fun h2 => ?_) (fun h2 => ?_)
  · rw [b2i_n0] at h2
    obtain ⟨k, y, hk, rfl, hm, hcl, hy, rfl, hcy, -, -⟩ := canT_t hM.1.1.1 h2
    have h4 := hM.1.1.1
    have e : sOn σ (nI k) (nI y) 3 false 0 true = (doS σ k 3 y 0 0, 1) := by
      unfold sOn
      rw [h2, hcl, hcy]
      rfl
    rw [e] at hq
    refine X_run 6 (pc' := 18) (L' := [some (.inr (some (10, 0))), some (.inl (nI k)), some (.inl (nI y)), none]) (st' := [.inl (0), .inl (0), .inl (nI y), .inl (3), .inl (nI k), .inr (some (10, 0))]) rfl ?_
    refine X_eq (st' := [.inl (0), .inl (0), .inl (nI y), .inl (nI (3)), .inl (nI k), .inr (some (10, 0))]) rfl (congrArg (fun z : Int32 => ([.inl (0), .inl (0), .inl (nI y), .inl z, .inl (nI k), .inr (some (10, 0))] : List AV)) (by first | rfl | (simp only [il_0, il_1, il_2, il_3, il_4, il_5, il_6, il_7, il_16, il_20, il_40, il_160, pk_mul, nI_add]; done) | (simp only [il_0, il_1, il_2, il_3, il_4, il_5, il_6, il_7, il_16, il_20, il_40, il_160, pk_mul, nI_add]; exact congrArg nI (by omega)))) rfl ?_
    refine X_callV (vs := [.inl (nI k), .inl (nI (3)), .inl (nI y), .inl (0), .inl (0)]) (st := []) (mc := 0) (ms := 0) rfl ok_Mo_does v_Mo_134 rfl rfl rfl (Nat.le_of_ble_eq_true rfl) (Nat.le_of_ble_eq_true rfl) (Nat.le_of_ble_eq_true rfl) (Nat.le_of_ble_eq_true rfl) (Nat.le_of_ble_eq_true rfl) (Nat.le_of_ble_eq_true rfl) rfl ?_
    refine c_Mo_does hM1 (by omega) hm (hW.sgB_doS hm (by omega) hy) (fun A2 hM2 => ?_)
    show X M_Mo_strike _ _ 21 [some (.inr (some (10, 0))), some (.inl (nI k)), some (.inl (nI y)), none] [.inl (nI (40 * k + mny σ k))] (mH g I1 A2) 0 0
    refine X_run 2 (pc' := 23) (L' := [some (.inr (some (10, 0))), some (.inl (nI k)), some (.inl (nI y)), some (.inl (nI (40 * k + mny σ k)))]) (st' := [.inl (1)]) rfl ?_
    exact X_iret rfl rfl rfl (Nat.le_refl _) (Nat.le_refl _) (hq I1 A2 hM2)
  · rw [b2i_0] at h2
    refine X_run 1 (pc' := 11) (L' := [some (.inr (some (10, 0))), some (.inl (d)), some (.inl (t)), none]) (st' := [.inl (0)]) rfl ?_
    exact X_iret rfl rfl rfl (Nat.le_refl _) (Nat.le_refl _) (no (by rw [h2, Bool.and_false]) I1 A1 hM1)
theorem c_Mo_back {d t : Int32} (hM : MB σ I A) (hW : WF σ)
    (hq : ∀ (I' : Nat → Int32) (A' : Nat → Nat → Int32), MB (sOn σ d t 4 true 0 true).1 I' A' → Q (some (.inl (sOn σ d t 4 true 0 true).2)) (mH g I' A')) : X M_Mo_back (rmo M_Mo_back 0 0) (Zm Q 0 0) 0 (ini M_Mo_back [mo, .inl d, .inl t]) [] (mH g I A) 0 0 := by
  have no : (true && canT σ d t true) = false → ∀ I' A', MB σ I' A' → Q (some (.inl 0)) (mH g I' A') := by
    intro h I' A' hM'
    have := hq I' A'
    unfold sOn at this
    rw [h] at this
    exact this hM'
  show X M_Mo_back _ _ 0 [some (.inr (some (10, 0))), some (.inl (d)), some (.inl (t)), none] [] (mH g I A) 0 0
  refine X_run 4 (pc' := 4) (L' := [some (.inr (some (10, 0))), some (.inl (d)), some (.inl (t)), none]) (st' := [.inl (1), .inl (t), .inl (d), .inr (some (10, 0))]) rfl ?_
  refine X_callV (vs := [.inl (d), .inl (t), .inl (1)]) (st := []) (mc := 0) (ms := 0) rfl ok_Mo_can v_Mo_138 rfl rfl rfl (Nat.le_of_ble_eq_true rfl) (Nat.le_of_ble_eq_true rfl) (Nat.le_of_ble_eq_true rfl) (Nat.le_of_ble_eq_true rfl) (Nat.le_of_ble_eq_true rfl) (Nat.le_of_ble_eq_true rfl) rfl ?_
  refine c_Mo_can (b := true) hM hW (fun I1 A1 hM1 _ => ?_)
  show X M_Mo_back _ _ 7 [some (.inr (some (10, 0))), some (.inl (d)), some (.inl (t)), none] [.inl (b2i (canT σ d t true))] (mH g I1 A1) 0 0
  refine X_if_ne (tgt := 12) (nx := 10) rfl rfl rfl (fun h2 => ?_) (fun h2 => ?_)
  · rw [b2i_n0] at h2
    obtain ⟨k, y, hk, rfl, hm, hcl, hy, rfl, hcy, -, -⟩ := canT_t hM.1.1.1 h2
    have h4 := hM.1.1.1
    have e : sOn σ (nI k) (nI y) 4 true 0 true = (doS σ k 4 y 0 0, 1) := by
      unfold sOn
      rw [h2, hcl, hcy]
      rfl
    rw [e] at hq
    refine X_run 6 (pc' := 18) (L' := [some (.inr (some (10, 0))), some (.inl (nI k)), some (.inl (nI y)), none]) (st' := [.inl (0), .inl (0), .inl (nI y), .inl (4), .inl (nI k), .inr (some (10, 0))]) rfl ?_
    refine X_eq (st' := [.inl (0), .inl (0), .inl (nI y), .inl (nI (4)), .inl (nI k), .inr (some (10, 0))]) rfl (congrArg (fun z : Int32 => ([.inl (0), .inl (0), .inl (nI y), .inl z, .inl (nI k), .inr (some (10, 0))] : List AV)) (by first | rfl | (simp only [il_0, il_1, il_2, il_3, il_4, il_5, il_6, il_7, il_16, il_20, il_40, il_160, pk_mul, nI_add]; done) | (simp only [il_0, il_1, il_2, il_3, il_4, il_5, il_6, il_7, il_16, il_20, il_40, il_160, pk_mul, nI_add]; exact congrArg nI (by omega)))) rfl ?_
    refine X_callV (vs := [.inl (nI k), .inl (nI (4)), .inl (nI y), .inl (0), .inl (0)]) (st := []) (mc := 0) (ms := 0) rfl ok_Mo_does v_Mo_134 rfl rfl rfl (Nat.le_of_ble_eq_true rfl) (Nat.le_of_ble_eq_true rfl) (Nat.le_of_ble_eq_true rfl) (Nat.le_of_ble_eq_true rfl) (Nat.le_of_ble_eq_true rfl) (Nat.le_of_ble_eq_true rfl) rfl ?_
    refine c_Mo_does hM1 (by omega) hm (hW.sgB_doS hm (by omega) hy) (fun A2 hM2 => ?_)
    show X M_Mo_back _ _ 21 [some (.inr (some (10, 0))), some (.inl (nI k)), some (.inl (nI y)), none] [.inl (nI (40 * k + mny σ k))] (mH g I1 A2) 0 0
    refine X_run 2 (pc' := 23) (L' := [some (.inr (some (10, 0))), some (.inl (nI k)), some (.inl (nI y)), some (.inl (nI (40 * k + mny σ k)))]) (st' := [.inl (1)]) rfl ?_
    exact X_iret rfl rfl rfl (Nat.le_refl _) (Nat.le_refl _) (hq I1 A2 hM2)
  · rw [b2i_0] at h2
    refine X_run 1 (pc' := 11) (L' := [some (.inr (some (10, 0))), some (.inl (d)), some (.inl (t)), none]) (st' := [.inl (0)]) rfl ?_
    exact X_iret rfl rfl rfl (Nat.le_refl _) (Nat.le_refl _) (no (by rw [h2, Bool.and_false]) I1 A1 hM1)
theorem c_Mo_count {d t v : Int32} (hM : MB σ I A) (hW : WF σ)
    (hq : ∀ (I' : Nat → Int32) (A' : Nat → Nat → Int32), MB (sOn σ d t 1 false v (decide (-99 ≤ v.toInt ∧ v.toInt ≤ 99) && decide (v ≠ 0))).1 I' A' → Q (some (.inl (sOn σ d t 1 false v (decide (-99 ≤ v.toInt ∧ v.toInt ≤ 99) && decide (v ≠ 0))).2)) (mH g I' A')) : X M_Mo_count (rmo M_Mo_count 0 0) (Zm Q 0 0) 0 (ini M_Mo_count [mo, .inl d, .inl t, .inl v]) [] (mH g I A) 0 0 := by
  have no : ((decide (-99 ≤ v.toInt ∧ v.toInt ≤ 99) && decide (v ≠ 0)) && canT σ d t false) = false → ∀ I' A', MB σ I' A' → Q (some (.inl 0)) (mH g I' A') := by
    intro h I' A' hM'
    have := hq I' A'
    unfold sOn at this
    rw [h] at this
    exact this hM'
  show X M_Mo_count _ _ 0 [some (.inr (some (10, 0))), some (.inl (d)), some (.inl (t)), some (.inl (v)), none] [] (mH g I A) 0 0
  refine X_run 3 (pc' := 5) (L' := [some (.inr (some (10, 0))), some (.inl (d)), some (.inl (t)), some (.inl (v)), none]) (st' := [.inl (99), .inl (-99), .inl (v)]) rfl ?_
  refine X_callS (vs := [.inl (v), .inl (-99), .inl (99)]) (st := []) (mc := 0) (ms := 0) rfl ok_Mo_in s_Mo_70 rfl rfl (Nat.le_of_ble_eq_true rfl) (Nat.le_of_ble_eq_true rfl) (Nat.le_of_ble_eq_true rfl) (Nat.le_of_ble_eq_true rfl) (Nat.le_of_ble_eq_true rfl) (Nat.le_of_ble_eq_true rfl) rfl ?_
  refine c_Mo_in ?_
  show X M_Mo_count _ _ 8 [some (.inr (some (10, 0))), some (.inl (d)), some (.inl (t)), some (.inl (v)), none] [.inl (b2i (decide ((-99 : Int32) ≤ v ∧ v ≤ 99)))] (mH g I A) 0 0
  refine X_eq (st' := [.inl (b2i (decide (-99 ≤ v.toInt ∧ v.toInt ≤ 99)))]) rfl (congrArg (fun z => Sum.inl z :: _) (congrArg b2i (in_dec rfl rfl))) rfl ?_
  refine X_if_eq (tgt := 25) (nx := 11) rfl rfl rfl (fun h1 => ?_) (fun h1 => ?_)
  · rw [b2i_0] at h1
    refine X_run 1 (pc' := 26) (L' := [some (.inr (some (10, 0))), some (.inl (d)), some (.inl (t)), some (.inl (v)), none]) (st' := [.inl (0)]) rfl ?_
    exact X_iret rfl rfl rfl (Nat.le_refl _) (Nat.le_refl _) (no (by rw [h1]; rfl) I A hM)
  · rw [b2i_n0] at h1
    refine X_run 1 (pc' := 12) (L' := [some (.inr (some (10, 0))), some (.inl (d)), some (.inl (t)), some (.inl (v)), none]) (st' := [.inl (v)]) rfl ?_
    refine X_if_eq (tgt := 25) (nx := 15) rfl rfl rfl (fun h3 => ?_) (fun h3 => ?_)
    · refine X_run 1 (pc' := 26) (L' := [some (.inr (some (10, 0))), some (.inl (d)), some (.inl (t)), some (.inl (v)), none]) (st' := [.inl (0)]) rfl ?_
      exact X_iret rfl rfl rfl (Nat.le_refl _) (Nat.le_refl _) (no (by rw [show decide (v ≠ 0) = false from decide_eq_false (fun q => q h3), Bool.and_false]; rfl) I A hM)
    · have h3 : decide (v ≠ 0) = true := decide_eq_true h3
      refine X_run 4 (pc' := 19) (L' := [some (.inr (some (10, 0))), some (.inl (d)), some (.inl (t)), some (.inl (v)), none]) (st' := [.inl (0), .inl (t), .inl (d), .inr (some (10, 0))]) rfl ?_
      refine X_callV (vs := [.inl (d), .inl (t), .inl (0)]) (st := []) (mc := 0) (ms := 0) rfl ok_Mo_can v_Mo_138 rfl rfl rfl (Nat.le_of_ble_eq_true rfl) (Nat.le_of_ble_eq_true rfl) (Nat.le_of_ble_eq_true rfl) (Nat.le_of_ble_eq_true rfl) (Nat.le_of_ble_eq_true rfl) (Nat.le_of_ble_eq_true rfl) rfl ?_
      refine c_Mo_can (b := false) hM hW (fun I1 A1 hM1 _ => ?_)
      show X M_Mo_count _ _ 22 [some (.inr (some (10, 0))), some (.inl (d)), some (.inl (t)), some (.inl (v)), none] [.inl (b2i (canT σ d t false))] (mH g I1 A1) 0 0
      refine X_if_ne (tgt := 27) (nx := 25) rfl rfl rfl (fun h2 => ?_) (fun h2 => ?_)
      · rw [b2i_n0] at h2
        obtain ⟨k, y, hk, rfl, hm, hcl, hy, rfl, hcy, -, -⟩ := canT_t hM.1.1.1 h2
        have h4 := hM.1.1.1
        have e : sOn σ (nI k) (nI y) 1 false v (decide (-99 ≤ v.toInt ∧ v.toInt ≤ 99) && decide (v ≠ 0)) = (doS σ k 1 y v 0, 1) := by
          unfold sOn
          rw [h1, h3, h2, hcl, hcy]
          rfl
        rw [e] at hq
        refine X_run 6 (pc' := 33) (L' := [some (.inr (some (10, 0))), some (.inl (nI k)), some (.inl (nI y)), some (.inl (v)), none]) (st' := [.inl (0), .inl (v), .inl (nI y), .inl (1), .inl (nI k), .inr (some (10, 0))]) rfl ?_
        refine X_eq (st' := [.inl (0), .inl (v), .inl (nI y), .inl (nI (1)), .inl (nI k), .inr (some (10, 0))]) rfl (congrArg (fun z : Int32 => ([.inl (0), .inl (v), .inl (nI y), .inl z, .inl (nI k), .inr (some (10, 0))] : List AV)) (by first | rfl | (simp only [il_0, il_1, il_2, il_3, il_4, il_5, il_6, il_7, il_16, il_20, il_40, il_160, pk_mul, nI_add]; done) | (simp only [il_0, il_1, il_2, il_3, il_4, il_5, il_6, il_7, il_16, il_20, il_40, il_160, pk_mul, nI_add]; exact congrArg nI (by omega)))) rfl ?_
        refine X_callV (vs := [.inl (nI k), .inl (nI (1)), .inl (nI y), .inl (v), .inl (0)]) (st := []) (mc := 0) (ms := 0) rfl ok_Mo_does v_Mo_134 rfl rfl rfl (Nat.le_of_ble_eq_true rfl) (Nat.le_of_ble_eq_true rfl) (Nat.le_of_ble_eq_true rfl) (Nat.le_of_ble_eq_true rfl) (Nat.le_of_ble_eq_true rfl) (Nat.le_of_ble_eq_true rfl) rfl ?_
        refine c_Mo_does hM1 (by omega) hm (hW.sgB_doS hm (by omega) hy) (fun A2 hM2 => ?_)
        show X M_Mo_count _ _ 36 [some (.inr (some (10, 0))), some (.inl (nI k)), some (.inl (nI y)), some (.inl (v)), none] [.inl (nI (40 * k + mny σ k))] (mH g I1 A2) 0 0
        refine X_run 2 (pc' := 39) (L' := [some (.inr (some (10, 0))), some (.inl (nI k)), some (.inl (nI y)), some (.inl (v)), some (.inl (nI (40 * k + mny σ k)))]) (st' := [.inl (1)]) rfl ?_
        exact X_iret rfl rfl rfl (Nat.le_refl _) (Nat.le_refl _) (hq I1 A2 hM2)
      · rw [b2i_0] at h2
        refine X_run 1 (pc' := 26) (L' := [some (.inr (some (10, 0))), some (.inl (d)), some (.inl (t)), some (.inl (v)), none]) (st' := [.inl (0)]) rfl ?_
        exact X_iret rfl rfl rfl (Nat.le_refl _) (Nat.le_refl _) (no (by rw [h2, Bool.and_false]) I1 A1 hM1)
end

