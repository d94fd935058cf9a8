/-! the model: move, undo, view, meet, device -/
theorem fb_sub1 {n : Nat} (h : n < 2 ^ 30) : (nI n - nI 1).toInt = (n : Int) - 1 := pk_sub_toInt h (by decide)
theorem fb_add1 {n : Nat} (h : n < 2 ^ 30) : (nI n + -1).toInt = (n : Int) - 1 := by
  rw [← fb_sub1 h, show nI n - nI 1 = nI n + -1 from Int32.sub_eq_add_neg (nI n) 1]
def luF (σ : Sg) (see : Nat → Nat) (d : Nat) : Nat → Option Nat
  | 0 => none
  | k + 1 => if so σ (40 * d + k) == 7 || unF σ see (40 * d + k) then luF σ see d k else some k
theorem luF_lt {σ : Sg} {see : Nat → Nat} {d : Nat} : ∀ {k n : Nat}, luF σ see d k = some n → n < k
  | 0, n, h => by cases h
  | k + 1, n, h => by
    unfold luF at h
    split at h
    · have := luF_lt h
      omega
    · cases h
      omega
def sUndo (σ : Sg) (d : Int32) : Sg × Int32 := if canD σ d then (match luF σ (rk σ d.toNatClampNeg d.toNatClampNeg) d.toNatClampNeg (mny σ d.toNatClampNeg) with
  | none => (σ, -1)
  | some n => (doS σ d.toNatClampNeg 7 n 0 0, nI n)) else (σ, -1)
def setV (σ : Sg) (d n : Int32) : Sg := (wn σ, nd σ, rk σ, σ.2.2.2.1, ln σ, d, n)
def sView (σ : Sg) (d n : Int32) : Sg × Int32 := if isD σ d && (decide (n = -1) || decide (0 ≤ n.toInt ∧ n.toInt ≤ (mny σ d.toNatClampNeg : Int) - 1)) then (setV σ d n, 1) else (σ, 0)
def mtV (σ : Sg) (a b f e : Nat) : Nat := if f = a ∨ f = b then max (rk σ a a e) (rk σ b b e) else max (rk σ a f e) (rk σ b f e)
def mtS (σ : Sg) (a b : Nat) : Sg := (wn σ, nd σ, (fun d f e => if d = a ∨ d = b then mtV σ a b f e else rk σ d f e), σ.2.2.2.1, ln σ, vd σ, vn σ)
def sMeet (σ : Sg) (a b : Int32) : Sg × Int32 := if isD σ a && isD σ b && decide (a ≠ b) then (mtS σ a.toNatClampNeg b.toNatClampNeg, nI ((List.range 4).foldl (fun n e => n + mtV σ a.toNatClampNeg b.toNatClampNeg a.toNatClampNeg e) 0)) else (σ, -1)
def addD (σ : Sg) : Sg := (wn σ, nd σ + 1, rk σ, σ.2.2.2.1, ln σ, vd σ, vn σ)
def sDev (σ : Sg) (f : Int32) : Sg × Int32 := if nd σ = 4 then (σ, -1) else if f = -1 then (if 0 < nd σ then (σ, -1) else (addD σ, nI (nd σ))) else if isD σ f then (mtS (addD σ) (nd σ) f.toNatClampNeg, nI (nd σ)) else (σ, -1)
section
variable {g : AH} {I : Nat → Int32} {A : Nat → Nat → Int32} {Q : Option AV → AH → Prop} {σ : Sg} {see : Nat → Nat}
theorem c_Mo_move {d t b : Int32} (hM : MB σ I A) (hW : WF σ)
    (hq : ∀ (I' : Nat → Int32) (A' : Nat → Nat → Int32), MB (sOn σ d t 5 false b (okM σ d t b)).1 I' A' → Q (some (.inl (sOn σ d t 5 false b (okM σ d t b)).2)) (mH g I' A')) : X M_Mo_move (rmo M_Mo_move 0 0) (Zm Q 0 0) 0 (ini M_Mo_move [mo, .inl d, .inl t, .inl b]) [] (mH g I A) 0 0 := by
  have no : (okM σ d t b && canT σ d t false) = false → ∀ I' A', MB σ I' A' → Q (some (.inl 0)) (mH g I' A') := by
    intro h I' A' hM'
    have := hq I' A'
    unfold sOn at this
    rw [h] at this
    exact this hM'
  show X M_Mo_move _ _ 0 [some (.inr (some (10, 0))), some (.inl (d)), some (.inl (t)), some (.inl (b)), none] [] (mH g I A) 0 0
  refine X_run 2 (pc' := 2) (L' := [some (.inr (some (10, 0))), some (.inl (d)), some (.inl (t)), some (.inl (b)), none]) (st' := [.inl (b), .inl (t)]) rfl ?_
  refine X_ic_eq (tgt := 40) (nx := 5) rfl rfl rfl (fun h0 => ?_) (fun h0 => ?_)
  · refine X_run 1 (pc' := 41) (L' := [some (.inr (some (10, 0))), some (.inl (d)), some (.inl (t)), some (.inl (b)), none]) (st' := [.inl (0)]) rfl ?_
    exact X_iret rfl rfl rfl (Nat.le_refl _) (Nat.le_refl _) (no (by simp [okM, h0]) I A hM)
  · refine X_run 4 (pc' := 9) (L' := [some (.inr (some (10, 0))), some (.inl (d)), some (.inl (t)), some (.inl (b)), none]) (st' := [.inl (0), .inl (t), .inl (d), .inr (some (10, 0))]) rfl ?_
    refine X_callV (vs := [.inl (d), .inl (t), .inl (0)]) (st := []) (mc := 0) (ms := 0) rfl ok_Mo_can v_Mo_138 rfl rfl rfl (Nat.le_of_ble_eq_true rfl) (Nat.le_of_ble_eq_true rfl) (Nat.le_of_ble_eq_true rfl) (Nat.le_of_ble_eq_true rfl) (Nat.le_of_ble_eq_true rfl) (Nat.le_of_ble_eq_true rfl) rfl ?_
    refine c_Mo_can (b := false) hM hW (fun I1 A1 hM1 hV => ?_)
    show X M_Mo_move _ _ 12 [some (.inr (some (10, 0))), some (.inl (d)), some (.inl (t)), some (.inl (b)), none] [.inl (b2i (canT σ d t false))] (mH g I1 A1) 0 0
    refine X_if_eq (tgt := 40) (nx := 15) rfl rfl rfl (fun h2 => ?_) (fun h2 => ?_)
    · rw [b2i_0] at h2
      refine X_run 1 (pc' := 41) (L' := [some (.inr (some (10, 0))), some (.inl (d)), some (.inl (t)), some (.inl (b)), none]) (st' := [.inl (0)]) rfl ?_
      exact X_iret rfl rfl rfl (Nat.le_refl _) (Nat.le_refl _) (no (by rw [h2, Bool.and_false]) I1 A1 hM1)
    · rw [b2i_n0] at h2
      replace hV := hV h2
      obtain ⟨k, y, hk, rfl, hm, hcl, hy, rfl, hcy, -, -⟩ := canT_t hM.1.1.1 h2
      have h4 := hM.1.1.1
      rw [hcl] at hV
      have yes : okM σ (nI k) (nI y) b = true → X M_Mo_move (rmo M_Mo_move 0 0) (Zm Q 0 0) 42 [some (.inr (some (10, 0))), some (.inl (nI k)), some (.inl (nI y)), some (.inl b), none] [] (mH g I1 A1) 0 0 := by
        intro hok
        have e : sOn σ (nI k) (nI y) 5 false b (okM σ (nI k) (nI y) b) = (doS σ k 5 y b 0, 1) := by
          unfold sOn
          rw [hok, h2, hcl, hcy]
          rfl
        rw [e] at hq
        refine X_run 6 (pc' := 48) (L' := [some (.inr (some (10, 0))), some (.inl (nI k)), some (.inl (nI y)), some (.inl (b)), none]) (st' := [.inl (0), .inl (b), .inl (nI y), .inl (5), .inl (nI k), .inr (some (10, 0))]) rfl ?_
        refine X_eq (st' := [.inl (0), .inl (b), .inl (nI y), .inl (nI (5)), .inl (nI k), .inr (some (10, 0))]) rfl (congrArg (fun z : Int32 => ([.inl (0), .inl (b), .inl (nI y), .inl z, .inl (nI k), .inr (some (10, 0))] : List AV)) (by first | rfl | (simp only [il_0, il_1, il_2, il_3, il_4, il_5, il_6, il_7, il_16, il_20, il_40, il_160, pk_mul, nI_add]; done) | (simp only [il_0, il_1, il_2, il_3, il_4, il_5, il_6, il_7, il_16, il_20, il_40, il_160, pk_mul, nI_add]; exact congrArg nI (by omega)))) rfl ?_
        refine X_callV (vs := [.inl (nI k), .inl (nI (5)), .inl (nI y), .inl (b), .inl (0)]) (st := []) (mc := 0) (ms := 0) rfl ok_Mo_does v_Mo_134 rfl rfl rfl (Nat.le_of_ble_eq_true rfl) (Nat.le_of_ble_eq_true rfl) (Nat.le_of_ble_eq_true rfl) (Nat.le_of_ble_eq_true rfl) (Nat.le_of_ble_eq_true rfl) (Nat.le_of_ble_eq_true rfl) rfl ?_
        refine c_Mo_does hM1 (by omega) hm (hW.sgB_doS hm (by omega) hy) (fun A2 hM2 => ?_)
        show X M_Mo_move _ _ 51 [some (.inr (some (10, 0))), some (.inl (nI k)), some (.inl (nI y)), some (.inl (b)), none] [.inl (nI (40 * k + mny σ k))] (mH g I1 A2) 0 0
        refine X_run 2 (pc' := 54) (L' := [some (.inr (some (10, 0))), some (.inl (nI k)), some (.inl (nI y)), some (.inl (b)), some (.inl (nI (40 * k + mny σ k)))]) (st' := [.inl (1)]) rfl ?_
        exact X_iret rfl rfl rfl (Nat.le_refl _) (Nat.le_refl _) (hq I1 A2 hM2)
      refine X_run 2 (pc' := 17) (L' := [some (.inr (some (10, 0))), some (.inl (nI k)), some (.inl (nI y)), some (.inl (b)), none]) (st' := [.inl (-1), .inl (b)]) rfl ?_
      refine X_ic_eq (tgt := 42) (nx := 20) rfl rfl rfl (fun h3 => ?_) (fun h3 => ?_)
      · exact yes (by unfold okM; rw [show decide (nI y ≠ b) = true from decide_eq_true h0, show decide (b = -1) = true from decide_eq_true h3]; rfl)
      · refine X_run 3 (pc' := 25) (L' := [some (.inr (some (10, 0))), some (.inl (nI k)), some (.inl (nI y)), some (.inl (b)), none]) (st' := [.inl (159), .inl (0), .inl (b)]) rfl ?_
        refine X_callS (vs := [.inl (b), .inl (0), .inl (159)]) (st := []) (mc := 0) (ms := 0) rfl ok_Mo_in s_Mo_70 rfl rfl (Nat.le_of_ble_eq_true rfl) (Nat.le_of_ble_eq_true rfl) (Nat.le_of_ble_eq_true rfl) (Nat.le_of_ble_eq_true rfl) (Nat.le_of_ble_eq_true rfl) (Nat.le_of_ble_eq_true rfl) rfl ?_
        refine c_Mo_in ?_
        show X M_Mo_move _ _ 28 [some (.inr (some (10, 0))), some (.inl (nI k)), some (.inl (nI y)), some (.inl (b)), none] [.inl (b2i (decide ((0 : Int32) ≤ b ∧ b ≤ 159)))] (mH g I1 A1) 0 0
        refine X_eq (st' := [.inl (b2i (decide (0 ≤ b.toInt ∧ b.toInt ≤ 159)))]) rfl (congrArg (fun z => Sum.inl z :: _) (congrArg b2i in159)) rfl ?_
        refine X_if_eq (tgt := 40) (nx := 31) rfl rfl rfl (fun h5 => ?_) (fun h5 => ?_)
        · rw [b2i_0] at h5
          refine X_run 1 (pc' := 41) (L' := [some (.inr (some (10, 0))), some (.inl (nI k)), some (.inl (nI y)), some (.inl (b)), none]) (st' := [.inl (0)]) rfl ?_
          exact X_iret rfl rfl rfl (Nat.le_refl _) (Nat.le_refl _) (no (by simp only [okM]; rw [show decide (b = -1) = false from decide_eq_false h3, h5]; simp) I1 A1 hM1)
        · rw [b2i_n0] at h5
          obtain ⟨z, hz, rfl⟩ := rng_nI (n := 159) (by decide) (of_decide_eq_true h5)
          have hcz : (nI z).toNatClampNeg = z := nI_clamp (by omega)
          refine X_run 1 (pc' := 32) (L' := [some (.inr (some (10, 0))), some (.inl (nI k)), some (.inl (nI y)), some (.inl (nI z)), none]) (st' := [.inr (some (10, 0))]) rfl ?_
          refine XM_get (v := .inr (some (11, 16))) rfl f_Mo_51 rfl rfl ?_
          refine X_run 1 (pc' := 36) (L' := [some (.inr (some (10, 0))), some (.inl (nI k)), some (.inl (nI y)), some (.inl (nI z)), none]) (st' := [.inl (nI z), .inr (some (11, 16))]) rfl ?_
          refine XM_zld (k := 16) (i := z) rfl (by decide) (by simp only [mln]; omega) rfl ?_
          refine X_eq (st' := [.inl (b2i (thF σ (rk σ k k) z))]) rfl (congrArg (fun z => Sum.inl z :: _) (hV.2.2.1 z (by omega))) rfl ?_
          refine X_if_ne (tgt := 42) (nx := 40) rfl rfl rfl (fun h6 => ?_) (fun h6 => ?_)
          · rw [b2i_n0] at h6
            exact yes (by simp only [okM, hcl, hcz]; rw [h5, h6, show decide (nI y ≠ nI z) = true from decide_eq_true h0]; simp)
          · rw [b2i_0] at h6
            refine X_run 1 (pc' := 41) (L' := [some (.inr (some (10, 0))), some (.inl (nI k)), some (.inl (nI y)), some (.inl (nI z)), none]) (st' := [.inl (0)]) rfl ?_
            exact X_iret rfl rfl rfl (Nat.le_refl _) (Nat.le_refl _) (no (by simp only [okM, hcl, hcz]; rw [h6, show decide (nI z = -1) = false from decide_eq_false h3]; simp) I1 A1 hM1)
theorem c_Mo_undo {d : Int32} (hM : MB σ I A) (hW : WF σ)
    (hq : ∀ (I' : Nat → Int32) (A' : Nat → Nat → Int32), MB (sUndo σ d).1 I' A' → Q (some (.inl (sUndo σ d).2)) (mH g I' A')) : X M_Mo_undo (rmo M_Mo_undo 0 0) (Zm Q 0 0) 0 (ini M_Mo_undo [mo, .inl d]) [] (mH g I A) 0 0 := by
  show X M_Mo_undo _ _ 0 [some (.inr (some (10, 0))), some (.inl (d)), none, none] [] (mH g I A) 0 0
  refine X_run 2 (pc' := 2) (L' := [some (.inr (some (10, 0))), some (.inl (d)), none, none]) (st' := [.inl (d), .inr (some (10, 0))]) rfl ?_
  refine X_callV (vs := [.inl (d)]) (st := []) (mc := 0) (ms := 0) rfl ok_Mo_canDo v_Mo_124 rfl rfl rfl (Nat.le_of_ble_eq_true rfl) (Nat.le_of_ble_eq_true rfl) (Nat.le_of_ble_eq_true rfl) (Nat.le_of_ble_eq_true rfl) (Nat.le_of_ble_eq_true rfl) (Nat.le_of_ble_eq_true rfl) rfl ?_
  refine c_Mo_canDo hM ?_
  show X M_Mo_undo _ _ 5 [some (.inr (some (10, 0))), some (.inl (d)), none, none] [.inl (b2i (canD σ d))] (mH g I A) 0 0
  refine X_if_ne (tgt := 10) (nx := 8) rfl rfl rfl (fun h1 => ?_) (fun h1 => ?_)
  · rw [b2i_n0] at h1
    obtain ⟨k, hk, rfl, hm, hcl⟩ := canD_t hM.1.1.1 h1
    have h4 := hM.1.1.1
    have e0 : sUndo σ (nI k) = (match luF σ (rk σ k k) k (mny σ k) with
      | none => (σ, -1)
      | some n => (doS σ k 7 n 0 0, nI n)) := by
      unfold sUndo
      rw [h1, hcl]
      rfl
    rw [e0] at hq
    refine X_run 2 (pc' := 12) (L' := [some (.inr (some (10, 0))), some (.inl (nI k)), none, none]) (st' := [.inl (nI k), .inr (some (10, 0))]) rfl ?_
    refine X_callV (vs := [.inl (nI k)]) (st := []) (mc := 0) (ms := 0) rfl ok_Mo_sees v_Mo_127 rfl rfl rfl (Nat.le_of_ble_eq_true rfl) (Nat.le_of_ble_eq_true rfl) (Nat.le_of_ble_eq_true rfl) (Nat.le_of_ble_eq_true rfl) (Nat.le_of_ble_eq_true rfl) (Nat.le_of_ble_eq_true rfl) rfl ?_
    refine c_Mo_sees hM hW (by omega) (fun I1 A1 hM1 hV => ?_)
    show X M_Mo_undo _ _ 15 [some (.inr (some (10, 0))), some (.inl (nI k)), none, none] [] (mH g I1 A1) 0 0
    refine X_run 1 (pc' := 16) (L' := [some (.inr (some (10, 0))), some (.inl (nI k)), none, none]) (st' := [.inr (some (10, 0))]) rfl ?_
    refine XM_get (v := .inr (some (11, 2))) rfl f_Mo_7 rfl rfl ?_
    refine X_run 1 (pc' := 20) (L' := [some (.inr (some (10, 0))), some (.inl (nI k)), none, none]) (st' := [.inl (nI k), .inr (some (11, 2))]) rfl ?_
    refine XM_ald (k := 2) (i := k) rfl (by decide) (by simp only [mln]; omega) rfl ?_
    refine X_eq (st' := [.inl (nI (mny σ k))]) rfl (congrArg (fun z => Sum.inl z :: _) (hM1.2.2.2.1 k (by omega))) rfl ?_
    refine X_run 3 (pc' := 24) (L' := [some (.inr (some (10, 0))), some (.inl (nI k)), some (.inl ((nI (mny σ k)) - 1)), none]) (st' := []) rfl ?_
    have key : ∀ n, n ≤ mny σ k → ∀ r : Int32, r.toInt = (n : Int) - 1 → luF σ (rk σ k k) k (mny σ k) = luF σ (rk σ k k) k n → X M_Mo_undo (rmo M_Mo_undo 0 0) (Zm Q 0 0) 24 [some (.inr (some (10, 0))), some (.inl (nI k)), some (.inl r), none] [] (mH g I1 A1) 0 0 := by
      intro n
      induction n with
      | zero =>
        intro hn r hr hl
        have hl : luF σ (rk σ k k) k (mny σ k) = none := hl
        have er : r < 0 := by rw [i32_lt, hr]; show ((0 : Nat) : Int) - 1 < 0; omega
        rw [hl] at hq
        refine X_run 1 (pc' := 25) (L' := [some (.inr (some (10, 0))), some (.inl (nI k)), some (.inl (r)), none]) (st' := [.inl (r)]) rfl ?_
        refine X_if_lt (tgt := 64) (nx := 28) rfl rfl rfl (fun h2 => ?_) (fun h2 => ?_)
        · refine X_run 1 (pc' := 65) (L' := [some (.inr (some (10, 0))), some (.inl (nI k)), some (.inl (r)), none]) (st' := [.inl (r)]) rfl ?_
          refine X_if_ge (tgt := 70) (nx := 68) rfl rfl rfl (fun h3 => ?_) (fun h3 => ?_)
          · exact absurd er (Int32.not_lt.mpr h3)
          · refine X_run 1 (pc' := 69) (L' := [some (.inr (some (10, 0))), some (.inl (nI k)), some (.inl (r)), none]) (st' := [.inl (-1)]) rfl ?_
            exact X_iret rfl rfl rfl (Nat.le_refl _) (Nat.le_refl _) (hq I1 A1 hM1)
        · exact absurd er h2
      | succ n ih =>
        intro hn r hr hl
        have er : r = nI n := by
          rw [← Int32.toInt_inj, hr, nI_toInt (by omega)]
          omega
        subst er
        have es := (hM1.1.2 (40 * k + n) (by omega)).1
        have bs := (hM1.1.1.2.2 (40 * k + n)).1
        have eu := hV.2.1 (40 * k + n) (by omega)
        have el : luF σ (rk σ k k) k (n + 1) = if so σ (40 * k + n) == 7 || unF σ (rk σ k k) (40 * k + n) then luF σ (rk σ k k) k n else some n := rfl
        have dec : (nI n + -1).toInt = (n : Int) - 1 := by
          rw [fb_add1 (by omega)]
        refine X_run 1 (pc' := 25) (L' := [some (.inr (some (10, 0))), some (.inl (nI k)), some (.inl (nI n)), none]) (st' := [.inl (nI n)]) rfl ?_
        refine X_if_lt (tgt := 64) (nx := 28) rfl rfl rfl (fun h2 => ?_) (fun h2 => ?_)
        · exact absurd h2 (nI_pos (by omega))
        · refine X_run 1 (pc' := 29) (L' := [some (.inr (some (10, 0))), some (.inl (nI k)), some (.inl (nI n)), none]) (st' := [.inr (some (10, 0))]) rfl ?_
          refine XM_get (v := .inr (some (11, 3))) rfl f_Mo_13 rfl rfl ?_
          refine X_run 5 (pc' := 38) (L' := [some (.inr (some (10, 0))), some (.inl (nI k)), some (.inl (nI n)), none]) (st' := [.inl ((40 * (nI k)) + (nI n)), .inr (some (11, 3))]) rfl ?_
          refine X_eq (st' := [.inl (nI (40 * k + n)), .inr (some (11, 3))]) rfl (congrArg (fun z => Sum.inl z :: _) (by first | rfl | (simp only [il_0, il_1, il_2, il_3, il_4, il_5, il_6, il_7, il_16, il_20, il_40, il_160, pk_mul, nI_add]; done) | (simp only [il_0, il_1, il_2, il_3, il_4, il_5, il_6, il_7, il_16, il_20, il_40, il_160, pk_mul, nI_add]; exact congrArg nI (by omega)))) rfl ?_
          refine XM_ald (k := 3) (i := (40 * k + n)) rfl (by decide) (by simp only [mln]; omega) rfl ?_
          refine X_eq (st' := [.inl (nI (so σ (40 * k + n)))]) rfl (congrArg (fun z => Sum.inl z :: _) es) rfl ?_
          refine X_run 1 (pc' := 41) (L' := [some (.inr (some (10, 0))), some (.inl (nI k)), some (.inl (nI n)), none]) (st' := [.inl (7), .inl (nI (so σ (40 * k + n)))]) rfl ?_
          refine X_ic_eq (tgt := 58) (nx := 44) rfl rfl rfl (fun h3 => ?_) (fun h3 => ?_)
          · have h3 := li_eq (b := 7) (by omega) (by decide) h3
            refine X_run 2 (pc' := 24) (L' := [some (.inr (some (10, 0))), some (.inl (nI k)), some (.inl (nI n + -1)), none]) (st' := []) rfl ?_
            exact ih (by omega) _ dec (by rw [hl, el, h3]; rfl)
          · have h3 := li_ne (b := 7) h3
            have h3' : (so σ (40 * k + n) == 7) = false := by simpa using h3
            refine X_run 1 (pc' := 45) (L' := [some (.inr (some (10, 0))), some (.inl (nI k)), some (.inl (nI n)), none]) (st' := [.inr (some (10, 0))]) rfl ?_
            refine XM_get (v := .inr (some (11, 15))) rfl f_Mo_47 rfl rfl ?_
            refine X_run 5 (pc' := 54) (L' := [some (.inr (some (10, 0))), some (.inl (nI k)), some (.inl (nI n)), none]) (st' := [.inl ((40 * (nI k)) + (nI n)), .inr (some (11, 15))]) rfl ?_
            refine X_eq (st' := [.inl (nI (40 * k + n)), .inr (some (11, 15))]) rfl (congrArg (fun z => Sum.inl z :: _) (by first | rfl | (simp only [il_0, il_1, il_2, il_3, il_4, il_5, il_6, il_7, il_16, il_20, il_40, il_160, pk_mul, nI_add]; done) | (simp only [il_0, il_1, il_2, il_3, il_4, il_5, il_6, il_7, il_16, il_20, il_40, il_160, pk_mul, nI_add]; exact congrArg nI (by omega)))) rfl ?_
            refine XM_zld (k := 15) (i := (40 * k + n)) rfl (by decide) (by simp only [mln]; omega) rfl ?_
            refine X_eq (st' := [.inl (b2i (unF σ (rk σ k k) (40 * k + n)))]) rfl (congrArg (fun z => Sum.inl z :: _) eu) rfl ?_
            refine X_if_eq (tgt := 64) (nx := 58) rfl rfl rfl (fun h5 => ?_) (fun h5 => ?_)
            · rw [b2i_0] at h5
              have hln : luF σ (rk σ k k) k (mny σ k) = some n := by rw [hl, el, h3', h5]; rfl
              rw [hln] at hq
              refine X_run 1 (pc' := 65) (L' := [some (.inr (some (10, 0))), some (.inl (nI k)), some (.inl (nI n)), none]) (st' := [.inl (nI n)]) rfl ?_
              refine X_if_ge (tgt := 70) (nx := 68) rfl rfl rfl (fun h6 => ?_) (fun h6 => ?_)
              · refine X_run 6 (pc' := 77) (L' := [some (.inr (some (10, 0))), some (.inl (nI k)), some (.inl (nI n)), none]) (st' := [.inl (0), .inl (0), .inl (nI n), .inl (7), .inl (nI k), .inr (some (10, 0))]) rfl ?_
                refine X_eq (st' := [.inl (0), .inl (0), .inl (nI n), .inl (nI (7)), .inl (nI k), .inr (some (10, 0))]) rfl (congrArg (fun z : Int32 => ([.inl (0), .inl (0), .inl (nI n), .inl z, .inl (nI k), .inr (some (10, 0))] : List AV)) (by first | rfl | (simp only [il_0, il_1, il_2, il_3, il_4, il_5, il_6, il_7, il_16, il_20, il_40, il_160, pk_mul, nI_add]; done) | (simp only [il_0, il_1, il_2, il_3, il_4, il_5, il_6, il_7, il_16, il_20, il_40, il_160, pk_mul, nI_add]; exact congrArg nI (by omega)))) rfl ?_
                refine X_callV (vs := [.inl (nI k), .inl (nI (7)), .inl (nI n), .inl (0), .inl (0)]) (st := []) (mc := 0) (ms := 0) rfl ok_Mo_does v_Mo_134 rfl rfl rfl (Nat.le_of_ble_eq_true rfl) (Nat.le_of_ble_eq_true rfl) (Nat.le_of_ble_eq_true rfl) (Nat.le_of_ble_eq_true rfl) (Nat.le_of_ble_eq_true rfl) (Nat.le_of_ble_eq_true rfl) rfl ?_
                refine c_Mo_does hM1 (by omega) hm (hW.sgB_doS hm (by omega) (by omega)) (fun A2 hM2 => ?_)
                show X M_Mo_undo _ _ 80 [some (.inr (some (10, 0))), some (.inl (nI k)), some (.inl (nI n)), none] [.inl (nI (40 * k + mny σ k))] (mH g I1 A2) 0 0
                refine X_run 2 (pc' := 82) (L' := [some (.inr (some (10, 0))), some (.inl (nI k)), some (.inl (nI n)), some (.inl (nI (40 * k + mny σ k)))]) (st' := [.inl (nI n)]) rfl ?_
                exact X_iret rfl rfl rfl (Nat.le_refl _) (Nat.le_refl _) (hq I1 A2 hM2)
              · exact absurd (nI_pos' (by omega)) h6
            · rw [b2i_n0] at h5
              refine X_run 2 (pc' := 24) (L' := [some (.inr (some (10, 0))), some (.inl (nI k)), some (.inl (nI n + -1)), none]) (st' := []) rfl ?_
              exact ih (by omega) _ dec (by rw [hl, el, h3', h5]; rfl)
    exact key (mny σ k) (Nat.le_refl _) _ (by rw [il_1]; exact fb_sub1 (by omega)) rfl
  · rw [b2i_0] at h1
    have e0 : sUndo σ d = (σ, -1) := by
      unfold sUndo
      rw [h1]
      rfl
    rw [e0] at hq
    refine X_run 1 (pc' := 9) (L' := [some (.inr (some (10, 0))), some (.inl (d)), none, none]) (st' := [.inl (-1)]) rfl ?_
    exact X_iret rfl rfl rfl (Nat.le_refl _) (Nat.le_refl _) (hq I A hM)
theorem c_Mo_view {d n : Int32} (hM : MB σ I A)
    (hq : ∀ (I' : Nat → Int32) (A' : Nat → Nat → Int32), MB (sView σ d n).1 I' A' → Q (some (.inl (sView σ d n).2)) (mH g I' A')) : X M_Mo_view (rmo M_Mo_view 0 0) (Zm Q 0 0) 0 (ini M_Mo_view [mo, .inl d, .inl n]) [] (mH g I A) 0 0 := by
  have no : (isD σ d && (decide (n = -1) || decide (0 ≤ n.toInt ∧ n.toInt ≤ (mny σ d.toNatClampNeg : Int) - 1))) = false → Q (some (.inl 0)) (mH g I A) := by
    intro h
    have := hq I A
    unfold sView at this
    rw [h] at this
    exact this hM
  show X M_Mo_view _ _ 0 [some (.inr (some (10, 0))), some (.inl (d)), some (.inl (n))] [] (mH g I A) 0 0
  refine X_run 2 (pc' := 2) (L' := [some (.inr (some (10, 0))), some (.inl (d)), some (.inl (n))]) (st' := [.inl (d), .inr (some (10, 0))]) rfl ?_
  refine X_callV (vs := [.inl (d)]) (st := []) (mc := 0) (ms := 0) rfl ok_Mo_isDevice v_Mo_74 rfl rfl rfl (Nat.le_of_ble_eq_true rfl) (Nat.le_of_ble_eq_true rfl) (Nat.le_of_ble_eq_true rfl) (Nat.le_of_ble_eq_true rfl) (Nat.le_of_ble_eq_true rfl) (Nat.le_of_ble_eq_true rfl) rfl ?_
  refine c_Mo_isDevice hM.2.2.1 hM.1.1.1 ?_
  show X M_Mo_view _ _ 5 [some (.inr (some (10, 0))), some (.inl (d)), some (.inl (n))] [.inl (b2i (isD σ d))] (mH g I A) 0 0
  refine X_if_eq (tgt := 29) (nx := 8) rfl rfl rfl (fun h1 => ?_) (fun h1 => ?_)
  · rw [b2i_0] at h1
    refine X_run 1 (pc' := 30) (L' := [some (.inr (some (10, 0))), some (.inl (d)), some (.inl (n))]) (st' := [.inl (0)]) rfl ?_
    exact X_iret rfl rfl rfl (Nat.le_refl _) (Nat.le_refl _) (no (by rw [h1]; rfl))
  · rw [b2i_n0] at h1
    obtain ⟨k, hk, rfl⟩ := isD_t h1
    have h4 := hM.1.1.1
    have hcl : (nI k).toNatClampNeg = k := nI_clamp (by omega)
    have hb := hM.1.1.2.1 k k k
    rw [hcl] at no
    have yes : (decide (n = -1) || decide (0 ≤ n.toInt ∧ n.toInt ≤ (mny σ k : Int) - 1)) = true → X M_Mo_view (rmo M_Mo_view 0 0) (Zm Q 0 0) 31 [some (.inr (some (10, 0))), some (.inl (nI k)), some (.inl n)] [] (mH g I A) 0 0 := by
      intro hok
      have e : sView σ (nI k) n = (setV σ (nI k) n, 1) := by
        unfold sView
        rw [hcl, h1, hok]
        rfl
      rw [e] at hq
      refine X_run 2 (pc' := 33) (L' := [some (.inr (some (10, 0))), some (.inl (nI k)), some (.inl (n))]) (st' := [.inl (nI k), .inr (some (10, 0))]) rfl ?_
      refine XM_put (k := 10) rfl f_Mo_34 (by decide) (by decide) rfl ?_
      refine X_run 2 (pc' := 38) (L' := [some (.inr (some (10, 0))), some (.inl (nI k)), some (.inl (n))]) (st' := [.inl (n), .inr (some (10, 0))]) rfl ?_
      refine XM_put (k := 11) rfl f_Mo_38 (by decide) (by decide) rfl ?_
      refine X_run 1 (pc' := 42) (L' := [some (.inr (some (10, 0))), some (.inl (nI k)), some (.inl (n))]) (st' := [.inl (1)]) rfl ?_
      exact X_iret rfl rfl rfl (Nat.le_refl _) (Nat.le_refl _) (hq _ A ⟨⟨hM.1.1, hM.1.2⟩, hM.2.1, hM.2.2.1, hM.2.2.2.1, hM.2.2.2.2.1, rfl, rfl⟩)
    refine X_run 2 (pc' := 10) (L' := [some (.inr (some (10, 0))), some (.inl (nI k)), some (.inl (n))]) (st' := [.inl (-1), .inl (n)]) rfl ?_
    refine X_ic_eq (tgt := 31) (nx := 13) rfl rfl rfl (fun h2 => ?_) (fun h2 => ?_)
    · exact yes (by rw [show decide (n = -1) = true from decide_eq_true h2]; rfl)
    · refine X_run 3 (pc' := 16) (L' := [some (.inr (some (10, 0))), some (.inl (nI k)), some (.inl (n))]) (st' := [.inr (some (10, 0)), .inl (0), .inl (n)]) rfl ?_
      refine XM_get (v := .inr (some (11, 2))) rfl f_Mo_7 rfl rfl ?_
      refine X_run 1 (pc' := 20) (L' := [some (.inr (some (10, 0))), some (.inl (nI k)), some (.inl (n))]) (st' := [.inl (nI k), .inr (some (11, 2)), .inl (0), .inl (n)]) rfl ?_
      refine XM_ald (k := 2) (i := k) rfl (by decide) (by simp only [mln]; omega) rfl ?_
      refine X_eq (st' := [.inl (nI (mny σ k)), .inl (0), .inl (n)]) rfl (congrArg (fun z => Sum.inl z :: _) (hM.2.2.2.1 k (by omega))) rfl ?_
      refine X_run 2 (pc' := 23) (L' := [some (.inr (some (10, 0))), some (.inl (nI k)), some (.inl (n))]) (st' := [.inl ((nI (mny σ k)) - 1), .inl (0), .inl (n)]) rfl ?_
      refine X_callS (vs := [.inl (n), .inl (0), .inl ((nI (mny σ k)) - 1)]) (st := []) (mc := 0) (ms := 0) rfl ok_Mo_in s_Mo_70 rfl rfl (Nat.le_of_ble_eq_true rfl) (Nat.le_of_ble_eq_true rfl) (Nat.le_of_ble_eq_true rfl) (Nat.le_of_ble_eq_true rfl) (Nat.le_of_ble_eq_true rfl) (Nat.le_of_ble_eq_true rfl) rfl ?_
      refine c_Mo_in ?_
      show X M_Mo_view _ _ 26 [some (.inr (some (10, 0))), some (.inl (nI k)), some (.inl (n))] [.inl (b2i (decide ((0 : Int32) ≤ n ∧ n ≤ nI (mny σ k) - 1)))] (mH g I A) 0 0
      have e1 : decide ((0 : Int32) ≤ n ∧ n ≤ nI (mny σ k) - 1) = decide (0 ≤ n.toInt ∧ n.toInt ≤ (mny σ k : Int) - 1) := in_dec rfl (by rw [il_1]; exact fb_sub1 (by unfold mny; omega))
      refine X_eq (st' := [.inl (b2i (decide (0 ≤ n.toInt ∧ n.toInt ≤ (mny σ k : Int) - 1)))]) rfl (congrArg (fun z => Sum.inl z :: _) (congrArg b2i e1)) rfl ?_
      refine X_if_ne (tgt := 31) (nx := 29) rfl rfl rfl (fun h3 => ?_) (fun h3 => ?_)
      · rw [b2i_n0] at h3
        exact yes (by rw [h3, Bool.or_true])
      · rw [b2i_0] at h3
        refine X_run 1 (pc' := 30) (L' := [some (.inr (some (10, 0))), some (.inl (nI k)), some (.inl (n))]) (st' := [.inl (0)]) rfl ?_
        exact X_iret rfl rfl rfl (Nat.le_refl _) (Nat.le_refl _) (no (by rw [h3, show decide (n = -1) = false from decide_eq_false h2]; simp))
end

