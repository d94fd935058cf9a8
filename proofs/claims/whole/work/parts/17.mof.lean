/-! the state's steps; the model's base; sees, viewed, canDo, can, does -/
def mny (σ : Sg) (d : Nat) : Nat := rk σ d d d
/-- what must hold of the state, always -/
def WF (σ : Sg) : Prop := sgB σ ∧ (∀ x, x ∈ ln σ ↔ x < 160 ∧ x % 40 < mny σ (x / 40)) ∧ (ln σ).Pairwise (fun x y => ahd σ x y = true) ∧
  (∀ x, x ∈ ln σ → so σ x ≠ 0 → so σ x ≠ 7 → so σ (tg σ x) = 0 ∧ tg σ x ∈ ln σ ∧ knw σ x (tg σ x) = true) ∧ (∀ x, x ∈ ln σ → so σ x = 0 → tg σ x = x ∧ 0 ≤ (vl σ x).toInt ∧ (vl σ x).toInt ≤ 99 ∧ 1 ≤ (nu σ x).toInt ∧ (nu σ x).toInt ≤ 999) ∧
  (∀ x, x ∈ ln σ → so σ x = 7 → tg σ x < x % 40) ∧ (∀ x, x ∈ ln σ → so σ x = 5 → vl σ x = -1 ∨ ∃ k, k < 160 ∧ vl σ x = nI k) ∧ (∀ x, x ∈ ln σ → so σ x = 2 → 1 ≤ (vl σ x).toInt ∧ (vl σ x).toInt ≤ 99) ∧ (∀ x, x ∈ ln σ → so σ x = 6 → 1 ≤ (vl σ x).toInt ∧ (vl σ x).toInt ≤ 999) ∧
  (∀ x y, x ∈ ln σ → y ∈ ln σ → knw σ x y = true → sp σ y < sp σ x) ∧ (∀ x, x ∈ ln σ → kn σ x (x / 40) = x % 40 ∧ 1 ≤ sp σ x ∧ ∀ e, kn σ x e ≤ mny σ e) ∧
  (∀ d f e, rk σ d f e ≤ mny σ e ∧ rk σ d f e ≤ rk σ f f e ∧ (nd σ ≤ d ∨ nd σ ≤ f ∨ nd σ ≤ e → rk σ d f e = 0)) ∧
  (ln σ).length = mny σ 0 + mny σ 1 + mny σ 2 + mny σ 3 ∧ (∀ x, x ∈ ln σ → sp σ x ≤ (ln σ).length) ∧
  ((vd σ = -1 ∧ vn σ = -1) ∨ ∃ d, d < nd σ ∧ vd σ = nI d ∧ (vn σ = -1 ∨ ∃ n, n < mny σ d ∧ vn σ = nI n))
def MB (σ : Sg) (I : Nat → Int32) (A : Nat → Nat → Int32) : Prop := MD σ A ∧ I 0 = b2i (wn σ) ∧ I 1 = nI (nd σ) ∧ (∀ d, d < 4 → A 2 d = nI (rk σ d d d)) ∧ (∀ d f e, d < 4 → f < 4 → e < 4 → A 9 (16 * d + 4 * f + e) = nI (rk σ d f e)) ∧ I 10 = vd σ ∧ I 11 = vn σ
theorem MB.up {σ : Sg} {I I' : Nat → Int32} {A A' : Nat → Nat → Int32} (h : MB σ I A) (hI : I' 0 = I 0 ∧ I' 1 = I 1 ∧ I' 10 = I 10 ∧ I' 11 = I 11) (hA : ∀ k, 2 ≤ k → k ≤ 9 → A' k = A k) : MB σ I' A' := by
  obtain ⟨h1, h2, h3, h4, h5, h6, h7⟩ := h
  refine ⟨⟨h1.1, fun x hx => ?_⟩, hI.1.trans h2, hI.2.1.trans h3, fun d hd => by rw [hA 2 (by omega) (by omega)]; exact h4 d hd, fun d f e a b c => by rw [hA 9 (by omega) (by omega)]; exact h5 d f e a b c, hI.2.2.1.trans h6, hI.2.2.2.trans h7⟩
  rw [hA 3 (by omega) (by omega), hA 4 (by omega) (by omega), hA 5 (by omega) (by omega), hA 6 (by omega) (by omega), hA 7 (by omega) (by omega), hA 8 (by omega) (by omega)]
  exact h1.2 x hx
/-- a view of which each device has done so many -/
def okS (σ : Sg) (see : Nat → Nat) : Prop := ∀ e, see e ≤ mny σ e
theorem WF.sLn {σ : Sg} (h : WF σ) {see : Nat → Nat} (hs : okS σ see) : sLn σ see := by
  obtain ⟨w1, w2, w3, w4, w5, w6, w7, w8, w9, w10, w11, w12, w13, w14, w15⟩ := h
  refine ⟨fun x hx => ((w2 x).mp hx).1, fun x hx hv => (w2 x).mpr ⟨hx, ?_⟩, w3, fun x hx h0 h7 => ?_, fun x hx h7 => ?_, w7⟩
  · have h1 : x % 40 < see (x / 40) := by simpa [inV] using hv
    exact Nat.lt_of_lt_of_le h1 (hs _)
  · obtain ⟨q1, q2, q3⟩ := w4 x hx h0 h7
    refine ⟨q1, ?_⟩
    have := w10 x _ hx q2 q3
    simp [ahd, this]
  · have := w6 x hx h7
    omega
def stpK (σ : Sg) (s e k : Nat) : Nat := (List.range k).foldl (fun s j => if s ≤ sp σ (40 * e + j) then sp σ (40 * e + j) + 1 else s) s
def stpE (σ : Sg) (d k : Nat) : Nat := (List.range k).foldl (fun s e => stpK σ s e (rk σ d d e)) 1
/-- the stamp of the next deed of a device -/
def stpF (σ : Sg) (d : Nat) : Nat := stpE σ d 4
def up1 {β : Type} (f : Nat → β) (k : Nat) (v : β) : Nat → β := fun j => if j = k then v else f j
/-- device d does its next deed -/
def doS (σ : Sg) (d w t : Nat) (v n : Int32) : Sg :=
  let x := 40 * d + mny σ d
  let dd : (Nat → Nat) × (Nat → Nat) × (Nat → Nat) × (Nat → Int32) × (Nat → Int32) × (Nat → Nat → Nat) := (up1 (so σ) x w, up1 (sp σ) x (stpF σ d), up1 (tg σ) x t, up1 (vl σ) x v, up1 (nu σ) x n, up1 (kn σ) x (rk σ d d))
  let a : Nat → Bool := fun y => decide (stpF σ d < sp σ y) || (decide (stpF σ d = sp σ y) && decide (d < y / 40))
  (wn σ, nd σ, (fun d' f e => if d' = d ∧ f = d ∧ e = d then mny σ d + 1 else rk σ d' f e), dd, (ln σ).filter (fun y => !a y) ++ x :: (ln σ).filter a, vd σ, vn σ)
def isD (σ : Sg) (d : Int32) : Bool := decide (0 ≤ d.toInt ∧ d.toInt < nd σ)
theorem isD_t {σ : Sg} {d : Int32} (h : isD σ d = true) : ∃ k, k < nd σ ∧ d = nI k := by
  have h1 : 0 ≤ d.toInt ∧ d.toInt < nd σ := by simpa [isD] using h
  obtain ⟨j, hj, e⟩ := nI_of (x := d) (by rw [i32_lt]; show ¬ d.toInt < 0; omega)
  refine ⟨j, ?_, e⟩
  rw [e, nI_toInt hj] at h1
  omega
theorem isD_nI {σ : Sg} {k : Nat} (hk : k < 2 ^ 31) : isD σ (nI k) = decide (k < nd σ) := by
  unfold isD
  rw [nI_toInt hk]
  exact decide_eq_decide.mpr (by omega)
def canD (σ : Sg) (d : Int32) : Bool := isD σ d && decide (mny σ d.toNatClampNeg < 40)
section
variable {g : AH} {I : Nat → Int32} {A : Nat → Nat → Int32} {Q : Option AV → AH → Prop} {σ : Sg} {see : Nat → Nat}
theorem c_Mo_canDo {d : Int32} (hM : MB σ I A) (hq : Q (some (.inl (b2i (canD σ d)))) (mH g I A)) : X M_Mo_canDo (rmo M_Mo_canDo 0 0) (Zm Q 0 0) 0 (ini M_Mo_canDo [mo, .inl d]) [] (mH g I A) 0 0 := by
  show X M_Mo_canDo _ _ 0 [some (.inr (some (10, 0))), some (.inl (d))] [] (mH g I A) 0 0
  refine X_run 2 (pc' := 2) (L' := [some (.inr (some (10, 0))), some (.inl (d))]) (st' := [.inl (d), .inr (some (10, 0))]) rfl ?_
  refine X_callV (vs := [.inl (d)]) (st := []) (mc := 0) (ms := 0) rfl ok_Mo_isDevice v_Mo_74 rfl rfl rfl (Nat.le_of_ble_eq_true rfl) (Nat.le_of_ble_eq_true rfl) (Nat.le_of_ble_eq_true rfl) (Nat.le_of_ble_eq_true rfl) (Nat.le_of_ble_eq_true rfl) (Nat.le_of_ble_eq_true rfl) rfl ?_
  refine c_Mo_isDevice hM.2.2.1 hM.1.1.1 ?_
  show X M_Mo_canDo _ _ 5 [some (.inr (some (10, 0))), some (.inl (d))] [.inl (b2i (isD σ d))] (mH g I A) 0 0
  refine X_if_eq (tgt := 23) (nx := 8) rfl rfl rfl (fun h1 => ?_) (fun h1 => ?_)
  · rw [b2i_0] at h1
    refine X_run 1 (pc' := 24) (L' := [some (.inr (some (10, 0))), some (.inl (d))]) (st' := [.inl (0)]) rfl ?_
    exact X_iret rfl rfl rfl (Nat.le_refl _) (Nat.le_refl _) (qf (by simp [canD, h1]) hq)
  · rw [b2i_n0] at h1
    obtain ⟨k, hk, rfl⟩ := isD_t h1
    have h4 := hM.1.1.1
    have hb := hM.1.1.2.1 k k k
    have hcl : (nI k).toNatClampNeg = k := nI_clamp (by omega)
    refine X_run 1 (pc' := 9) (L' := [some (.inr (some (10, 0))), some (.inl (nI k))]) (st' := [.inr (some (10, 0))]) rfl ?_
    refine XM_get (v := .inr (some (11, 2))) rfl f_Mo_7 rfl rfl ?_
    refine X_run 1 (pc' := 13) (L' := [some (.inr (some (10, 0))), some (.inl (nI k))]) (st' := [.inl (nI k), .inr (some (11, 2))]) rfl ?_
    refine XM_ald (k := 2) (i := k) rfl (by decide) (by simp only [mln]; omega) rfl ?_
    refine X_eq (st' := [.inl (nI (rk σ k k k))]) rfl (congrArg (fun z => Sum.inl z :: _) (hM.2.2.2.1 k (by omega))) rfl ?_
    refine X_run 1 (pc' := 16) (L' := [some (.inr (some (10, 0))), some (.inl (nI k))]) (st' := [.inl (40), .inl (nI (rk σ k k k))]) rfl ?_
    refine X_ic_ge (tgt := 23) (nx := 19) rfl rfl rfl (fun h2 => ?_) (fun h2 => ?_)
    · have h2 := li_le (a := 40) (by decide) (by omega) h2
      refine X_run 1 (pc' := 24) (L' := [some (.inr (some (10, 0))), some (.inl (nI k))]) (st' := [.inl (0)]) rfl ?_
      exact X_iret rfl rfl rfl (Nat.le_refl _) (Nat.le_refl _) (qf (by simp [canD, hcl, mny]; intro _; omega) hq)
    · have h2 := li_nle (a := 40) (by decide) (by omega) h2
      refine X_run 2 (pc' := 24) (L' := [some (.inr (some (10, 0))), some (.inl (nI k))]) (st' := [.inl (1)]) rfl ?_
      exact X_iret rfl rfl rfl (Nat.le_refl _) (Nat.le_refl _) (qt (by simp [canD, hcl, h1, mny, h2]) hq)
theorem c_Mo_sees {d : Nat} (hM : MB σ I A) (hW : WF σ) (hd : d < 4)
    (hq : ∀ (I' : Nat → Int32) (A' : Nat → Nat → Int32), MB σ I' A' → MV σ (rk σ d d) I' A' → Q none (mH g I' A')) : X M_Mo_sees (rmo M_Mo_sees 0 0) (Zm Q 0 0) 0 (ini M_Mo_sees [mo, .inl (nI d)]) [] (mH g I A) 0 0 := by
  show X M_Mo_sees _ _ 0 [some (.inr (some (10, 0))), some (.inl (nI d)), none] [] (mH g I A) 0 0
  refine X_run 2 (pc' := 2) (L' := [some (.inr (some (10, 0))), some (.inl (nI d)), some (.inl (0))]) (st' := []) rfl ?_
  refine X_eq (L' := [some (.inr (some (10, 0))), some (.inl (nI d)), some (.inl (nI (0)))]) (congrArg (fun z : Int32 => ([some (.inr (some (10, 0))), some (.inl (nI d)), some (.inl z)] : List (Option AV))) (by first | rfl | (simp only [il_0, il_1, il_2, il_3, il_4, il_5, il_6, il_7, il_16, il_20, il_40, il_160, pk_mul, nI_add]; done) | (simp only [il_0, il_1, il_2, il_3, il_4, il_5, il_6, il_7, il_16, il_20, il_40, il_160, pk_mul, nI_add]; exact congrArg nI (by omega)))) rfl rfl ?_
  refine up_ind 4 (fun i => ∀ (A2 : Nat → Nat → Int32), (∀ k, k ≠ 12 → A2 k = A k) → (∀ e, e < i → A2 12 e = nI (rk σ d d e)) → X M_Mo_sees (rmo M_Mo_sees 0 0) (Zm Q 0 0) 2 [some (.inr (some (10, 0))), some (.inl (nI d)), some (.inl (nI i))] [] (mH g I A2) 0 0) ?_ 0 (by omega) A (fun _ _ => rfl) (fun e he => by omega)
  intro i hi ih A2 hA2 hs
  refine X_run 2 (pc' := 4) (L' := [some (.inr (some (10, 0))), some (.inl (nI d)), some (.inl (nI i))]) (st' := [.inl (4), .inl (nI i)]) rfl ?_
  refine X_ic_ge (tgt := 25) (nx := 7) rfl rfl rfl (fun h1 => ?_) (fun h1 => ?_)
  · have h1 := li_le (a := 4) (by decide) (by omega) h1
    have hM2 : MB σ I A2 := hM.up ⟨rfl, rfl, rfl, rfl⟩ (fun k _ _ => hA2 k (by omega))
    refine X_run 1 (pc' := 26) (L' := [some (.inr (some (10, 0))), some (.inl (nI d)), some (.inl (nI i))]) (st' := [.inr (some (10, 0))]) rfl ?_
    refine X_callV (vs := []) (st := []) (mc := 0) (ms := 0) rfl ok_Mo_lays v_Mo_88 rfl rfl rfl (Nat.le_of_ble_eq_true rfl) (Nat.le_of_ble_eq_true rfl) (Nat.le_of_ble_eq_true rfl) (Nat.le_of_ble_eq_true rfl) (Nat.le_of_ble_eq_true rfl) (Nat.le_of_ble_eq_true rfl) rfl ?_
    refine c_Mo_lays (see := rk σ d d) hM2.1 (fun e he => ⟨hs e (by omega), hM.1.1.2.1 d d e⟩) (hW.sLn (fun e => (hW.2.2.2.2.2.2.2.2.2.2.2.1 d d e).1)) (fun I3 A3 e1 e2 e3 => ?_)
    show X M_Mo_sees _ _ 29 [some (.inr (some (10, 0))), some (.inl (nI d)), some (.inl (nI i))] [] (mH g I3 A3) 0 0
    exact X_vret rfl rfl (Nat.le_refl _) (Nat.le_refl _) (hq I3 A3 (hM2.up ⟨e1 0 (by omega) (by omega), e1 1 (by omega) (by omega), e1 10 (by omega) (by omega), e1 11 (by omega) (by omega)⟩ (fun k _ _ => e2 k (by omega) (by omega) (by omega) (by omega))) e3)
  · have h1 := li_nle (a := 4) (by decide) (by omega) h1
    refine X_run 1 (pc' := 8) (L' := [some (.inr (some (10, 0))), some (.inl (nI d)), some (.inl (nI i))]) (st' := [.inr (some (10, 0))]) rfl ?_
    refine XM_get (v := .inr (some (11, 12))) rfl f_Mo_41 rfl rfl ?_
    refine X_run 4 (pc' := 15) (L' := [some (.inr (some (10, 0))), some (.inl (nI d)), some (.inl (nI i))]) (st' := [.inl (nI i), .inl (nI d), .inr (some (10, 0)), .inl (nI i), .inr (some (11, 12))]) rfl ?_
    refine X_callV (vs := [.inl (nI d), .inl (nI i)]) (st := [.inl (nI i), .inr (some (11, 12))]) (mc := 0) (ms := 0) rfl ok_Mo_known v_Mo_82 rfl rfl rfl (Nat.le_of_ble_eq_true rfl) (Nat.le_of_ble_eq_true rfl) (Nat.le_of_ble_eq_true rfl) (Nat.le_of_ble_eq_true rfl) (Nat.le_of_ble_eq_true rfl) (Nat.le_of_ble_eq_true rfl) rfl ?_
    refine c_Mo_known hd h1 ?_
    show X M_Mo_sees _ _ 18 [some (.inr (some (10, 0))), some (.inl (nI d)), some (.inl (nI i))] [.inl (A2 9 (20 * d + i)), .inl (nI i), .inr (some (11, 12))] (mH g I A2) 0 0
    refine X_eq (st' := [.inl (nI (rk σ d d i)), .inl (nI i), .inr (some (11, 12))]) rfl (congrArg (fun z => Sum.inl z :: _) (by rw [hA2 9 (by omega), show 20 * d + i = 16 * d + 4 * d + i by omega]; exact hM.2.2.2.2.1 d d i hd hd h1)) rfl ?_
    refine XM_ast (k := 12) (i := i) rfl (by decide) (by simp only [mln]; omega) rfl ?_
    refine X_run 2 (pc' := 2) (L' := [some (.inr (some (10, 0))), some (.inl (nI d)), some (.inl (nI i + 1))]) (st' := []) rfl ?_
    refine X_eq (L' := [some (.inr (some (10, 0))), some (.inl (nI d)), some (.inl (nI (i + 1)))]) (congrArg (fun z : Int32 => ([some (.inr (some (10, 0))), some (.inl (nI d)), some (.inl z)] : List (Option AV))) (by first | rfl | (simp only [il_0, il_1, il_2, il_3, il_4, il_5, il_6, il_7, il_16, il_20, il_40, il_160, pk_mul, nI_add]; done) | (simp only [il_0, il_1, il_2, il_3, il_4, il_5, il_6, il_7, il_16, il_20, il_40, il_160, pk_mul, nI_add]; exact congrArg nI (by omega)))) rfl rfl ?_
    refine ih h1 _ (fun k hk => by funext j; rw [ua_k hk, hA2 k hk]) (fun e he => ?_)
    by_cases q : e = i
    · rw [q, ua_eq]
    · rw [ua_i q]
      exact hs e (by omega)
/-- what the view shows -/
def vsee (σ : Sg) (e : Nat) : Nat := if vn σ = -1 then rk σ (vd σ).toNatClampNeg (vd σ).toNatClampNeg e else kn σ (40 * (vd σ).toNatClampNeg + (vn σ).toNatClampNeg) e + (if e = (vd σ).toNatClampNeg then 1 else 0)
theorem c_Mo_viewed (hM : MB σ I A) (hW : WF σ) (hv : vd σ ≠ -1)
    (hq : ∀ (I' : Nat → Int32) (A' : Nat → Nat → Int32), MB σ I' A' → MV σ (vsee σ) I' A' → Q none (mH g I' A')) : X M_Mo_viewed (rmo M_Mo_viewed 0 0) (Zm Q 0 0) 0 (ini M_Mo_viewed [mo]) [] (mH g I A) 0 0 := by
  have hWr := hW.2.2.2.2.2.2.2.2.2.2.2.1
  have hWk := hW.2.2.2.2.2.2.2.2.2.2.1
  obtain ⟨d, hd, ed, hn⟩ : ∃ d, d < nd σ ∧ vd σ = nI d ∧ (vn σ = -1 ∨ ∃ n, n < mny σ d ∧ vn σ = nI n) := by
    rcases hW.2.2.2.2.2.2.2.2.2.2.2.2.2.2 with q | q
    · exact absurd q.1 hv
    · exact q
  have h4 := hM.1.1.1
  have hd4 : d < 4 := by omega
  have hcd : (vd σ).toNatClampNeg = d := by rw [ed]; exact nI_clamp (by omega)
  have hsee : ∀ e, vsee σ e ≤ mny σ e ∧ vsee σ e ≤ 40 := by
    intro e
    unfold vsee
    rw [hcd]
    rcases hn with q | ⟨n, hn, q⟩
    · rw [if_pos q]
      exact ⟨(hWr d d e).1, hM.1.1.2.1 d d e⟩
    · have hne : ¬ nI n = -1 := by
        intro z
        have hn40 := hM.1.1.2.1 d d d
        have h1 := congrArg Int32.toInt z
        rw [nI_toInt (by unfold mny at hn; omega)] at h1
        have h2 : (-1 : Int32).toInt = -1 := by decide
        rw [h2] at h1
        omega
      have hn40 := hM.1.1.2.1 d d d
      have hcn : (nI n).toNatClampNeg = n := nI_clamp (by unfold mny at hn; omega)
      have hx : 40 * d + n ∈ ln σ := (hW.2.1 _).mpr ⟨by unfold mny at hn; omega, by unfold mny at hn; rw [show (40 * d + n) % 40 = n by omega, show (40 * d + n) / 40 = d by omega]; exact hn⟩
      obtain ⟨k1, -, k2⟩ := hWk _ hx
      rw [show (40 * d + n) / 40 = d by unfold mny at hn; omega, show (40 * d + n) % 40 = n by unfold mny at hn; omega] at k1
      have he40 := hM.1.1.2.1 e e e
      have := k2 e
      rw [q, if_neg hne, hcn]
      by_cases e1 : e = d
      · rw [if_pos e1, e1, k1]
        unfold mny at *
        omega
      · rw [if_neg e1]
        unfold mny at *
        omega
  show X M_Mo_viewed _ _ 0 [some (.inr (some (10, 0))), none] [] (mH g I A) 0 0
  refine X_run 2 (pc' := 2) (L' := [some (.inr (some (10, 0))), some (.inl (0))]) (st' := []) rfl ?_
  refine X_eq (L' := [some (.inr (some (10, 0))), some (.inl (nI (0)))]) (congrArg (fun z : Int32 => ([some (.inr (some (10, 0))), some (.inl z)] : List (Option AV))) (by first | rfl | (simp only [il_0, il_1, il_2, il_3, il_4, il_5, il_6, il_7, il_16, il_20, il_40, il_160, pk_mul, nI_add]; done) | (simp only [il_0, il_1, il_2, il_3, il_4, il_5, il_6, il_7, il_16, il_20, il_40, il_160, pk_mul, nI_add]; exact congrArg nI (by omega)))) rfl rfl ?_
  refine up_ind 4 (fun i => ∀ (A2 : Nat → Nat → Int32), (∀ k, k ≠ 12 → A2 k = A k) → (∀ e, e < i → A2 12 e = nI (vsee σ e)) → X M_Mo_viewed (rmo M_Mo_viewed 0 0) (Zm Q 0 0) 2 [some (.inr (some (10, 0))), some (.inl (nI i))] [] (mH g I A2) 0 0) ?_ 0 (by omega) A (fun _ _ => rfl) (fun e he => by omega)
  intro i hi ih A2 hA2 hs
  refine X_run 2 (pc' := 4) (L' := [some (.inr (some (10, 0))), some (.inl (nI i))]) (st' := [.inl (4), .inl (nI i)]) rfl ?_
  refine X_ic_ge (tgt := 74) (nx := 7) rfl rfl rfl (fun h1 => ?_) (fun h1 => ?_)
  · have h1 := li_le (a := 4) (by decide) (by omega) h1
    have hM2 : MB σ I A2 := hM.up ⟨rfl, rfl, rfl, rfl⟩ (fun k _ _ => hA2 k (by omega))
    refine X_run 1 (pc' := 75) (L' := [some (.inr (some (10, 0))), some (.inl (nI i))]) (st' := [.inr (some (10, 0))]) rfl ?_
    refine X_callV (vs := []) (st := []) (mc := 0) (ms := 0) rfl ok_Mo_lays v_Mo_88 rfl rfl rfl (Nat.le_of_ble_eq_true rfl) (Nat.le_of_ble_eq_true rfl) (Nat.le_of_ble_eq_true rfl) (Nat.le_of_ble_eq_true rfl) (Nat.le_of_ble_eq_true rfl) (Nat.le_of_ble_eq_true rfl) rfl ?_
    refine c_Mo_lays (see := vsee σ) hM2.1 (fun e he => ⟨hs e (by omega), (hsee e).2⟩) (hW.sLn (fun e => (hsee e).1)) (fun I3 A3 e1 e2 e3 => ?_)
    show X M_Mo_viewed _ _ 78 [some (.inr (some (10, 0))), some (.inl (nI i))] [] (mH g I3 A3) 0 0
    exact X_vret rfl rfl (Nat.le_refl _) (Nat.le_refl _) (hq I3 A3 (hM2.up ⟨e1 0 (by omega) (by omega), e1 1 (by omega) (by omega), e1 10 (by omega) (by omega), e1 11 (by omega) (by omega)⟩ (fun k _ _ => e2 k (by omega) (by omega) (by omega) (by omega))) e3)
  · have h1 := li_nle (a := 4) (by decide) (by omega) h1
    have next : ∀ y : Int32, y = nI (vsee σ i) → X M_Mo_viewed (rmo M_Mo_viewed 0 0) (Zm Q 0 0) 67 [some (.inr (some (10, 0))), some (.inl (nI i))] [.inl y, .inl (nI i), .inr (some (11, 12))] (mH g I A2) 0 0 := by
      intro y hy
      refine X_eq (st' := [.inl (nI (vsee σ i)), .inl (nI i), .inr (some (11, 12))]) rfl (congrArg (fun z => Sum.inl z :: _) hy) rfl ?_
      refine XM_ast (k := 12) (i := i) rfl (by decide) (by simp only [mln]; omega) rfl ?_
      refine X_run 2 (pc' := 2) (L' := [some (.inr (some (10, 0))), some (.inl (nI i + 1))]) (st' := []) rfl ?_
      refine X_eq (L' := [some (.inr (some (10, 0))), some (.inl (nI (i + 1)))]) (congrArg (fun z : Int32 => ([some (.inr (some (10, 0))), some (.inl z)] : List (Option AV))) (by first | rfl | (simp only [il_0, il_1, il_2, il_3, il_4, il_5, il_6, il_7, il_16, il_20, il_40, il_160, pk_mul, nI_add]; done) | (simp only [il_0, il_1, il_2, il_3, il_4, il_5, il_6, il_7, il_16, il_20, il_40, il_160, pk_mul, nI_add]; exact congrArg nI (by omega)))) rfl rfl ?_
      refine ih h1 _ (fun k hk => by funext j; rw [ua_k hk, hA2 k hk]) (fun e he => ?_)
      by_cases q : e = i
      · rw [q, ua_eq]
      · rw [ua_i q]
        exact hs e (by omega)
    refine X_run 1 (pc' := 8) (L' := [some (.inr (some (10, 0))), some (.inl (nI i))]) (st' := [.inr (some (10, 0))]) rfl ?_
    refine XM_get (v := .inr (some (11, 12))) rfl f_Mo_41 rfl rfl ?_
    refine X_run 2 (pc' := 13) (L' := [some (.inr (some (10, 0))), some (.inl (nI i))]) (st' := [.inr (some (10, 0)), .inl (nI i), .inr (some (11, 12))]) rfl ?_
    refine XM_get (v := .inl (I 11)) rfl f_Mo_38 rfl rfl ?_
    refine X_eq (st' := [.inl (vn σ), .inl (nI i), .inr (some (11, 12))]) rfl (congrArg (fun z => Sum.inl z :: _) hM.2.2.2.2.2.2) rfl ?_
    refine X_run 1 (pc' := 17) (L' := [some (.inr (some (10, 0))), some (.inl (nI i))]) (st' := [.inl (-1), .inl (vn σ), .inl (nI i), .inr (some (11, 12))]) rfl ?_
    refine X_ic_ne (tgt := 32) (nx := 20) rfl rfl rfl (fun h2 => ?_) (fun h2 => ?_)
    · obtain ⟨n, hn, en⟩ : ∃ n, n < mny σ d ∧ vn σ = nI n := by
        rcases hn with q | q
        · exact absurd q h2
        · exact q
      have hn40 := hM.1.1.2.1 d d d
      have hn2 : n < 40 := by unfold mny at hn; omega
      have hcn : (nI n).toNatClampNeg = n := nI_clamp (by omega)
      have ek := (hM.1.2 (40 * d + n) (by omega)).2.2.2.2.2 i h1
      have evs : vsee σ i = kn σ (40 * d + n) i + (if i = d then 1 else 0) := by
        unfold vsee
        rw [if_neg h2, hcd, en, hcn]
      refine X_run 1 (pc' := 33) (L' := [some (.inr (some (10, 0))), some (.inl (nI i))]) (st' := [.inr (some (10, 0)), .inl (nI i), .inr (some (11, 12))]) rfl ?_
      refine XM_get (v := .inr (some (11, 8))) rfl f_Mo_28 rfl rfl ?_
      refine X_run 3 (pc' := 40) (L' := [some (.inr (some (10, 0))), some (.inl (nI i))]) (st' := [.inr (some (10, 0)), .inl (40), .inl (4), .inr (some (11, 8)), .inl (nI i), .inr (some (11, 12))]) rfl ?_
      refine XM_get (v := .inl (I 10)) rfl f_Mo_34 rfl rfl ?_
      refine X_eq (st' := [.inl (nI d), .inl (40), .inl (4), .inr (some (11, 8)), .inl (nI i), .inr (some (11, 12))]) rfl (congrArg (fun z => Sum.inl z :: _) (hM.2.2.2.2.2.1.trans ed)) rfl ?_
      refine X_run 2 (pc' := 45) (L' := [some (.inr (some (10, 0))), some (.inl (nI i))]) (st' := [.inr (some (10, 0)), .inl (40 * (nI d)), .inl (4), .inr (some (11, 8)), .inl (nI i), .inr (some (11, 12))]) rfl ?_
      refine XM_get (v := .inl (I 11)) rfl f_Mo_38 rfl rfl ?_
      refine X_eq (st' := [.inl (nI n), .inl (40 * (nI d)), .inl (4), .inr (some (11, 8)), .inl (nI i), .inr (some (11, 12))]) rfl (congrArg (fun z => Sum.inl z :: _) (hM.2.2.2.2.2.2.trans en)) rfl ?_
      refine X_run 4 (pc' := 52) (L' := [some (.inr (some (10, 0))), some (.inl (nI i))]) (st' := [.inl ((4 * ((40 * (nI d)) + (nI n))) + (nI i)), .inr (some (11, 8)), .inl (nI i), .inr (some (11, 12))]) rfl ?_
      refine X_eq (st' := [.inl (nI (4 * (40 * d + n) + i)), .inr (some (11, 8)), .inl (nI i), .inr (some (11, 12))]) rfl (congrArg (fun z => Sum.inl z :: _) (by first | rfl | (simp only [il_0, il_1, il_2, il_3, il_4, il_5, il_6, il_7, il_16, il_20, il_40, il_160, pk_mul, nI_add]; done) | (simp only [il_0, il_1, il_2, il_3, il_4, il_5, il_6, il_7, il_16, il_20, il_40, il_160, pk_mul, nI_add]; exact congrArg nI (by omega)))) rfl ?_
      refine XM_ald (k := 8) (i := (4 * (40 * d + n) + i)) rfl (by decide) (by simp only [mln]; omega) rfl ?_
      refine X_eq (st' := [.inl (nI (kn σ (40 * d + n) i)), .inl (nI i), .inr (some (11, 12))]) rfl (congrArg (fun z => Sum.inl z :: _) (by rw [hA2 8 (by omega)]; exact ek)) rfl ?_
      refine X_run 2 (pc' := 55) (L' := [some (.inr (some (10, 0))), some (.inl (nI i))]) (st' := [.inr (some (10, 0)), .inl (nI i), .inl (nI (kn σ (40 * d + n) i)), .inl (nI i), .inr (some (11, 12))]) rfl ?_
      refine XM_get (v := .inl (I 10)) rfl f_Mo_34 rfl rfl ?_
      refine X_eq (st' := [.inl (nI d), .inl (nI i), .inl (nI (kn σ (40 * d + n) i)), .inl (nI i), .inr (some (11, 12))]) rfl (congrArg (fun z => Sum.inl z :: _) (hM.2.2.2.2.2.1.trans ed)) rfl ?_
      refine X_ic_ne (tgt := 65) (nx := 61) rfl rfl rfl (fun h3 => ?_) (fun h3 => ?_)
      · have h3 := li_ne h3
        refine X_run 2 (pc' := 67) (L' := [some (.inr (some (10, 0))), some (.inl (nI i))]) (st' := [.inl ((nI (kn σ (40 * d + n) i)) + 0), .inl (nI i), .inr (some (11, 12))]) rfl ?_
        exact next _ (by rw [evs, if_neg h3]; show nI _ + nI 0 = _; rw [nI_add])
      · have h3 := li_eq (by omega) (by omega) h3
        refine X_run 3 (pc' := 67) (L' := [some (.inr (some (10, 0))), some (.inl (nI i))]) (st' := [.inl ((nI (kn σ (40 * d + n) i)) + 1), .inl (nI i), .inr (some (11, 12))]) rfl ?_
        exact next _ (by rw [evs, if_pos h3]; exact nI_1 _)
    · refine X_run 2 (pc' := 22) (L' := [some (.inr (some (10, 0))), some (.inl (nI i))]) (st' := [.inr (some (10, 0)), .inr (some (10, 0)), .inl (nI i), .inr (some (11, 12))]) rfl ?_
      refine XM_get (v := .inl (I 10)) rfl f_Mo_34 rfl rfl ?_
      refine X_eq (st' := [.inl (nI d), .inr (some (10, 0)), .inl (nI i), .inr (some (11, 12))]) rfl (congrArg (fun z => Sum.inl z :: _) (hM.2.2.2.2.2.1.trans ed)) rfl ?_
      refine X_run 1 (pc' := 26) (L' := [some (.inr (some (10, 0))), some (.inl (nI i))]) (st' := [.inl (nI i), .inl (nI d), .inr (some (10, 0)), .inl (nI i), .inr (some (11, 12))]) rfl ?_
      refine X_callV (vs := [.inl (nI d), .inl (nI i)]) (st := [.inl (nI i), .inr (some (11, 12))]) (mc := 0) (ms := 0) rfl ok_Mo_known v_Mo_82 rfl rfl rfl (Nat.le_of_ble_eq_true rfl) (Nat.le_of_ble_eq_true rfl) (Nat.le_of_ble_eq_true rfl) (Nat.le_of_ble_eq_true rfl) (Nat.le_of_ble_eq_true rfl) (Nat.le_of_ble_eq_true rfl) rfl ?_
      refine c_Mo_known hd4 h1 ?_
      show X M_Mo_viewed _ _ 29 [some (.inr (some (10, 0))), some (.inl (nI i))] [.inl (A2 9 (20 * d + i)), .inl (nI i), .inr (some (11, 12))] (mH g I A2) 0 0
      refine X_run 1 (pc' := 67) (L' := [some (.inr (some (10, 0))), some (.inl (nI i))]) (st' := [.inl (A2 9 (20 * d + i)), .inl (nI i), .inr (some (11, 12))]) rfl ?_
      refine next _ ?_
      rw [hA2 9 (by omega), show 20 * d + i = 16 * d + 4 * d + i by omega, hM.2.2.2.2.1 d d i hd4 hd4 h1]
      unfold vsee
      rw [if_pos h2, hcd]
end

