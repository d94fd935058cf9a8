/-! the model: deed, about, thing, rows -/
def nmF (σ : Sg) (see : Nat → Nat) (t : Nat) : Int32 := namF σ see (unF σ see) (thF σ see) (LLF σ see) t
def smF (σ : Sg) (see : Nat → Nat) (t w : Nat) : Int32 := sumF σ see (unF σ see) (thF σ see) t w
def ctF (σ : Sg) (see : Nat → Nat) (x : Nat) : Bool := cntF σ see (unF σ see) (thF σ see) x
def irF (σ : Sg) (see : Nat → Nat) (t kp : Nat) : Bool := thF σ see t && !stkF σ see t && decide (nmF σ see t = nmF σ see kp)
def kzF (σ : Sg) (see : Nat → Nat) (t j : Nat) : Bool := !ahd σ j t || stkF σ see j || decide (nmF σ see j ≠ nmF σ see t)
def kpF (σ : Sg) (see : Nat → Nat) (t : Nat) : Bool := !stkF σ see t && (ODF σ see).all (kzF σ see t)
def KPF (σ : Sg) (see : Nat → Nat) : List Nat := (ODF σ see).filter (kpF σ see)
def dzF (σ : Sg) (see : Nat → Nat) (kp x : Nat) : Bool := ctF σ see x && so σ x == 2 && irF σ see (tg σ x) kp
def dbF (σ : Sg) (see : Nat → Nat) (kp : Nat) : Bool := (List.range 160).any (fun x => dzF σ see kp x && (List.range x).any (fun y => dzF σ see kp y && !knw σ x y && !knw σ y x))
def sThing (σ : Sg) (t w : Int32) : Int32 := if vd σ = -1 then -10000 else if 0 ≤ t.toInt ∧ t.toInt ≤ 159 ∧ thF σ (vsee σ) t.toNatClampNeg = true then
    (if w = 0 then b2i (stkF σ (vsee σ) t.toNatClampNeg) else if w = 1 then nmF σ (vsee σ) t.toNatClampNeg else if w = 2 then smF σ (vsee σ) t.toNatClampNeg 1 else if w = 3 then smF σ (vsee σ) t.toNatClampNeg 2 else if w = 4 then nI ((ODF σ (vsee σ)).idxOf t.toNatClampNeg) else -10000) else -10000
def sRows (σ : Sg) : Int32 := if vd σ = -1 then -1 else nI (KPF σ (vsee σ)).length
theorem okS_d {σ : Sg} (hW : WF σ) (d : Nat) : okS σ (rk σ d d) := fun e => (hW.2.2.2.2.2.2.2.2.2.2.2.1 d d e).1
theorem vsee_d {σ : Sg} (hW : WF σ) (hv : vd σ ≠ -1) : ∃ d, d < nd σ ∧ vd σ = nI d ∧ ((vn σ = -1 ∧ ∀ e, vsee σ e = rk σ d d e) ∨ ∃ n, n < mny σ d ∧ vn σ = nI n ∧ 40 * d + n ∈ ln σ ∧ ∀ e, vsee σ e = kn σ (40 * d + n) e + (if e = d then 1 else 0)) := by
  obtain ⟨d, hd, ed, hn⟩ : ∃ d, d < nd σ ∧ vd σ = nI d ∧ (vn σ = -1 ∨ ∃ n, n < mny σ d ∧ vn σ = nI n) := by
    rcases hW.2.2.2.2.2.2.2.2.2.2.2.2.2.2 with q | q
    · exact absurd q.1 hv
    · exact q
  have h4 := hW.1.1
  have hcd : (vd σ).toNatClampNeg = d := by rw [ed]; exact nI_clamp (by omega)
  refine ⟨d, hd, ed, ?_⟩
  rcases hn with q | ⟨n, hn, q⟩
  · left
    refine ⟨q, fun e => ?_⟩
    unfold vsee
    rw [if_pos q, hcd]
  · right
    have hn40 := hW.1.2.1 d d d
    have hn2 : n < 40 := by unfold mny at hn; omega
    have hne : ¬ nI n = -1 := by
      intro z
      have h1 := congrArg Int32.toInt z
      rw [nI_toInt (by omega)] at h1
      have h2 : (-1 : Int32).toInt = -1 := by decide
      rw [h2] at h1
      omega
    have hcn : (nI n).toNatClampNeg = n := nI_clamp (by omega)
    refine ⟨n, hn, q, (hW.2.1 _).mpr ⟨by omega, by rw [show (40 * d + n) % 40 = n by omega, show (40 * d + n) / 40 = d by omega]; exact hn⟩, fun e => ?_⟩
    unfold vsee
    rw [q, if_neg hne, hcd, hcn]
theorem okS_v {σ : Sg} (hW : WF σ) (hv : vd σ ≠ -1) : okS σ (vsee σ) := by
  obtain ⟨d, hd, ed, hh⟩ := vsee_d hW hv
  intro e
  rcases hh with ⟨-, hs⟩ | ⟨n, hn, -, hx, hs⟩
  · rw [hs]
    exact okS_d hW d e
  · rw [hs]
    have hn40 := hW.1.2.1 d d d
    obtain ⟨k1, -, k2⟩ := hW.2.2.2.2.2.2.2.2.2.2.1 _ hx
    rw [show (40 * d + n) / 40 = d by unfold mny at hn; omega, show (40 * d + n) % 40 = n by unfold mny at hn; omega] at k1
    by_cases q : e = d
    · rw [if_pos q, q, k1]
      omega
    · rw [if_neg q]
      exact k2 e
/-- the things in the order are those that are there -/
theorem ODF_inv {σ : Sg} {see : Nat → Nat} (hL : sLn σ see) (hBt : ∀ x, tg σ x < 160) : ∀ i, i ≤ (LLF σ see).length → ∀ O, O = ((LLF σ see).take i).foldl (odS σ see) [] → O.Nodup ∧ ∀ x, x ∈ O ↔ x ∈ (LLF σ see).take i ∧ so σ x = 0 ∧ unF σ see x = false := by
  obtain ⟨L1, L2, L3, L4, L5, L6⟩ := hL
  have srtL : (LLF σ see).Pairwise (fun x y => ahd σ x y = true) := List.Pairwise.sublist List.filter_sublist L3
  intro i
  induction i with
  | zero =>
    intro _ O hO
    subst hO
    simp
  | succ i ih =>
    intro hi O hO
    obtain ⟨h1, h2⟩ := ih (by omega) _ rfl
    obtain ⟨x, hx⟩ : ∃ x, (LLF σ see)[i]? = some x := ⟨_, List.getElem?_eq_getElem (by omega)⟩
    have tk : (LLF σ see).take (i + 1) = (LLF σ see).take i ++ [x] := by rw [List.take_add_one, hx]; rfl
    rw [tk, List.foldl_append] at hO
    generalize hP : ((LLF σ see).take i).foldl (odS σ see) [] = P at hO h1 h2
    have hO : O = odS σ see P x := hO
    have hni : x ∉ (LLF σ see).take i := by
      intro q
      obtain ⟨j, hj⟩ := mem_idx q
      rw [List.getElem?_take] at hj
      split at hj
      · have := nod_inj (srt_nodup srtL) hj hx
        omega
      · cases hj
    have hmem : ∀ z, (so σ x ≠ 0 ∨ unF σ see x = true) → ((z ∈ (LLF σ see).take (i + 1) ∧ so σ z = 0 ∧ unF σ see z = false) ↔ (z ∈ (LLF σ see).take i ∧ so σ z = 0 ∧ unF σ see z = false)) := by
      intro z hz
      rw [tk, List.mem_append]
      constructor
      · rintro ⟨q1 | q1, q2, q3⟩
        · exact ⟨q1, q2, q3⟩
        · have e : z = x := by simpa using q1
          rw [e] at q2 q3
          rcases hz with hz | hz
          · exact absurd q2 hz
          · rw [hz] at q3; cases q3
      · rintro ⟨q1, q2, q3⟩
        exact ⟨Or.inl q1, q2, q3⟩
    unfold odS at hO
    by_cases c1 : (so σ x == 0 && !unF σ see x) = true
    · rw [if_pos c1] at hO
      have c2 : so σ x = 0 ∧ unF σ see x = false := by simpa using c1
      subst hO
      refine ⟨?_, fun z => ?_⟩
      · rw [List.nodup_append]
        refine ⟨h1, by simp, ?_⟩
        intro a ha b hb
        have e : b = x := by simpa using hb
        rw [e]
        intro q
        rw [q] at ha
        exact hni ((h2 x).mp ha).1
      · rw [List.mem_append, h2, tk, List.mem_append]
        constructor
        · rintro (q | q)
          · exact ⟨Or.inl q.1, q.2⟩
          · have e : z = x := by simpa using q
            rw [e]
            exact ⟨Or.inr List.mem_cons_self, c2⟩
        · rintro ⟨q1 | q1, q2⟩
          · exact Or.inl ⟨q1, q2⟩
          · exact Or.inr q1
    · rw [if_neg c1] at hO
      have hno : so σ x ≠ 0 ∨ unF σ see x = true := by
        by_cases q : so σ x = 0
        · right
          simpa [q] using c1
        · exact Or.inl q
      by_cases c2 : (so σ x == 5 && cntF σ see (unF σ see) (thF σ see) x) = true
      · rw [if_pos c2] at hO
        have htP : tg σ x ∈ P := by
          have c3 : so σ x = 5 ∧ cntF σ see (unF σ see) (thF σ see) x = true := by simpa using c2
          have hxl : x ∈ ln σ := (List.mem_filter.mp (List.mem_of_getElem? hx)).1
          have htg := L4 x hxl (by omega) (by omega)
          have h3 := c3.2
          simp [cntF, c3.1, thF] at h3
          rw [h2]
          have hin : tg σ x ∈ LLF σ see := List.mem_filter.mpr ⟨L2 _ (hBt x) h3.2.1.1, h3.2.1.1⟩
          obtain ⟨j, hj⟩ := mem_idx hin
          refine ⟨List.mem_of_getElem? (i := j) ?_, h3.2.1.2, h3.2.2⟩
          rw [List.getElem?_take, if_pos ?_]
          · exact hj
          · rcases Nat.lt_trichotomy j i with z | z | z
            · exact z
            · rw [z, hx] at hj
              have e0 : x = tg σ x := Option.some.inj hj
              have := htg.2
              rw [← e0, ahd_irr] at this
              cases this
            · obtain ⟨a1, a2⟩ := List.getElem?_eq_some_iff.mp hx
              obtain ⟨b1, b2⟩ := List.getElem?_eq_some_iff.mp hj
              have := List.pairwise_iff_getElem.mp srtL i j a1 b1 z
              rw [a2, b2, ahd_as htg.2] at this
              cases this
        subst hO
        exact ⟨mvL_nodup h1 htP, fun z => ((mvL_mem h1 htP).trans (h2 z)).trans (hmem z hno).symm⟩
      · rw [if_neg c2] at hO
        subst hO
        exact ⟨h1, fun z => (h2 z).trans (hmem z hno).symm⟩
theorem ODF_mem {σ : Sg} {see : Nat → Nat} (hW : WF σ) (hs : okS σ see) (x : Nat) (hx : x < 160) : x ∈ ODF σ see ↔ thF σ see x = true := by
  have hL := hW.sLn hs
  have := (ODF_inv hL (fun x => (hW.1.2.2 x).2.2.1) _ (Nat.le_refl _) _ rfl).2 x
  rw [List.take_length] at this
  unfold ODF
  rw [this]
  unfold LLF thF
  rw [List.mem_filter]
  constructor
  · rintro ⟨⟨q1, q2⟩, q3, q4⟩
    simp [q2, q3, q4]
  · intro q
    have q : (inV see x = true ∧ so σ x = 0) ∧ unF σ see x = false := by simpa using q
    exact ⟨⟨hL.2.1 x hx q.1.1, q.1.1⟩, q.1.2, q.2⟩
section
variable {g : AH} {I : Nat → Int32} {A : Nat → Nat → Int32} {Q : Option AV → AH → Prop} {σ : Sg} {see : Nat → Nat}
theorem c_Mo_deed {d n w : Int32} (hM : MB σ I A) (hq : Q (some (.inl (sDeed σ d n w))) (mH g I A)) : X M_Mo_deed (rmo M_Mo_deed 0 0) (Zm Q 0 0) 0 (ini M_Mo_deed [mo, .inl d, .inl n, .inl w]) [] (mH g I A) 0 0 := by
  have h4 := hM.1.1.1
  show X M_Mo_deed _ _ 0 [some (.inr (some (10, 0))), some (.inl (d)), some (.inl (n)), some (.inl (w)), none] [] (mH g I A) 0 0
  refine X_run 2 (pc' := 2) (L' := [some (.inr (some (10, 0))), some (.inl (d)), some (.inl (n)), some (.inl (w)), none]) (st' := [.inl (d), .inr (some (10, 0))]) rfl ?_
  refine X_callV (vs := [.inl (d)]) (st := []) (mc := 0) (ms := 0) rfl ok_Mo_isDevice v_Mo_74 rfl rfl rfl (Nat.le_of_ble_eq_true rfl) (Nat.le_of_ble_eq_true rfl) (Nat.le_of_ble_eq_true rfl) (Nat.le_of_ble_eq_true rfl) (Nat.le_of_ble_eq_true rfl) (Nat.le_of_ble_eq_true rfl) rfl ?_
  refine c_Mo_isDevice hM.2.2.1 hM.1.1.1 ?_
  show X M_Mo_deed _ _ 5 [some (.inr (some (10, 0))), some (.inl (d)), some (.inl (n)), some (.inl (w)), none] [.inl (b2i (isD σ d))] (mH g I A) 0 0
  refine X_if_eq (tgt := 24) (nx := 8) rfl rfl rfl (fun h1 => ?_) (fun h1 => ?_)
  · rw [b2i_0] at h1
    refine X_run 1 (pc' := 25) (L' := [some (.inr (some (10, 0))), some (.inl (d)), some (.inl (n)), some (.inl (w)), none]) (st' := [.inl (-1)]) rfl ?_
    exact X_iret rfl rfl rfl (Nat.le_refl _) (Nat.le_refl _) (by unfold sDeed at hq; rw [h1] at hq; exact hq)
  · rw [b2i_n0] at h1
    obtain ⟨k, hk, rfl⟩ := isD_t h1
    have hck : (nI k).toNatClampNeg = k := nI_clamp (by omega)
    have bk := hM.1.1.2.1 k k k
    have e1 : decide ((0 : Int32) ≤ n ∧ n ≤ nI (mny σ k) - 1) = decide (0 ≤ n.toInt ∧ n.toInt ≤ (mny σ k : Int) - 1) := in_dec rfl (by rw [il_1]; exact fb_sub1 (by unfold mny; omega))
    unfold sDeed at hq
    rw [h1, hck] at hq
    refine X_run 3 (pc' := 11) (L' := [some (.inr (some (10, 0))), some (.inl (nI k)), some (.inl (n)), some (.inl (w)), none]) (st' := [.inr (some (10, 0)), .inl (0), .inl (n)]) rfl ?_
    refine XM_get (v := .inr (some (11, 2))) rfl f_Mo_7 rfl rfl ?_
    refine X_run 1 (pc' := 15) (L' := [some (.inr (some (10, 0))), some (.inl (nI k)), some (.inl (n)), some (.inl (w)), none]) (st' := [.inl (nI k), .inr (some (11, 2)), .inl (0), .inl (n)]) rfl ?_
    refine XM_ald (k := 2) (i := k) rfl (by decide) (by simp only [mln]; omega) rfl ?_
    refine X_eq (st' := [.inl (nI (mny σ k)), .inl (0), .inl (n)]) rfl (congrArg (fun z => Sum.inl z :: _) (hM.2.2.2.1 k (by omega))) rfl ?_
    refine X_run 2 (pc' := 18) (L' := [some (.inr (some (10, 0))), some (.inl (nI k)), some (.inl (n)), some (.inl (w)), none]) (st' := [.inl ((nI (mny σ k)) - 1), .inl (0), .inl (n)]) rfl ?_
    refine X_callS (vs := [.inl (n), .inl (0), .inl ((nI (mny σ k)) - 1)]) (st := []) (mc := 0) (ms := 0) rfl ok_Mo_in s_Mo_70 rfl rfl (Nat.le_of_ble_eq_true rfl) (Nat.le_of_ble_eq_true rfl) (Nat.le_of_ble_eq_true rfl) (Nat.le_of_ble_eq_true rfl) (Nat.le_of_ble_eq_true rfl) (Nat.le_of_ble_eq_true rfl) rfl ?_
    refine c_Mo_in ?_
    show X M_Mo_deed _ _ 21 [some (.inr (some (10, 0))), some (.inl (nI k)), some (.inl (n)), some (.inl (w)), none] [.inl (b2i (decide ((0 : Int32) ≤ n ∧ n ≤ nI (mny σ k) - 1)))] (mH g I A) 0 0
    refine X_eq (st' := [.inl (b2i (decide (0 ≤ n.toInt ∧ n.toInt ≤ (mny σ k : Int) - 1)))]) rfl (congrArg (fun z => Sum.inl z :: _) (congrArg b2i e1)) rfl ?_
    refine X_if_ne (tgt := 26) (nx := 24) rfl rfl rfl (fun h2 => ?_) (fun h2 => ?_)
    · rw [b2i_n0] at h2
      rw [h2] at hq
      have h3 := of_decide_eq_true h2
      obtain ⟨j, hj, rfl⟩ := rng_nI (t := n) (n := mny σ k - 1) (by unfold mny; omega) (by omega)
      have hjm : j < mny σ k := by
        rw [nI_toInt (by unfold mny at hj; omega)] at h3
        omega
      have hcj : (nI j).toNatClampNeg = j := nI_clamp (by unfold mny at hjm; omega)
      have hj40 : j < 40 := by unfold mny at hjm; omega
      rw [hcj] at hq
      have ed := hM.1.2 (40 * k + j) (by omega)
      refine X_run 5 (pc' := 32) (L' := [some (.inr (some (10, 0))), some (.inl (nI k)), some (.inl (nI j)), some (.inl (w)), none]) (st' := [.inl ((40 * (nI k)) + (nI j))]) rfl ?_
      refine X_eq (st' := [.inl (nI (40 * k + j))]) rfl (congrArg (fun z => Sum.inl z :: _) (by first | rfl | (simp only [il_0, il_1, il_2, il_3, il_4, il_5, il_6, il_7, il_16, il_20, il_40, il_160, pk_mul, nI_add]; done) | (simp only [il_0, il_1, il_2, il_3, il_4, il_5, il_6, il_7, il_16, il_20, il_40, il_160, pk_mul, nI_add]; exact congrArg nI (by omega)))) rfl ?_
      refine X_run 2 (pc' := 35) (L' := [some (.inr (some (10, 0))), some (.inl (nI k)), some (.inl (nI j)), some (.inl (w)), some (.inl (nI (40 * k + j)))]) (st' := [.inl (w)]) rfl ?_
      refine X_sw_0_4 (t0 := 64) (t1 := 72) (t2 := 80) (t3 := 88) (tout := 134) rfl rfl rfl rfl rfl rfl (fun hw => ?_) (fun hw => ?_) (fun hw => ?_) (fun hw => ?_) (fun hw0 hw1 hw2 hw3 => ?_)
      · rw [hw] at hq
        refine X_run 1 (pc' := 65) (L' := [some (.inr (some (10, 0))), some (.inl (nI k)), some (.inl (nI j)), some (.inl (w)), some (.inl (nI (40 * k + j)))]) (st' := [.inr (some (10, 0))]) rfl ?_
        refine XM_get (v := .inr (some (11, 3))) rfl f_Mo_13 rfl rfl ?_
        refine X_run 1 (pc' := 70) (L' := [some (.inr (some (10, 0))), some (.inl (nI k)), some (.inl (nI j)), some (.inl (w)), some (.inl (nI (40 * k + j)))]) (st' := [.inl (nI (40 * k + j)), .inr (some (11, 3))]) rfl ?_
        refine XM_ald (k := 3) (i := (40 * k + j)) rfl (by decide) (by simp only [mln]; omega) rfl ?_
        exact X_iret rfl rfl rfl (Nat.le_refl _) (Nat.le_refl _) (by rw [ed.1]; exact hq)
      · rw [hw] at hq
        refine X_run 1 (pc' := 73) (L' := [some (.inr (some (10, 0))), some (.inl (nI k)), some (.inl (nI j)), some (.inl (w)), some (.inl (nI (40 * k + j)))]) (st' := [.inr (some (10, 0))]) rfl ?_
        refine XM_get (v := .inr (some (11, 4))) rfl f_Mo_16 rfl rfl ?_
        refine X_run 1 (pc' := 78) (L' := [some (.inr (some (10, 0))), some (.inl (nI k)), some (.inl (nI j)), some (.inl (w)), some (.inl (nI (40 * k + j)))]) (st' := [.inl (nI (40 * k + j)), .inr (some (11, 4))]) rfl ?_
        refine XM_ald (k := 4) (i := (40 * k + j)) rfl (by decide) (by simp only [mln]; omega) rfl ?_
        exact X_iret rfl rfl rfl (Nat.le_refl _) (Nat.le_refl _) (by rw [ed.2.1]; exact hq)
      · rw [hw] at hq
        refine X_run 1 (pc' := 81) (L' := [some (.inr (some (10, 0))), some (.inl (nI k)), some (.inl (nI j)), some (.inl (w)), some (.inl (nI (40 * k + j)))]) (st' := [.inr (some (10, 0))]) rfl ?_
        refine XM_get (v := .inr (some (11, 5))) rfl f_Mo_19 rfl rfl ?_
        refine X_run 1 (pc' := 86) (L' := [some (.inr (some (10, 0))), some (.inl (nI k)), some (.inl (nI j)), some (.inl (w)), some (.inl (nI (40 * k + j)))]) (st' := [.inl (nI (40 * k + j)), .inr (some (11, 5))]) rfl ?_
        refine XM_ald (k := 5) (i := (40 * k + j)) rfl (by decide) (by simp only [mln]; omega) rfl ?_
        exact X_iret rfl rfl rfl (Nat.le_refl _) (Nat.le_refl _) (by rw [ed.2.2.1]; exact hq)
      · rw [hw] at hq
        have ek := ed.2.2.2.2.2
        refine X_run 1 (pc' := 89) (L' := [some (.inr (some (10, 0))), some (.inl (nI k)), some (.inl (nI j)), some (.inl (w)), some (.inl (nI (40 * k + j)))]) (st' := [.inr (some (10, 0))]) rfl ?_
        refine XM_get (v := .inr (some (11, 8))) rfl f_Mo_28 rfl rfl ?_
        refine X_run 3 (pc' := 96) (L' := [some (.inr (some (10, 0))), some (.inl (nI k)), some (.inl (nI j)), some (.inl (w)), some (.inl (nI (40 * k + j)))]) (st' := [.inl (4 * (nI (40 * k + j))), .inr (some (11, 8))]) rfl ?_
        refine X_eq (st' := [.inl (nI (4 * (40 * k + j))), .inr (some (11, 8))]) rfl (congrArg (fun z => Sum.inl z :: _) (by first | rfl | (simp only [il_0, il_1, il_2, il_3, il_4, il_5, il_6, il_7, il_16, il_20, il_40, il_160, pk_mul, nI_add]; done) | (simp only [il_0, il_1, il_2, il_3, il_4, il_5, il_6, il_7, il_16, il_20, il_40, il_160, pk_mul, nI_add]; exact congrArg nI (by omega)))) rfl ?_
        refine XM_ald (k := 8) (i := (4 * (40 * k + j))) rfl (by decide) (by simp only [mln]; omega) rfl ?_
        refine X_eq (st' := [.inl (nI (kn σ (40 * k + j) 0))]) rfl (congrArg (fun z => Sum.inl z :: _) (ek 0 (by omega))) rfl ?_
        refine X_run 1 (pc' := 98) (L' := [some (.inr (some (10, 0))), some (.inl (nI k)), some (.inl (nI j)), some (.inl (w)), some (.inl (nI (40 * k + j)))]) (st' := [.inr (some (10, 0)), .inl (nI (kn σ (40 * k + j) 0))]) rfl ?_
        refine XM_get (v := .inr (some (11, 8))) rfl f_Mo_28 rfl rfl ?_
        refine X_run 5 (pc' := 107) (L' := [some (.inr (some (10, 0))), some (.inl (nI k)), some (.inl (nI j)), some (.inl (w)), some (.inl (nI (40 * k + j)))]) (st' := [.inl ((4 * (nI (40 * k + j))) + 1), .inr (some (11, 8)), .inl (nI (kn σ (40 * k + j) 0))]) rfl ?_
        refine X_eq (st' := [.inl (nI (4 * (40 * k + j) + 1)), .inr (some (11, 8)), .inl (nI (kn σ (40 * k + j) 0))]) rfl (congrArg (fun z => Sum.inl z :: _) (by first | rfl | (simp only [il_0, il_1, il_2, il_3, il_4, il_5, il_6, il_7, il_16, il_20, il_40, il_160, pk_mul, nI_add]; done) | (simp only [il_0, il_1, il_2, il_3, il_4, il_5, il_6, il_7, il_16, il_20, il_40, il_160, pk_mul, nI_add]; exact congrArg nI (by omega)))) rfl ?_
        refine XM_ald (k := 8) (i := (4 * (40 * k + j) + 1)) rfl (by decide) (by simp only [mln]; omega) rfl ?_
        refine X_eq (st' := [.inl (nI (kn σ (40 * k + j) 1)), .inl (nI (kn σ (40 * k + j) 0))]) rfl (congrArg (fun z => Sum.inl z :: _) (ek 1 (by omega))) rfl ?_
        refine X_run 1 (pc' := 109) (L' := [some (.inr (some (10, 0))), some (.inl (nI k)), some (.inl (nI j)), some (.inl (w)), some (.inl (nI (40 * k + j)))]) (st' := [.inl ((nI (kn σ (40 * k + j) 0)) + (nI (kn σ (40 * k + j) 1)))]) rfl ?_
        refine X_run 1 (pc' := 110) (L' := [some (.inr (some (10, 0))), some (.inl (nI k)), some (.inl (nI j)), some (.inl (w)), some (.inl (nI (40 * k + j)))]) (st' := [.inr (some (10, 0)), .inl ((nI (kn σ (40 * k + j) 0)) + (nI (kn σ (40 * k + j) 1)))]) rfl ?_
        refine XM_get (v := .inr (some (11, 8))) rfl f_Mo_28 rfl rfl ?_
        refine X_run 5 (pc' := 119) (L' := [some (.inr (some (10, 0))), some (.inl (nI k)), some (.inl (nI j)), some (.inl (w)), some (.inl (nI (40 * k + j)))]) (st' := [.inl ((4 * (nI (40 * k + j))) + 2), .inr (some (11, 8)), .inl ((nI (kn σ (40 * k + j) 0)) + (nI (kn σ (40 * k + j) 1)))]) rfl ?_
        refine X_eq (st' := [.inl (nI (4 * (40 * k + j) + 2)), .inr (some (11, 8)), .inl ((nI (kn σ (40 * k + j) 0)) + (nI (kn σ (40 * k + j) 1)))]) rfl (congrArg (fun z => Sum.inl z :: _) (by first | rfl | (simp only [il_0, il_1, il_2, il_3, il_4, il_5, il_6, il_7, il_16, il_20, il_40, il_160, pk_mul, nI_add]; done) | (simp only [il_0, il_1, il_2, il_3, il_4, il_5, il_6, il_7, il_16, il_20, il_40, il_160, pk_mul, nI_add]; exact congrArg nI (by omega)))) rfl ?_
        refine XM_ald (k := 8) (i := (4 * (40 * k + j) + 2)) rfl (by decide) (by simp only [mln]; omega) rfl ?_
        refine X_eq (st' := [.inl (nI (kn σ (40 * k + j) 2)), .inl ((nI (kn σ (40 * k + j) 0)) + (nI (kn σ (40 * k + j) 1)))]) rfl (congrArg (fun z => Sum.inl z :: _) (ek 2 (by omega))) rfl ?_
        refine X_run 1 (pc' := 121) (L' := [some (.inr (some (10, 0))), some (.inl (nI k)), some (.inl (nI j)), some (.inl (w)), some (.inl (nI (40 * k + j)))]) (st' := [.inl (((nI (kn σ (40 * k + j) 0)) + (nI (kn σ (40 * k + j) 1))) + (nI (kn σ (40 * k + j) 2)))]) rfl ?_
        refine X_run 1 (pc' := 122) (L' := [some (.inr (some (10, 0))), some (.inl (nI k)), some (.inl (nI j)), some (.inl (w)), some (.inl (nI (40 * k + j)))]) (st' := [.inr (some (10, 0)), .inl (((nI (kn σ (40 * k + j) 0)) + (nI (kn σ (40 * k + j) 1))) + (nI (kn σ (40 * k + j) 2)))]) rfl ?_
        refine XM_get (v := .inr (some (11, 8))) rfl f_Mo_28 rfl rfl ?_
        refine X_run 5 (pc' := 131) (L' := [some (.inr (some (10, 0))), some (.inl (nI k)), some (.inl (nI j)), some (.inl (w)), some (.inl (nI (40 * k + j)))]) (st' := [.inl ((4 * (nI (40 * k + j))) + 3), .inr (some (11, 8)), .inl (((nI (kn σ (40 * k + j) 0)) + (nI (kn σ (40 * k + j) 1))) + (nI (kn σ (40 * k + j) 2)))]) rfl ?_
        refine X_eq (st' := [.inl (nI (4 * (40 * k + j) + 3)), .inr (some (11, 8)), .inl (((nI (kn σ (40 * k + j) 0)) + (nI (kn σ (40 * k + j) 1))) + (nI (kn σ (40 * k + j) 2)))]) rfl (congrArg (fun z => Sum.inl z :: _) (by first | rfl | (simp only [il_0, il_1, il_2, il_3, il_4, il_5, il_6, il_7, il_16, il_20, il_40, il_160, pk_mul, nI_add]; done) | (simp only [il_0, il_1, il_2, il_3, il_4, il_5, il_6, il_7, il_16, il_20, il_40, il_160, pk_mul, nI_add]; exact congrArg nI (by omega)))) rfl ?_
        refine XM_ald (k := 8) (i := (4 * (40 * k + j) + 3)) rfl (by decide) (by simp only [mln]; omega) rfl ?_
        refine X_eq (st' := [.inl (nI (kn σ (40 * k + j) 3)), .inl (((nI (kn σ (40 * k + j) 0)) + (nI (kn σ (40 * k + j) 1))) + (nI (kn σ (40 * k + j) 2)))]) rfl (congrArg (fun z => Sum.inl z :: _) (ek 3 (by omega))) rfl ?_
        refine X_run 1 (pc' := 133) (L' := [some (.inr (some (10, 0))), some (.inl (nI k)), some (.inl (nI j)), some (.inl (w)), some (.inl (nI (40 * k + j)))]) (st' := [.inl ((((nI (kn σ (40 * k + j) 0)) + (nI (kn σ (40 * k + j) 1))) + (nI (kn σ (40 * k + j) 2))) + (nI (kn σ (40 * k + j) 3)))]) rfl ?_
        refine X_eq (st' := [.inl (nI (kn σ (40 * k + j) 0 + kn σ (40 * k + j) 1 + kn σ (40 * k + j) 2 + kn σ (40 * k + j) 3))]) rfl (congrArg (fun z => Sum.inl z :: _) (by first | rfl | (simp only [il_0, il_1, il_2, il_3, il_4, il_5, il_6, il_7, il_16, il_20, il_40, il_160, pk_mul, nI_add]; done) | (simp only [il_0, il_1, il_2, il_3, il_4, il_5, il_6, il_7, il_16, il_20, il_40, il_160, pk_mul, nI_add]; exact congrArg nI (by omega)))) rfl ?_
        exact X_iret rfl rfl rfl (Nat.le_refl _) (Nat.le_refl _) hq
      · have hq : Q (some (.inl (if w = 0 then _ else if w = 1 then _ else if w = 2 then _ else if w = 3 then _ else -1))) (mH g I A) := hq
        rw [if_neg (show ¬ w = 0 from hw0), if_neg (show ¬ w = 1 from hw1), if_neg (show ¬ w = 2 from hw2), if_neg (show ¬ w = 3 from hw3)] at hq
        refine X_run 1 (pc' := 135) (L' := [some (.inr (some (10, 0))), some (.inl (nI k)), some (.inl (nI j)), some (.inl (w)), some (.inl (nI (40 * k + j)))]) (st' := [.inl (-1)]) rfl ?_
        exact X_iret rfl rfl rfl (Nat.le_refl _) (Nat.le_refl _) hq
    · rw [b2i_0] at h2
      rw [h2] at hq
      refine X_run 1 (pc' := 25) (L' := [some (.inr (some (10, 0))), some (.inl (nI k)), some (.inl (n)), some (.inl (w)), none]) (st' := [.inl (-1)]) rfl ?_
      exact X_iret rfl rfl rfl (Nat.le_refl _) (Nat.le_refl _) hq
theorem c_Mo_about {w : Int32} (hM : MB σ I A) (hq : Q (some (.inl (sAbout σ w))) (mH g I A)) : X M_Mo_about (rmo M_Mo_about 0 0) (Zm Q 0 0) 0 (ini M_Mo_about [mo, .inl w]) [] (mH g I A) 0 0 := by
  have h4 := hM.1.1.1
  have em := hM.2.2.2.1
  show X M_Mo_about _ _ 0 [some (.inr (some (10, 0))), some (.inl (w))] [] (mH g I A) 0 0
  refine X_run 1 (pc' := 1) (L' := [some (.inr (some (10, 0))), some (.inl (w))]) (st' := [.inl (w)]) rfl ?_
  refine X_sw_0_5 (t0 := 36) (t1 := 41) (t2 := 69) (t3 := 82) (t4 := 87) (tout := 92) rfl rfl rfl rfl rfl rfl rfl (fun hw => ?_) (fun hw => ?_) (fun hw => ?_) (fun hw => ?_) (fun hw => ?_) (fun hw0 hw1 hw2 hw3 hw4 => ?_)
  · rw [hw] at hq
    refine X_run 1 (pc' := 37) (L' := [some (.inr (some (10, 0))), some (.inl (w))]) (st' := [.inr (some (10, 0))]) rfl ?_
    refine XM_get (v := .inl (I 1)) rfl f_Mo_67 rfl rfl ?_
    exact X_iret rfl rfl rfl (Nat.le_refl _) (Nat.le_refl _) (by rw [hM.2.2.1]; exact hq)
  · rw [hw] at hq
    refine X_run 1 (pc' := 42) (L' := [some (.inr (some (10, 0))), some (.inl (w))]) (st' := [.inr (some (10, 0))]) rfl ?_
    refine XM_get (v := .inr (some (11, 2))) rfl f_Mo_7 rfl rfl ?_
    refine X_run 1 (pc' := 46) (L' := [some (.inr (some (10, 0))), some (.inl (w))]) (st' := [.inl (0), .inr (some (11, 2))]) rfl ?_
    refine X_eq (st' := [.inl (nI (0)), .inr (some (11, 2))]) rfl (congrArg (fun z : Int32 => ([.inl z, .inr (some (11, 2))] : List AV)) (by first | rfl | (simp only [il_0, il_1, il_2, il_3, il_4, il_5, il_6, il_7, il_16, il_20, il_40, il_160, pk_mul, nI_add]; done) | (simp only [il_0, il_1, il_2, il_3, il_4, il_5, il_6, il_7, il_16, il_20, il_40, il_160, pk_mul, nI_add]; exact congrArg nI (by omega)))) rfl ?_
    refine XM_ald (k := 2) (i := (0)) rfl (by decide) (by simp only [mln]; omega) rfl ?_
    refine X_eq (st' := [.inl (nI (mny σ 0))]) rfl (congrArg (fun z => Sum.inl z :: _) (em 0 (by omega))) rfl ?_
    refine X_run 1 (pc' := 48) (L' := [some (.inr (some (10, 0))), some (.inl (w))]) (st' := [.inr (some (10, 0)), .inl (nI (mny σ 0))]) rfl ?_
    refine XM_get (v := .inr (some (11, 2))) rfl f_Mo_7 rfl rfl ?_
    refine X_run 1 (pc' := 52) (L' := [some (.inr (some (10, 0))), some (.inl (w))]) (st' := [.inl (1), .inr (some (11, 2)), .inl (nI (mny σ 0))]) rfl ?_
    refine X_eq (st' := [.inl (nI (1)), .inr (some (11, 2)), .inl (nI (mny σ 0))]) rfl (congrArg (fun z : Int32 => ([.inl z, .inr (some (11, 2)), .inl (nI (mny σ 0))] : List AV)) (by first | rfl | (simp only [il_0, il_1, il_2, il_3, il_4, il_5, il_6, il_7, il_16, il_20, il_40, il_160, pk_mul, nI_add]; done) | (simp only [il_0, il_1, il_2, il_3, il_4, il_5, il_6, il_7, il_16, il_20, il_40, il_160, pk_mul, nI_add]; exact congrArg nI (by omega)))) rfl ?_
    refine XM_ald (k := 2) (i := (1)) rfl (by decide) (by simp only [mln]; omega) rfl ?_
    refine X_eq (st' := [.inl (nI (mny σ 1)), .inl (nI (mny σ 0))]) rfl (congrArg (fun z => Sum.inl z :: _) (em 1 (by omega))) rfl ?_
    refine X_run 1 (pc' := 54) (L' := [some (.inr (some (10, 0))), some (.inl (w))]) (st' := [.inl ((nI (mny σ 0)) + (nI (mny σ 1)))]) rfl ?_
    refine X_run 1 (pc' := 55) (L' := [some (.inr (some (10, 0))), some (.inl (w))]) (st' := [.inr (some (10, 0)), .inl ((nI (mny σ 0)) + (nI (mny σ 1)))]) rfl ?_
    refine XM_get (v := .inr (some (11, 2))) rfl f_Mo_7 rfl rfl ?_
    refine X_run 1 (pc' := 59) (L' := [some (.inr (some (10, 0))), some (.inl (w))]) (st' := [.inl (2), .inr (some (11, 2)), .inl ((nI (mny σ 0)) + (nI (mny σ 1)))]) rfl ?_
    refine X_eq (st' := [.inl (nI (2)), .inr (some (11, 2)), .inl ((nI (mny σ 0)) + (nI (mny σ 1)))]) rfl (congrArg (fun z : Int32 => ([.inl z, .inr (some (11, 2)), .inl ((nI (mny σ 0)) + (nI (mny σ 1)))] : List AV)) (by first | rfl | (simp only [il_0, il_1, il_2, il_3, il_4, il_5, il_6, il_7, il_16, il_20, il_40, il_160, pk_mul, nI_add]; done) | (simp only [il_0, il_1, il_2, il_3, il_4, il_5, il_6, il_7, il_16, il_20, il_40, il_160, pk_mul, nI_add]; exact congrArg nI (by omega)))) rfl ?_
    refine XM_ald (k := 2) (i := (2)) rfl (by decide) (by simp only [mln]; omega) rfl ?_
    refine X_eq (st' := [.inl (nI (mny σ 2)), .inl ((nI (mny σ 0)) + (nI (mny σ 1)))]) rfl (congrArg (fun z => Sum.inl z :: _) (em 2 (by omega))) rfl ?_
    refine X_run 1 (pc' := 61) (L' := [some (.inr (some (10, 0))), some (.inl (w))]) (st' := [.inl (((nI (mny σ 0)) + (nI (mny σ 1))) + (nI (mny σ 2)))]) rfl ?_
    refine X_run 1 (pc' := 62) (L' := [some (.inr (some (10, 0))), some (.inl (w))]) (st' := [.inr (some (10, 0)), .inl (((nI (mny σ 0)) + (nI (mny σ 1))) + (nI (mny σ 2)))]) rfl ?_
    refine XM_get (v := .inr (some (11, 2))) rfl f_Mo_7 rfl rfl ?_
    refine X_run 1 (pc' := 66) (L' := [some (.inr (some (10, 0))), some (.inl (w))]) (st' := [.inl (3), .inr (some (11, 2)), .inl (((nI (mny σ 0)) + (nI (mny σ 1))) + (nI (mny σ 2)))]) rfl ?_
    refine X_eq (st' := [.inl (nI (3)), .inr (some (11, 2)), .inl (((nI (mny σ 0)) + (nI (mny σ 1))) + (nI (mny σ 2)))]) rfl (congrArg (fun z : Int32 => ([.inl z, .inr (some (11, 2)), .inl (((nI (mny σ 0)) + (nI (mny σ 1))) + (nI (mny σ 2)))] : List AV)) (by first | rfl | (simp only [il_0, il_1, il_2, il_3, il_4, il_5, il_6, il_7, il_16, il_20, il_40, il_160, pk_mul, nI_add]; done) | (simp only [il_0, il_1, il_2, il_3, il_4, il_5, il_6, il_7, il_16, il_20, il_40, il_160, pk_mul, nI_add]; exact congrArg nI (by omega)))) rfl ?_
    refine XM_ald (k := 2) (i := (3)) rfl (by decide) (by simp only [mln]; omega) rfl ?_
    refine X_eq (st' := [.inl (nI (mny σ 3)), .inl (((nI (mny σ 0)) + (nI (mny σ 1))) + (nI (mny σ 2)))]) rfl (congrArg (fun z => Sum.inl z :: _) (em 3 (by omega))) rfl ?_
    refine X_run 1 (pc' := 68) (L' := [some (.inr (some (10, 0))), some (.inl (w))]) (st' := [.inl ((((nI (mny σ 0)) + (nI (mny σ 1))) + (nI (mny σ 2))) + (nI (mny σ 3)))]) rfl ?_
    refine X_eq (st' := [.inl (nI (mny σ 0 + mny σ 1 + mny σ 2 + mny σ 3))]) rfl (congrArg (fun z => Sum.inl z :: _) (by first | rfl | (simp only [il_0, il_1, il_2, il_3, il_4, il_5, il_6, il_7, il_16, il_20, il_40, il_160, pk_mul, nI_add]; done) | (simp only [il_0, il_1, il_2, il_3, il_4, il_5, il_6, il_7, il_16, il_20, il_40, il_160, pk_mul, nI_add]; exact congrArg nI (by omega)))) rfl ?_
    exact X_iret rfl rfl rfl (Nat.le_refl _) (Nat.le_refl _) hq
  · rw [hw] at hq
    have hq : Q (some (.inl (b2i (wn σ)))) (mH g I A) := hq
    refine X_run 1 (pc' := 70) (L' := [some (.inr (some (10, 0))), some (.inl (w))]) (st' := [.inr (some (10, 0))]) rfl ?_
    refine XM_get (v := .inl (I 0)) rfl f_Mo_63 rfl rfl ?_
    refine X_eq (st' := [.inl (b2i (wn σ))]) rfl (congrArg (fun z => Sum.inl z :: _) hM.2.1) rfl ?_
    refine X_if_eq (tgt := 80) (nx := 76) rfl rfl rfl (fun h1 => ?_) (fun h1 => ?_)
    · rw [b2i_0] at h1
      refine X_run 1 (pc' := 81) (L' := [some (.inr (some (10, 0))), some (.inl (w))]) (st' := [.inl (0)]) rfl ?_
      exact X_iret rfl rfl rfl (Nat.le_refl _) (Nat.le_refl _) (qf h1 hq)
    · rw [b2i_n0] at h1
      refine X_run 2 (pc' := 81) (L' := [some (.inr (some (10, 0))), some (.inl (w))]) (st' := [.inl (1)]) rfl ?_
      exact X_iret rfl rfl rfl (Nat.le_refl _) (Nat.le_refl _) (qt h1 hq)
  · rw [hw] at hq
    refine X_run 1 (pc' := 83) (L' := [some (.inr (some (10, 0))), some (.inl (w))]) (st' := [.inr (some (10, 0))]) rfl ?_
    refine XM_get (v := .inl (I 10)) rfl f_Mo_34 rfl rfl ?_
    exact X_iret rfl rfl rfl (Nat.le_refl _) (Nat.le_refl _) (by rw [hM.2.2.2.2.2.1]; exact hq)
  · rw [hw] at hq
    refine X_run 1 (pc' := 88) (L' := [some (.inr (some (10, 0))), some (.inl (w))]) (st' := [.inr (some (10, 0))]) rfl ?_
    refine XM_get (v := .inl (I 11)) rfl f_Mo_38 rfl rfl ?_
    exact X_iret rfl rfl rfl (Nat.le_refl _) (Nat.le_refl _) (by rw [hM.2.2.2.2.2.2]; exact hq)
  · unfold sAbout at hq
    rw [if_neg (show ¬ w = 0 from hw0), if_neg (show ¬ w = 1 from hw1), if_neg (show ¬ w = 2 from hw2), if_neg (show ¬ w = 3 from hw3), if_neg (show ¬ w = 4 from hw4)] at hq
    refine X_run 1 (pc' := 93) (L' := [some (.inr (some (10, 0))), some (.inl (w))]) (st' := [.inl (-1)]) rfl ?_
    exact X_iret rfl rfl rfl (Nat.le_refl _) (Nat.le_refl _) hq
theorem c_Mo_isInRow {y z : Nat} (hM : MB σ I A) (hV : MV σ see I A) (hy : y < 160) (hz : z < 160) (hq : Q (some (.inl (b2i (irF σ see y z)))) (mH g I A)) : X M_Mo_isInRow (rmo M_Mo_isInRow 0 0) (Zm Q 0 0) 0 (ini M_Mo_isInRow [mo, .inl (nI y), .inl (nI z)]) [] (mH g I A) 0 0 := by
  obtain ⟨v1, v2, v3, v4, v5, v6, v7⟩ := hV
  show X M_Mo_isInRow _ _ 0 [some (.inr (some (10, 0))), some (.inl (nI y)), some (.inl (nI z))] [] (mH g I A) 0 0
  refine X_run 1 (pc' := 1) (L' := [some (.inr (some (10, 0))), some (.inl (nI y)), some (.inl (nI z))]) (st' := [.inr (some (10, 0))]) rfl ?_
  refine XM_get (v := .inr (some (11, 16))) rfl f_Mo_51 rfl rfl ?_
  refine X_run 1 (pc' := 5) (L' := [some (.inr (some (10, 0))), some (.inl (nI y)), some (.inl (nI z))]) (st' := [.inl (nI y), .inr (some (11, 16))]) rfl ?_
  refine XM_zld (k := 16) (i := y) rfl (by decide) (by simp only [mln]; omega) rfl ?_
  refine X_eq (st' := [.inl (b2i (thF σ see y))]) rfl (congrArg (fun z => Sum.inl z :: _) (v3 y hy)) rfl ?_
  refine X_if_eq (tgt := 34) (nx := 9) rfl rfl rfl (fun h1 => ?_) (fun h1 => ?_)
  · rw [b2i_0] at h1
    refine X_run 1 (pc' := 35) (L' := [some (.inr (some (10, 0))), some (.inl (nI y)), some (.inl (nI z))]) (st' := [.inl (0)]) rfl ?_
    exact X_iret rfl rfl rfl (Nat.le_refl _) (Nat.le_refl _) (qf (by simp [irF, h1]) hq)
  · rw [b2i_n0] at h1
    refine X_run 2 (pc' := 11) (L' := [some (.inr (some (10, 0))), some (.inl (nI y)), some (.inl (nI z))]) (st' := [.inl (nI y), .inr (some (10, 0))]) rfl ?_
    refine X_callV (vs := [.inl (nI y)]) (st := []) (mc := 0) (ms := 0) rfl ok_Mo_isStruck v_Mo_131 rfl rfl rfl (Nat.le_of_ble_eq_true rfl) (Nat.le_of_ble_eq_true rfl) (Nat.le_of_ble_eq_true rfl) (Nat.le_of_ble_eq_true rfl) (Nat.le_of_ble_eq_true rfl) (Nat.le_of_ble_eq_true rfl) rfl ?_
    refine c_Mo_isStruck hM.1 v1 v2 v3 hy hM.2.1 ?_
    show X M_Mo_isInRow _ _ 14 [some (.inr (some (10, 0))), some (.inl (nI y)), some (.inl (nI z))] [.inl (b2i (stkF σ see y))] (mH g I A) 0 0
    refine X_if_ne (tgt := 34) (nx := 17) rfl rfl rfl (fun h2 => ?_) (fun h2 => ?_)
    · rw [b2i_n0] at h2
      refine X_run 1 (pc' := 35) (L' := [some (.inr (some (10, 0))), some (.inl (nI y)), some (.inl (nI z))]) (st' := [.inl (0)]) rfl ?_
      exact X_iret rfl rfl rfl (Nat.le_refl _) (Nat.le_refl _) (qf (by simp [irF, h2]) hq)
    · rw [b2i_0] at h2
      refine X_run 2 (pc' := 19) (L' := [some (.inr (some (10, 0))), some (.inl (nI y)), some (.inl (nI z))]) (st' := [.inl (nI y), .inr (some (10, 0))]) rfl ?_
      refine X_callV (vs := [.inl (nI y)]) (st := []) (mc := 0) (ms := 0) rfl ok_Mo_nameOf v_Mo_148 rfl rfl rfl (Nat.le_of_ble_eq_true rfl) (Nat.le_of_ble_eq_true rfl) (Nat.le_of_ble_eq_true rfl) (Nat.le_of_ble_eq_true rfl) (Nat.le_of_ble_eq_true rfl) (Nat.le_of_ble_eq_true rfl) rfl ?_
      refine c_Mo_nameOf hM.1 v1 v2 v3 hy v4 v5 v6 ?_
      show X M_Mo_isInRow _ _ 22 [some (.inr (some (10, 0))), some (.inl (nI y)), some (.inl (nI z))] [.inl (nmF σ see y)] (mH g I A) 0 0
      refine X_run 2 (pc' := 24) (L' := [some (.inr (some (10, 0))), some (.inl (nI y)), some (.inl (nI z))]) (st' := [.inl (nI z), .inr (some (10, 0)), .inl (nmF σ see y)]) rfl ?_
      refine X_callV (vs := [.inl (nI z)]) (st := [.inl (nmF σ see y)]) (mc := 0) (ms := 0) rfl ok_Mo_nameOf v_Mo_148 rfl rfl rfl (Nat.le_of_ble_eq_true rfl) (Nat.le_of_ble_eq_true rfl) (Nat.le_of_ble_eq_true rfl) (Nat.le_of_ble_eq_true rfl) (Nat.le_of_ble_eq_true rfl) (Nat.le_of_ble_eq_true rfl) rfl ?_
      refine c_Mo_nameOf hM.1 v1 v2 v3 hz v4 v5 v6 ?_
      show X M_Mo_isInRow _ _ 27 [some (.inr (some (10, 0))), some (.inl (nI y)), some (.inl (nI z))] [.inl (nmF σ see z), .inl (nmF σ see y)] (mH g I A) 0 0
      refine X_ic_ne (tgt := 34) (nx := 30) rfl rfl rfl (fun h3 => ?_) (fun h3 => ?_)
      · refine X_run 1 (pc' := 35) (L' := [some (.inr (some (10, 0))), some (.inl (nI y)), some (.inl (nI z))]) (st' := [.inl (0)]) rfl ?_
        exact X_iret rfl rfl rfl (Nat.le_refl _) (Nat.le_refl _) (qf (by unfold irF; rw [show decide (nmF σ see y = nmF σ see z) = false from decide_eq_false h3, Bool.and_false]) hq)
      · refine X_run 2 (pc' := 35) (L' := [some (.inr (some (10, 0))), some (.inl (nI y)), some (.inl (nI z))]) (st' := [.inl (1)]) rfl ?_
        exact X_iret rfl rfl rfl (Nat.le_refl _) (Nat.le_refl _) (qt (by unfold irF; rw [show decide (nmF σ see y = nmF σ see z) = true from decide_eq_true h3, h1, h2]; rfl) hq)
theorem c_Mo_thing {t w : Int32} (hM : MB σ I A) (hW : WF σ) (hq : ∀ (I' : Nat → Int32) (A' : Nat → Nat → Int32), MB σ I' A' → Q (some (.inl (sThing σ t w))) (mH g I' A')) : X M_Mo_thing (rmo M_Mo_thing 0 0) (Zm Q 0 0) 0 (ini M_Mo_thing [mo, .inl t, .inl w]) [] (mH g I A) 0 0 := by
  show X M_Mo_thing _ _ 0 [some (.inr (some (10, 0))), some (.inl (t)), some (.inl (w))] [] (mH g I A) 0 0
  refine X_run 1 (pc' := 1) (L' := [some (.inr (some (10, 0))), some (.inl (t)), some (.inl (w))]) (st' := [.inr (some (10, 0))]) rfl ?_
  refine XM_get (v := .inl (I 10)) rfl f_Mo_34 rfl rfl ?_
  refine X_eq (st' := [.inl (vd σ)]) rfl (congrArg (fun z => Sum.inl z :: _) hM.2.2.2.2.2.1) rfl ?_
  refine X_run 1 (pc' := 5) (L' := [some (.inr (some (10, 0))), some (.inl (t)), some (.inl (w))]) (st' := [.inl (-1), .inl (vd σ)]) rfl ?_
  refine X_ic_eq (tgt := 19) (nx := 8) rfl rfl rfl (fun h1 => ?_) (fun h1 => ?_)
  · refine X_run 1 (pc' := 22) (L' := [some (.inr (some (10, 0))), some (.inl (t)), some (.inl (w))]) (st' := [.inl (-10000)]) rfl ?_
    exact X_iret rfl rfl rfl (Nat.le_refl _) (Nat.le_refl _) (by have := hq I A hM; unfold sThing at this; rw [if_pos h1] at this; exact this)
  · refine X_run 3 (pc' := 13) (L' := [some (.inr (some (10, 0))), some (.inl (t)), some (.inl (w))]) (st' := [.inl (159), .inl (0), .inl (t)]) rfl ?_
    refine X_callS (vs := [.inl (t), .inl (0), .inl (159)]) (st := []) (mc := 0) (ms := 0) rfl ok_Mo_in s_Mo_70 rfl rfl (Nat.le_of_ble_eq_true rfl) (Nat.le_of_ble_eq_true rfl) (Nat.le_of_ble_eq_true rfl) (Nat.le_of_ble_eq_true rfl) (Nat.le_of_ble_eq_true rfl) (Nat.le_of_ble_eq_true rfl) rfl ?_
    refine c_Mo_in ?_
    show X M_Mo_thing _ _ 16 [some (.inr (some (10, 0))), some (.inl (t)), some (.inl (w))] [.inl (b2i (decide ((0 : Int32) ≤ t ∧ t ≤ 159)))] (mH g I A) 0 0
    refine X_eq (st' := [.inl (b2i (decide (0 ≤ t.toInt ∧ t.toInt ≤ 159)))]) rfl (congrArg (fun z => Sum.inl z :: _) (congrArg b2i in159)) rfl ?_
    refine X_if_ne (tgt := 23) (nx := 19) rfl rfl rfl (fun h2 => ?_) (fun h2 => ?_)
    · rw [b2i_n0] at h2
      have h3 := of_decide_eq_true h2
      obtain ⟨y, hy, rfl⟩ := rng_nI (n := 159) (by decide) h3
      have hcy : (nI y).toNatClampNeg = y := nI_clamp (by omega)
      refine X_run 1 (pc' := 24) (L' := [some (.inr (some (10, 0))), some (.inl (nI y)), some (.inl (w))]) (st' := [.inr (some (10, 0))]) rfl ?_
      refine X_callV (vs := []) (st := []) (mc := 0) (ms := 0) rfl ok_Mo_viewed v_Mo_142 rfl rfl rfl (Nat.le_of_ble_eq_true rfl) (Nat.le_of_ble_eq_true rfl) (Nat.le_of_ble_eq_true rfl) (Nat.le_of_ble_eq_true rfl) (Nat.le_of_ble_eq_true rfl) (Nat.le_of_ble_eq_true rfl) rfl ?_
      refine c_Mo_viewed hM hW h1 (fun I1 A1 hM1 hV => ?_)
      show X M_Mo_thing _ _ 27 [some (.inr (some (10, 0))), some (.inl (nI y)), some (.inl (w))] [] (mH g I1 A1) 0 0
      obtain ⟨v1, v2, v3, v4, v5, v6, v7⟩ := hV
      have hq := hq I1 A1 hM1
      refine X_run 1 (pc' := 28) (L' := [some (.inr (some (10, 0))), some (.inl (nI y)), some (.inl (w))]) (st' := [.inr (some (10, 0))]) rfl ?_
      refine XM_get (v := .inr (some (11, 16))) rfl f_Mo_51 rfl rfl ?_
      refine X_run 1 (pc' := 32) (L' := [some (.inr (some (10, 0))), some (.inl (nI y)), some (.inl (w))]) (st' := [.inl (nI y), .inr (some (11, 16))]) rfl ?_
      refine XM_zld (k := 16) (i := y) rfl (by decide) (by simp only [mln]; omega) rfl ?_
      refine X_eq (st' := [.inl (b2i (thF σ (vsee σ) y))]) rfl (congrArg (fun z => Sum.inl z :: _) (v3 y (by omega))) rfl ?_
      refine X_if_ne (tgt := 40) (nx := 36) rfl rfl rfl (fun h5 => ?_) (fun h5 => ?_)
      · rw [b2i_n0] at h5
        unfold sThing at hq
        rw [if_neg h1, hcy, if_pos ⟨h3.1, h3.2, h5⟩] at hq
        refine X_run 1 (pc' := 41) (L' := [some (.inr (some (10, 0))), some (.inl (nI y)), some (.inl (w))]) (st' := [.inl (w)]) rfl ?_
        refine X_sw_0_5 (t0 := 76) (t1 := 90) (t2 := 96) (t3 := 103) (t4 := 110) (tout := 116) rfl rfl rfl rfl rfl rfl rfl (fun hw => ?_) (fun hw => ?_) (fun hw => ?_) (fun hw => ?_) (fun hw => ?_) (fun hw0 hw1 hw2 hw3 hw4 => ?_)
        · rw [hw] at hq
          have hq : Q (some (.inl (b2i (stkF σ (vsee σ) y)))) (mH g I1 A1) := hq
          refine X_run 2 (pc' := 78) (L' := [some (.inr (some (10, 0))), some (.inl (nI y)), some (.inl (w))]) (st' := [.inl (nI y), .inr (some (10, 0))]) rfl ?_
          refine X_callV (vs := [.inl (nI y)]) (st := []) (mc := 0) (ms := 0) rfl ok_Mo_isStruck v_Mo_131 rfl rfl rfl (Nat.le_of_ble_eq_true rfl) (Nat.le_of_ble_eq_true rfl) (Nat.le_of_ble_eq_true rfl) (Nat.le_of_ble_eq_true rfl) (Nat.le_of_ble_eq_true rfl) (Nat.le_of_ble_eq_true rfl) rfl ?_
          refine c_Mo_isStruck hM1.1 v1 v2 v3 (by omega) hM1.2.1 ?_
          show X M_Mo_thing _ _ 81 [some (.inr (some (10, 0))), some (.inl (nI y)), some (.inl (w))] [.inl (b2i (stkF σ (vsee σ) y))] (mH g I1 A1) 0 0
          refine X_if_eq (tgt := 88) (nx := 84) rfl rfl rfl (fun h6 => ?_) (fun h6 => ?_)
          · rw [b2i_0] at h6
            refine X_run 1 (pc' := 89) (L' := [some (.inr (some (10, 0))), some (.inl (nI y)), some (.inl (w))]) (st' := [.inl (0)]) rfl ?_
            exact X_iret rfl rfl rfl (Nat.le_refl _) (Nat.le_refl _) (qf h6 hq)
          · rw [b2i_n0] at h6
            refine X_run 2 (pc' := 89) (L' := [some (.inr (some (10, 0))), some (.inl (nI y)), some (.inl (w))]) (st' := [.inl (1)]) rfl ?_
            exact X_iret rfl rfl rfl (Nat.le_refl _) (Nat.le_refl _) (qt h6 hq)
        · rw [hw] at hq
          refine X_run 2 (pc' := 92) (L' := [some (.inr (some (10, 0))), some (.inl (nI y)), some (.inl (w))]) (st' := [.inl (nI y), .inr (some (10, 0))]) rfl ?_
          refine X_callV (vs := [.inl (nI y)]) (st := []) (mc := 0) (ms := 0) rfl ok_Mo_nameOf v_Mo_148 rfl rfl rfl (Nat.le_of_ble_eq_true rfl) (Nat.le_of_ble_eq_true rfl) (Nat.le_of_ble_eq_true rfl) (Nat.le_of_ble_eq_true rfl) (Nat.le_of_ble_eq_true rfl) (Nat.le_of_ble_eq_true rfl) rfl ?_
          refine c_Mo_nameOf hM1.1 v1 v2 v3 (by omega) v4 v5 v6 ?_
          show X M_Mo_thing _ _ 95 [some (.inr (some (10, 0))), some (.inl (nI y)), some (.inl (w))] [.inl (nmF σ (vsee σ) y)] (mH g I1 A1) 0 0
          exact X_iret rfl rfl rfl (Nat.le_refl _) (Nat.le_refl _) hq
        · rw [hw] at hq
          refine X_run 3 (pc' := 99) (L' := [some (.inr (some (10, 0))), some (.inl (nI y)), some (.inl (w))]) (st' := [.inl (1), .inl (nI y), .inr (some (10, 0))]) rfl ?_
          refine X_eq (st' := [.inl (nI (1)), .inl (nI y), .inr (some (10, 0))]) rfl (congrArg (fun z : Int32 => ([.inl z, .inl (nI y), .inr (some (10, 0))] : List AV)) (by first | rfl | (simp only [il_0, il_1, il_2, il_3, il_4, il_5, il_6, il_7, il_16, il_20, il_40, il_160, pk_mul, nI_add]; done) | (simp only [il_0, il_1, il_2, il_3, il_4, il_5, il_6, il_7, il_16, il_20, il_40, il_160, pk_mul, nI_add]; exact congrArg nI (by omega)))) rfl ?_
          refine X_callV (vs := [.inl (nI y), .inl (nI (1))]) (st := []) (mc := 0) (ms := 0) rfl ok_Mo_sumOf v_Mo_160 rfl rfl rfl (Nat.le_of_ble_eq_true rfl) (Nat.le_of_ble_eq_true rfl) (Nat.le_of_ble_eq_true rfl) (Nat.le_of_ble_eq_true rfl) (Nat.le_of_ble_eq_true rfl) (Nat.le_of_ble_eq_true rfl) rfl ?_
          refine c_Mo_sumOf hM1.1 v1 v2 v3 (by omega) (by omega) ?_
          show X M_Mo_thing _ _ 102 [some (.inr (some (10, 0))), some (.inl (nI y)), some (.inl (w))] [.inl (smF σ (vsee σ) y 1)] (mH g I1 A1) 0 0
          exact X_iret rfl rfl rfl (Nat.le_refl _) (Nat.le_refl _) hq
        · rw [hw] at hq
          refine X_run 3 (pc' := 106) (L' := [some (.inr (some (10, 0))), some (.inl (nI y)), some (.inl (w))]) (st' := [.inl (2), .inl (nI y), .inr (some (10, 0))]) rfl ?_
          refine X_eq (st' := [.inl (nI (2)), .inl (nI y), .inr (some (10, 0))]) rfl (congrArg (fun z : Int32 => ([.inl z, .inl (nI y), .inr (some (10, 0))] : List AV)) (by first | rfl | (simp only [il_0, il_1, il_2, il_3, il_4, il_5, il_6, il_7, il_16, il_20, il_40, il_160, pk_mul, nI_add]; done) | (simp only [il_0, il_1, il_2, il_3, il_4, il_5, il_6, il_7, il_16, il_20, il_40, il_160, pk_mul, nI_add]; exact congrArg nI (by omega)))) rfl ?_
          refine X_callV (vs := [.inl (nI y), .inl (nI (2))]) (st := []) (mc := 0) (ms := 0) rfl ok_Mo_sumOf v_Mo_160 rfl rfl rfl (Nat.le_of_ble_eq_true rfl) (Nat.le_of_ble_eq_true rfl) (Nat.le_of_ble_eq_true rfl) (Nat.le_of_ble_eq_true rfl) (Nat.le_of_ble_eq_true rfl) (Nat.le_of_ble_eq_true rfl) rfl ?_
          refine c_Mo_sumOf hM1.1 v1 v2 v3 (by omega) (by omega) ?_
          show X M_Mo_thing _ _ 109 [some (.inr (some (10, 0))), some (.inl (nI y)), some (.inl (w))] [.inl (smF σ (vsee σ) y 2)] (mH g I1 A1) 0 0
          exact X_iret rfl rfl rfl (Nat.le_refl _) (Nat.le_refl _) hq
        · rw [hw] at hq
          have hq : Q (some (.inl (nI ((ODF σ (vsee σ)).idxOf y)))) (mH g I1 A1) := hq
          refine X_run 2 (pc' := 112) (L' := [some (.inr (some (10, 0))), some (.inl (nI y)), some (.inl (w))]) (st' := [.inl (nI y), .inr (some (10, 0))]) rfl ?_
          refine X_callV (vs := [.inl (nI y)]) (st := []) (mc := 0) (ms := 0) rfl ok_Mo_placeOf v_Mo_111 rfl rfl rfl (Nat.le_of_ble_eq_true rfl) (Nat.le_of_ble_eq_true rfl) (Nat.le_of_ble_eq_true rfl) (Nat.le_of_ble_eq_true rfl) (Nat.le_of_ble_eq_true rfl) (Nat.le_of_ble_eq_true rfl) rfl ?_
          refine c_Mo_placeOf rfl v7.1 v7.2.1 v7.2.2.2 (by omega) (fun r hr => ?_)
          show X M_Mo_thing _ _ 115 [some (.inr (some (10, 0))), some (.inl (nI y)), some (.inl (w))] [.inl (r)] (mH g I1 A1) 0 0
          have hin : y ∈ ODF σ (vsee σ) := (ODF_mem hW (okS_v hW h1) y (by omega)).mpr h5
          have er : r = nI ((ODF σ (vsee σ)).idxOf y) := by
            rcases hr with ⟨j, hj, rfl⟩ | ⟨hno, -⟩
            · rw [idx_of v7.2.2.1 hj]
            · obtain ⟨j, hj⟩ := mem_idx hin
              exact absurd hj (hno j)
          exact X_iret rfl rfl rfl (Nat.le_refl _) (Nat.le_refl _) (by rw [er]; exact hq)
        · have hq : Q (some (.inl (if w = 0 then _ else if w = 1 then _ else if w = 2 then _ else if w = 3 then _ else if w = 4 then _ else -10000))) (mH g I1 A1) := hq
          rw [if_neg (show ¬ w = 0 from hw0), if_neg (show ¬ w = 1 from hw1), if_neg (show ¬ w = 2 from hw2), if_neg (show ¬ w = 3 from hw3), if_neg (show ¬ w = 4 from hw4)] at hq
          refine X_run 1 (pc' := 119) (L' := [some (.inr (some (10, 0))), some (.inl (nI y)), some (.inl (w))]) (st' := [.inl (-10000)]) rfl ?_
          exact X_iret rfl rfl rfl (Nat.le_refl _) (Nat.le_refl _) hq
      · rw [b2i_0] at h5
        unfold sThing at hq
        rw [if_neg h1, hcy, if_neg (fun z => by rw [h5] at z; cases z.2.2)] at hq
        refine X_run 1 (pc' := 39) (L' := [some (.inr (some (10, 0))), some (.inl (nI y)), some (.inl (w))]) (st' := [.inl (-10000)]) rfl ?_
        exact X_iret rfl rfl rfl (Nat.le_refl _) (Nat.le_refl _) hq
    · rw [b2i_0] at h2
      have h2 := of_decide_eq_false h2
      refine X_run 1 (pc' := 22) (L' := [some (.inr (some (10, 0))), some (.inl (t)), some (.inl (w))]) (st' := [.inl (-10000)]) rfl ?_
      exact X_iret rfl rfl rfl (Nat.le_refl _) (Nat.le_refl _) (by have := hq I A hM; unfold sThing at this; rw [if_neg h1, if_neg (fun z => h2 ⟨z.1, z.2.1⟩)] at this; exact this)
end

