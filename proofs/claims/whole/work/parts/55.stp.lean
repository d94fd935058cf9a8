/-! each call keeps what holds of the state -/
theorem W2_on {σ : Sg} (h : W2 σ) {d t v : Int32} {w : Nat} {b ok : Bool} (hw : 1 ≤ w ∧ w ≤ 6) (h5 : w = 5 → ok = true → (v = -1 ∨ ∃ k, k < 160 ∧ v = nI k) ∧ v ≠ t) (h2 : w = 2 → ok = true → 1 ≤ v.toInt ∧ v.toInt ≤ 99) (h6 : w = 6 → ok = true → 1 ≤ v.toInt ∧ v.toInt ≤ 999) : W2 (sOn σ d t w b v ok).1 := by
  unfold sOn
  by_cases q : (ok && canT σ d t b) = true
  · rw [if_pos q]
    rw [Bool.and_eq_true] at q
    obtain ⟨k, y, hk, ek, hm, kc, hy, ey, yc, hth, -⟩ := canT_t h.1.1.1 q.2
    show W2 (doS σ d.toNatClampNeg w t.toNatClampNeg v 0)
    rw [kc, yc]
    obtain ⟨c1, c2⟩ := th_ct.mp hth
    have tl := inV_ln h.1 (okS_d h.1 k) (ct_t c1).1
    refine doS_W2 h ⟨hk, hm, by omega, hy, fun _ _ => ⟨c2, tl.1, by simpa [inV] using (ct_t c1).1⟩, fun z => by omega, fun z => by omega, fun z => ?_, fun z => h2 z q.1, fun z => h6 z q.1⟩
    have := h5 z q.1
    rw [ey] at this
    exact this
  · rw [if_neg q]
    exact h
theorem okM_t {σ : Sg} {d t b : Int32} (h : okM σ d t b = true) : (b = -1 ∨ ∃ k, k < 160 ∧ b = nI k) ∧ b ≠ t := by
  unfold okM at h
  simp only [Bool.and_eq_true, Bool.or_eq_true, decide_eq_true_eq] at h
  refine ⟨?_, fun z => h.1 z.symm⟩
  rcases h.2 with q | q
  · exact Or.inl q
  · obtain ⟨k, hk, e⟩ := rng_nI (n := 159) (by decide) q.1
    exact Or.inr ⟨k, by omega, e⟩
theorem W2_put {σ : Sg} (h : W2 σ) (d nm ct : Int32) : W2 (sPut σ d nm ct).1 := by
  unfold sPut
  by_cases q : (canD σ d && decide (1 ≤ nm.toInt ∧ nm.toInt ≤ 999) && decide (0 ≤ ct.toInt ∧ ct.toInt ≤ 99)) = true
  · rw [if_pos q]
    simp only [Bool.and_eq_true, decide_eq_true_eq] at q
    obtain ⟨⟨q1, q2⟩, q3⟩ := q
    obtain ⟨k, hk, ek, hm, kc⟩ := canD_t h.1.1.1 q1
    show W2 (doS σ d.toNatClampNeg 0 (40 * d.toNatClampNeg + mny σ d.toNatClampNeg) ct nm)
    rw [kc]
    have h4 := h.1.1.1
    exact doS_W2 h ⟨hk, hm, by omega, by omega, fun z => absurd rfl z, fun _ => ⟨rfl, q3.1, q3.2, q2.1, q2.2⟩, fun z => by omega, fun z => by omega, fun z => by omega, fun z => by omega⟩
  · rw [if_neg q]
    exact h
theorem W2_undo {σ : Sg} (h : W2 σ) (d : Int32) : W2 (sUndo σ d).1 := by
  unfold sUndo
  by_cases q : canD σ d = true
  · rw [if_pos q]
    obtain ⟨k, hk, ek, hm, kc⟩ := canD_t h.1.1.1 q
    rw [kc, lu_bk h hk]
    cases hbk : bkF σ k 0 (mny σ k) with
    | none => exact h
    | some j =>
      have hj : j < mny σ k := by
        rw [bk_st] at hbk
        exact (st_dec σ k (mny σ k)).2 j (List.mem_of_getElem? hbk)
      exact doS_W2 h ⟨hk, hm, by omega, by omega, fun _ z => absurd rfl z, fun z => by omega, fun _ => ⟨hj, hbk⟩, fun z => by omega, fun z => by omega, fun z => by omega⟩
  · rw [if_neg q]
    exact h
theorem W2_view {σ : Sg} (h : W2 σ) (d n : Int32) : W2 (sView σ d n).1 := by
  unfold sView
  by_cases q : (isD σ d && (decide (n = -1) || decide (0 ≤ n.toInt ∧ n.toInt ≤ (mny σ d.toNatClampNeg : Int) - 1))) = true
  · rw [if_pos q]
    simp only [Bool.and_eq_true, Bool.or_eq_true, decide_eq_true_eq] at q
    obtain ⟨k, hk, ek⟩ := isD_t q.1
    have h4 := h.1.1.1
    have kc : d.toNatClampNeg = k := by
      rw [ek]
      exact nI_clamp (by omega)
    have m40 : mny σ k ≤ 40 := h.1.1.2.1 k k k
    rw [kc] at q
    show W2 (setV σ d n)
    rw [ek]
    refine setV_W2 h hk ?_
    rcases q.2 with z | z
    · exact Or.inl z
    · obtain ⟨j, hj, ej⟩ := rng_nI (n := 39) (by decide) ⟨z.1, by omega⟩
      have z2 := z.2
      rw [ej, nI_toInt (by omega)] at z2
      exact Or.inr ⟨j, by omega, ej⟩
  · rw [if_neg q]
    exact h
theorem W2_meet {σ : Sg} (h : W2 σ) (a b : Int32) : W2 (sMeet σ a b).1 := by
  unfold sMeet
  by_cases q : (isD σ a && isD σ b && decide (a ≠ b)) = true
  · rw [if_pos q]
    simp only [Bool.and_eq_true] at q
    obtain ⟨k, hk, ek⟩ := isD_t q.1.1
    obtain ⟨j, hj, ej⟩ := isD_t q.1.2
    have h4 := h.1.1.1
    have kc : a.toNatClampNeg = k := by
      rw [ek]
      exact nI_clamp (by omega)
    have jc : b.toNatClampNeg = j := by
      rw [ej]
      exact nI_clamp (by omega)
    show W2 (mtS σ a.toNatClampNeg b.toNatClampNeg)
    rw [kc, jc]
    exact mtS_W2 h hk hj
  · rw [if_neg q]
    exact h
theorem W2_dev {σ : Sg} (h : W2 σ) (f : Int32) : W2 (sDev σ f).1 := by
  have h4 := h.1.1.1
  unfold sDev
  by_cases q4 : nd σ = 4
  · rw [if_pos q4]
    exact h
  · rw [if_neg q4]
    have hA := addD_W2 h (by omega)
    by_cases q : f = -1
    · rw [if_pos q]
      split
      · exact h
      · exact hA
    · rw [if_neg q]
      by_cases q2 : isD σ f = true
      · rw [if_pos q2]
        obtain ⟨k, hk, ek⟩ := isD_t q2
        have kc : f.toNatClampNeg = k := by
          rw [ek]
          exact nI_clamp (by omega)
        show W2 (mtS (addD σ) (nd σ) f.toNatClampNeg)
        rw [kc]
        exact mtS_W2 hA (show nd σ < nd σ + 1 by omega) (show k < nd σ + 1 by omega)
      · rw [if_neg q2]
        exact h
