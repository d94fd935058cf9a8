/-! pure: undos match like brackets -/
def stK (σ : Sg) (d : Nat) : Nat → List Nat
  | 0 => []
  | k + 1 => if so σ (40 * d + k) = 7 then (stK σ d k).tail else k :: stK σ d k
theorem stK_succ (σ : Sg) (d k : Nat) : stK σ d (k + 1) = if so σ (40 * d + k) = 7 then (stK σ d k).tail else k :: stK σ d k := rfl
theorem bk_st (σ : Sg) (d : Nat) : ∀ (k u : Nat), bkF σ d u k = (stK σ d k)[u]?
  | 0, _ => rfl
  | k + 1, u => by
    rw [bkF_succ, stK_succ]
    by_cases q : so σ (40 * d + k) = 7
    · rw [if_pos q, if_pos q, bk_st σ d k (u + 1), List.getElem?_tail]
    · rw [if_neg q, if_neg q]
      cases u with
      | zero => rfl
      | succ u =>
        rw [if_neg (by omega), bk_st σ d k]
        rfl
theorem st_dec (σ : Sg) (d : Nat) : ∀ k, (stK σ d k).Pairwise (fun a b => b < a) ∧ ∀ j, j ∈ stK σ d k → j < k
  | 0 => ⟨List.Pairwise.nil, fun j hj => by cases hj⟩
  | k + 1 => by
    obtain ⟨h1, h2⟩ := st_dec σ d k
    rw [stK_succ]
    by_cases q : so σ (40 * d + k) = 7
    · rw [if_pos q]
      refine ⟨List.Pairwise.sublist (List.tail_sublist _) h1, fun j hj => ?_⟩
      have := h2 j (List.mem_of_mem_tail hj)
      omega
    · rw [if_neg q]
      refine ⟨List.pairwise_cons.mpr ⟨fun j hj => h2 j hj, h1⟩, fun j hj => ?_⟩
      rcases List.mem_cons.mp hj with hj | hj
      · omega
      · have := h2 j hj
        omega
theorem st_mem {σ : Sg} (h : W2 σ) {d : Nat} (hd : d < 4) : ∀ k, k ≤ mny σ d → ∀ j, (j ∈ stK σ d k ↔ j < k ∧ so σ (40 * d + j) ≠ 7 ∧ ∀ i, i < k → so σ (40 * d + i) = 7 → tg σ (40 * d + i) ≠ j)
  | 0, _, j => ⟨fun z => (by cases z), fun z => (by have := z.1; omega)⟩
  | k + 1, hk, j => by
    have ih := st_mem h hd k (by omega) j
    have hw := h.1
    have m40 := hw.1.2.1 d d d
    have inl : ∀ i, i < k + 1 → 40 * d + i ∈ ln σ ∧ (40 * d + i) % 40 = i ∧ (40 * d + i) / 40 = d := fun i hi => by
      unfold mny at hk
      have a1 : (40 * d + i) % 40 = i := by omega
      have a2 : (40 * d + i) / 40 = d := by omega
      refine ⟨(hw.p2 _).mpr ⟨by omega, ?_⟩, a1, a2⟩
      rw [a1, a2]
      unfold mny
      omega
    rw [stK_succ]
    by_cases q : so σ (40 * d + k) = 7
    · rw [if_pos q]
      obtain ⟨k1, k2, k3⟩ := inl k (by omega)
      have hb := h.2.2.2.2 _ k1 q
      rw [k2, k3, bk_st] at hb
      obtain ⟨m, l, e⟩ : ∃ m l, stK σ d k = m :: l := by
        cases hs : stK σ d k with
        | nil =>
          rw [hs] at hb
          cases hb
        | cons m l => exact ⟨m, l, rfl⟩
      rw [e] at hb ih ⊢
      have em : m = tg σ (40 * d + k) := by
        simpa using hb
      have hp := (st_dec σ d k).1
      rw [e, List.pairwise_cons] at hp
      rw [List.tail_cons]
      constructor
      · intro hj
        obtain ⟨i1, i2, i3⟩ := ih.mp (List.mem_cons_of_mem _ hj)
        refine ⟨by omega, i2, fun i hi h7 => ?_⟩
        by_cases qi : i = k
        · rw [qi, ← em]
          have := hp.1 j hj
          omega
        · exact i3 i (by omega) h7
      · rintro ⟨i1, i2, i3⟩
        have jk : j ≠ k := fun z => i2 (by rw [z]; exact q)
        have hj := ih.mpr ⟨by omega, i2, fun i hi h7 => i3 i (by omega) h7⟩
        rcases List.mem_cons.mp hj with hj | hj
        · have := i3 k (by omega) q
          rw [← em] at this
          exact absurd hj.symm this
        · exact hj
    · rw [if_neg q, List.mem_cons]
      constructor
      · rintro (hj | hj)
        · refine ⟨by omega, by rw [hj]; exact q, fun i hi h7 => ?_⟩
          obtain ⟨k1, k2, k3⟩ := inl i hi
          have := hw.p6 _ k1 h7
          rw [k2] at this
          omega
        · obtain ⟨i1, i2, i3⟩ := ih.mp hj
          refine ⟨by omega, i2, fun i hi h7 => ?_⟩
          by_cases qi : i = k
          · rw [qi] at h7
            exact absurd h7 q
          · exact i3 i (by omega) h7
      · rintro ⟨i1, i2, i3⟩
        by_cases qj : j = k
        · exact Or.inl qj
        · exact Or.inr (ih.mpr ⟨by omega, i2, fun i hi h7 => i3 i (by omega) h7⟩)
theorem lu_char (σ : Sg) (see : Nat → Nat) (d : Nat) : ∀ k, match luF σ see d k with
    | none => ∀ j, j < k → (so σ (40 * d + j) == 7 || unF σ see (40 * d + j)) = true
    | some m => m < k ∧ (so σ (40 * d + m) == 7 || unF σ see (40 * d + m)) = false ∧ ∀ j, m < j → j < k → (so σ (40 * d + j) == 7 || unF σ see (40 * d + j)) = true
  | 0 => fun j hj => by omega
  | k + 1 => by
    have ih := lu_char σ see d k
    unfold luF
    cases hq : (so σ (40 * d + k) == 7 || unF σ see (40 * d + k)) with
    | false => exact ⟨by omega, hq, fun j h1 h2 => by omega⟩
    | true =>
      simp only [if_true]
      cases hl : luF σ see d k with
      | none =>
        rw [hl] at ih
        intro j hj
        by_cases q : j = k
        · rw [q]
          exact hq
        · exact ih j (by omega)
      | some m =>
        rw [hl] at ih
        obtain ⟨i1, i2, i3⟩ := ih
        refine ⟨by omega, i2, fun j h1 h2 => ?_⟩
        by_cases q : j = k
        · rw [q]
          exact hq
        · exact i3 j h1 (by omega)
theorem lu_bk {σ : Sg} (h : W2 σ) {d : Nat} (hd : d < nd σ) : luF σ (rk σ d d) d (mny σ d) = bkF σ d 0 (mny σ d) := by
  have hw := h.1
  have d4 : d < 4 := by
    have := hw.1.1
    omega
  have m40 : mny σ d ≤ 40 := hw.1.2.1 d d d
  have hs : okS σ (rk σ d d) := okS_d hw d
  have un : ∀ j, j < mny σ d → (unF σ (rk σ d d) (40 * d + j) = true ↔ ∃ i, i < mny σ d ∧ so σ (40 * d + i) = 7 ∧ tg σ (40 * d + i) = j) := fun j hj => by
    unfold unF
    rw [List.any_eq_true]
    constructor
    · rintro ⟨y, hy, hz⟩
      simp only [Bool.and_eq_true, beq_iff_eq] at hz
      obtain ⟨⟨z1, z2⟩, z3⟩ := hz
      have yl := (inV_ln hw hs z1).1
      have := hw.p6 y yl z2
      have z4 : y % 40 < rk σ d d (y / 40) := by simpa [inV] using z1
      have yd : y / 40 = d := by omega
      rw [yd] at z4
      refine ⟨y % 40, z4, ?_, ?_⟩
      · rw [show 40 * d + y % 40 = y by omega]
        exact z2
      · rw [show 40 * d + y % 40 = y by omega]
        omega
    · rintro ⟨i, i1, i2, i3⟩
      refine ⟨40 * d + i, List.mem_range.mpr (by omega), ?_⟩
      have a1 : (40 * d + i) % 40 = i := by omega
      have a2 : (40 * d + i) / 40 = d := by omega
      unfold inV
      rw [a1, a2, i2, i3, decide_eq_true (show i < rk σ d d d from i1)]
      simp
  have good : ∀ j, j < mny σ d → ((so σ (40 * d + j) == 7 || unF σ (rk σ d d) (40 * d + j)) = false ↔ j ∈ stK σ d (mny σ d)) := fun j hj => by
    rw [st_mem h d4 _ (Nat.le_refl _), Bool.or_eq_false_iff, ← Bool.not_eq_true (unF σ (rk σ d d) (40 * d + j)), un j hj]
    simp only [beq_eq_false_iff_ne]
    constructor
    · rintro ⟨q1, q2⟩
      exact ⟨hj, q1, fun i hi h7 ht => q2 ⟨i, hi, h7, ht⟩⟩
    · rintro ⟨-, q1, q2⟩
      exact ⟨q1, fun ⟨i, hi, h7, ht⟩ => q2 i hi h7 ht⟩
  have hc := lu_char σ (rk σ d d) d (mny σ d)
  have hdec := st_dec σ d (mny σ d)
  rw [bk_st]
  cases hl : luF σ (rk σ d d) d (mny σ d) with
  | none =>
    rw [hl] at hc
    cases hst : stK σ d (mny σ d) with
    | nil => rfl
    | cons m l =>
      exfalso
      have hm : m ∈ stK σ d (mny σ d) := by rw [hst]; exact List.mem_cons_self
      have hlt := hdec.2 m hm
      have := (good m hlt).mpr hm
      rw [hc m hlt] at this
      cases this
  | some k =>
    rw [hl] at hc
    obtain ⟨c1, c2, c3⟩ := hc
    have kst := (good k c1).mp c2
    cases hst : stK σ d (mny σ d) with
    | nil =>
      rw [hst] at kst
      cases kst
    | cons m l =>
      have hm : m ∈ stK σ d (mny σ d) := by rw [hst]; exact List.mem_cons_self
      have hlt := hdec.2 m hm
      have g := (good m hlt).mpr hm
      rw [hst] at kst hdec
      rcases List.mem_cons.mp kst with q | q
      · rw [q]
        rfl
      · have := (List.pairwise_cons.mp hdec.1).1 k q
        rw [c3 m this hlt] at g
        cases g
