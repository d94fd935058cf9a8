/-! pure: what the picture shows of things is what the model says -/
theorem kw_knw {σ : Sg} (h : WF σ) {x z : Nat} (hz : z ∈ ln σ) (hne : x ≠ z) : x % 40 < kw σ z (x / 40) ↔ knw σ z x = true := by
  unfold kw knw
  rw [decide_eq_true_iff]
  by_cases q : x / 40 = z / 40
  · rw [if_pos q, q, (h.p11 z hz).1]
    omega
  · rw [if_neg q]
    exact Iff.rfl
theorem of_mem {σ : Sg} (h : WF σ) {see : Nat → Nat} (hs : okS σ see) {z t : Nat} : ofF σ see (unF σ see) (thF σ see) z t = true ↔ z ∈ KF σ see ∧ so σ z ≠ 0 ∧ tg σ z = t := by
  unfold ofF
  rw [KF_mem h hs]
  simp only [Bool.and_eq_true, bne_iff_ne, beq_iff_eq, ne_eq]
  exact ⟨fun z => ⟨z.1.1, z.1.2, z.2⟩, fun z => ⟨⟨z.1, z.2.1⟩, z.2.2⟩⟩
theorem ts_eq {σ : Sg} (h : W2 σ) {see : Nat → Nat} (hs : okS σ see) {t : Nat} (ht : thF σ see t = true) : tsP σ (KF σ see) t = (KF σ see).foldl (tsQ σ t) (nu σ t, vl σ t, 0, (fun _ => 0), fun _ => 0) := ts_split (KL_KF h hs) (by rw [thP_KF h.1 hs]; exact ht)
theorem jd_hld {σ : Sg} (h : W2 σ) {see : Nat → Nat} (hs : okS σ see) {t x : Nat} (ht : thF σ see t = true) (hx : x ∈ KF σ see) (h3 : so σ x = 3) : jdF σ (tsP σ (KF σ see) t) x = hldF σ see (unF σ see) (thF σ see) x t := by
  have hw := h.1
  have hxl := (List.mem_filter.mp hx).1
  have hx160 := ((hw.p2 x).mp hxl).1
  rw [ts_eq h hs ht]
  unfold jdF hldF
  rw [Bool.eq_iff_iff, Bool.and_eq_true, Bool.not_eq_true', decide_eq_false_iff_not, tq5, Bool.or_eq_true, List.all_eq_true, List.all_eq_true]
  have t4 : (∀ e, e ∈ List.range 4 → decide (((KF σ see).foldl (tsQ σ t) (nu σ t, vl σ t, 0, (fun _ => 0), fun _ => 0)).2.2.2.1 e ≤ kw σ x e) = true) ↔ ∀ z, z ∈ KF σ see → tg σ z = t → chg σ z = true → z % 40 + 1 ≤ kw σ x (z / 40) := by
    constructor
    · intro hh z hz h1 h2
      have z160 := ((hw.p2 z).mp (List.mem_filter.mp hz).1).1
      have := of_decide_eq_true (hh (z / 40) (List.mem_range.mpr (by omega)))
      rw [tq4] at this
      exact this.2 z hz h1 h2 rfl
    · intro hh e he
      refine decide_eq_true ?_
      rw [tq4]
      exact ⟨Nat.zero_le _, fun z hz h1 h2 h4 => by rw [← h4]; exact hh z hz h1 h2⟩
  rw [t4]
  have chx : chg σ x = false := by simp [chg, h3]
  constructor
  · rintro ⟨h1, h2⟩ z hz
    by_cases hof : ofF σ see (unF σ see) (thF σ see) z t = true
    · obtain ⟨q1, q2, q3⟩ := (of_mem hw hs).mp hof
      have hzl := (List.mem_filter.mp q1).1
      rw [hof]
      simp only [Bool.not_true, Bool.false_or, Bool.and_eq_true, Bool.not_eq_true', Bool.or_eq_true]
      refine ⟨?_, ?_⟩
      · cases hk : (so σ z == 4 && knw σ z x) with
        | false => rfl
        | true =>
          simp only [Bool.and_eq_true, beq_iff_eq] at hk
          have hne : x ≠ z := fun w => by rw [← w] at hk; omega
          exact absurd (Or.inr ⟨z, q1, q3, hk.1, (kw_knw hw hzl hne).mpr hk.2⟩) h1
      · rcases h2 with h2 | h2
        · exact Or.inl (Or.inl h2)
        · cases hc : chg σ z with
          | false => exact Or.inl (Or.inr rfl)
          | true =>
            right
            have hne : z ≠ x := fun w => by rw [w, chx] at hc; cases hc
            have := h2 z q1 q3 hc
            exact (kw_knw hw hxl hne).mp (by omega)
    · rw [Bool.eq_false_iff.mpr hof]
      rfl
  · intro hh
    have hh' : ∀ z, z ∈ KF σ see → so σ z ≠ 0 → tg σ z = t → (so σ z == 4 && knw σ z x) = false ∧ (wn σ = true ∨ chg σ z = false ∨ knw σ x z = true) := fun z q1 q2 q3 => by
      have hzl := (List.mem_filter.mp q1).1
      have := hh z (List.mem_range.mpr ((hw.p2 z).mp hzl).1)
      rw [(of_mem hw hs).mpr ⟨q1, q2, q3⟩] at this
      simp only [Bool.not_true, Bool.false_or, Bool.and_eq_true, Bool.not_eq_true', Bool.or_eq_true] at this
      exact ⟨this.1, by rcases this.2 with (q | q) | q <;> simp [q]⟩
    refine ⟨?_, ?_⟩
    · rintro (h1 | ⟨z, q1, q3, q4, q5⟩)
      · exact absurd h1 (Nat.not_lt_zero _)
      · have hne : x ≠ z := fun w => by rw [← w] at q4; omega
        have := (hh' z q1 (by omega) q3).1
        rw [q4, (kw_knw hw (List.mem_filter.mp q1).1 hne).mp q5] at this
        cases this
    · cases hwn : wn σ with
      | true => exact Or.inl rfl
      | false =>
        right
        intro z q1 q3 hc
        have z0 : so σ z ≠ 0 := fun w => by simp [chg, w] at hc
        have hne : z ≠ x := fun w => by rw [w, chx] at hc; cases hc
        rcases (hh' z q1 z0 q3).2 with q | q | q
        · rw [hwn] at q
          cases q
        · rw [hc] at q
          cases q
        · exact (kw_knw hw hxl hne).mpr q
theorem sk_stk {σ : Sg} (h : W2 σ) {see : Nat → Nat} (hs : okS σ see) {t : Nat} (ht : thF σ see t = true) : skP σ (KF σ see) (KF σ see) t = stkF σ see t := by
  have hw := h.1
  unfold skP stkF strF
  rw [Bool.eq_iff_iff, List.any_eq_true, List.any_eq_true]
  constructor
  · rintro ⟨x, hx, hz⟩
    simp only [Bool.and_eq_true, beq_iff_eq] at hz
    obtain ⟨⟨z1, z2⟩, z3⟩ := hz
    refine ⟨x, List.mem_range.mpr ((hw.p2 x).mp (List.mem_filter.mp hx).1).1, ?_⟩
    rw [jd_hld h hs ht hx z1] at z3
    rw [(of_mem hw hs).mpr ⟨hx, by omega, z2⟩, z1, z3]
    rfl
  · rintro ⟨x, hx, hz⟩
    simp only [Bool.and_eq_true, beq_iff_eq] at hz
    obtain ⟨⟨z1, z2⟩, z3⟩ := hz
    obtain ⟨q1, q2, q3⟩ := (of_mem hw hs).mp z1
    refine ⟨x, q1, ?_⟩
    rw [z2, q3, jd_hld h hs ht q1 z2, z3]
    simp
theorem ts1 {σ : Sg} (h : W2 σ) {see : Nat → Nat} (hs : okS σ see) {t : Nat} (ht : thF σ see t = true) : (tsP σ (KF σ see) t).1 = nmF σ see t := by
  rw [ts_eq h hs ht, tq1]
  unfold nmF namF KF LLF
  rw [foldl_flt, foldl_flt]
  refine foldl_cg (fun x hx a => ?_)
  have e : ofF σ see (unF σ see) (thF σ see) x t = (ctF σ see x && so σ x != 0 && tg σ x == t) := rfl
  rw [e]
  cases hc : ctF σ see x with
  | false =>
    simp
  | true =>
    rw [(ct_t hc).1]
    by_cases q6 : so σ x = 6
    · by_cases qt : tg σ x = t <;> simp [q6, qt]
    · simp [q6]
theorem KF_perm {σ : Sg} (h : WF σ) {see : Nat → Nat} (hs : okS σ see) : ((List.range 160).filter (ctF σ see)).Perm (KF σ see) := by
  rw [List.perm_ext_iff_of_nodup (List.Pairwise.filter _ List.nodup_range) (KF_nodup h see)]
  intro x
  rw [KF_mem h hs, List.mem_filter, List.mem_range]
  exact ⟨fun z => z.2, fun z => ⟨(inV_ln h hs (ct_t z).1).2, z⟩⟩
theorem sum_KF {σ : Sg} (h : WF σ) {see : Nat → Nat} (hs : okS σ see) (G : Nat → Int32) (hG : ∀ x, ctF σ see x = false → G x = 0) (b : Int32) : (List.range 160).foldl (fun a x => a + G x) b = (KF σ see).foldl (fun a x => a + G x) b := by
  have e1 : (List.range 160).foldl (fun a x => a + G x) b = ((List.range 160).filter (ctF σ see)).foldl (fun a x => a + G x) b := by
    rw [foldl_flt]
    refine foldl_cg (fun x hx a => ?_)
    cases hc : ctF σ see x with
    | true => rfl
    | false =>
      rw [hG x hc]
      simp
  rw [e1]
  refine List.Perm.foldl_eq' (KF_perm h hs) (fun x hx y hy z => ?_) b
  rw [Int32.add_assoc, Int32.add_assoc, Int32.add_comm (G x)]
theorem ts2 {σ : Sg} (h : W2 σ) {see : Nat → Nat} (hs : okS σ see) {t : Nat} (ht : thF σ see t = true) : (tsP σ (KF σ see) t).2.1 = smF σ see t 1 := by
  rw [ts_eq h hs ht, tq2]
  unfold smF sumF
  rw [sum_KF h.1 hs]
  · show _ = (KF σ see).foldl _ (if 1 = 1 then vl σ t else 0)
    rw [if_pos rfl]
    refine foldl_cg (fun x hx a => ?_)
    have hc := (KF_mem h.1 hs).mp hx
    have e : ofF σ see (unF σ see) (thF σ see) x t = (ctF σ see x && so σ x != 0 && tg σ x == t) := rfl
    rw [e, hc]
    by_cases q6 : so σ x = 1
    · by_cases qt : tg σ x = t <;> simp [q6, qt]
    · simp [q6]
  · intro x hc
    have e : ofF σ see (unF σ see) (thF σ see) x t = (ctF σ see x && so σ x != 0 && tg σ x == t) := rfl
    rw [e, hc]
    rfl
theorem ts3 {σ : Sg} (h : W2 σ) {see : Nat → Nat} (hs : okS σ see) {t : Nat} (ht : thF σ see t = true) : (tsP σ (KF σ see) t).2.2.1 = smF σ see t 2 := by
  rw [ts_eq h hs ht, tq3]
  unfold smF sumF
  rw [sum_KF h.1 hs]
  · show _ = (KF σ see).foldl _ (if 2 = 1 then vl σ t else 0)
    rw [if_neg (by decide)]
    refine foldl_cg (fun x hx a => ?_)
    have hc := (KF_mem h.1 hs).mp hx
    have e : ofF σ see (unF σ see) (thF σ see) x t = (ctF σ see x && so σ x != 0 && tg σ x == t) := rfl
    rw [e, hc]
    by_cases q6 : so σ x = 2
    · by_cases qt : tg σ x = t <;> simp [q6, qt]
    · simp [q6]
  · intro x hc
    have e : ofF σ see (unF σ see) (thF σ see) x t = (ctF σ see x && so σ x != 0 && tg σ x == t) := rfl
    rw [e, hc]
    rfl
/-- a thing's name as a number -/
def nmN (σ : Sg) (see : Nat → Nat) (t : Nat) : Nat := (nmF σ see t).toNatClampNeg
theorem foldl_inv {α β : Type} {f : β → α → β} (I : β → Prop) : ∀ {l : List α} {b : β}, I b → (∀ a, a ∈ l → ∀ b, I b → I (f b a)) → I (l.foldl f b)
  | [], _, h, _ => h
  | a :: l, b, h, hh => by
    rw [List.foldl_cons]
    exact foldl_inv I (hh a List.mem_cons_self b h) (fun c hc => hh c (List.mem_cons_of_mem _ hc))
theorem nm_rng {σ : Sg} (h : WF σ) {see : Nat → Nat} (hs : okS σ see) {t : Nat} (ht : thF σ see t = true) : nmF σ see t = nI (nmN σ see t) ∧ 1 ≤ nmN σ see t ∧ nmN σ see t < 1000 := by
  have tl := (inV_ln h hs (ct_t (th_ct.mp ht).1).1).1
  have t0 := (th_ct.mp ht).2
  have key : 1 ≤ (nmF σ see t).toInt ∧ (nmF σ see t).toInt ≤ 999 := by
    unfold nmF namF
    refine foldl_inv (fun a : Int32 => 1 ≤ a.toInt ∧ a.toInt ≤ 999) (h.p5 t tl t0).2.2.2 (fun x hx a ha => ?_)
    by_cases q : (ofF σ see (unF σ see) (thF σ see) x t && so σ x == 6) = true
    · rw [if_pos q]
      simp only [Bool.and_eq_true, beq_iff_eq] at q
      exact h.p9 x (List.mem_filter.mp hx).1 q.2
    · rw [if_neg q]
      exact ha
  obtain ⟨k, hk, e⟩ := rng_nI (n := 999) (by decide) ⟨by omega, key.2⟩
  have e2 : nmN σ see t = k := by
    unfold nmN
    rw [e]
    exact nI_clamp (by omega)
  rw [e2]
  refine ⟨e, ?_, by omega⟩
  have := key.1
  rw [e, nI_toInt (by omega)] at this
  omega
theorem nm_eq {σ : Sg} (h : WF σ) {see : Nat → Nat} (hs : okS σ see) {t s : Nat} (ht : thF σ see t = true) (hs' : thF σ see s = true) : nmN σ see t = nmN σ see s ↔ nmF σ see t = nmF σ see s := by
  constructor
  · intro e
    rw [(nm_rng h hs ht).1, (nm_rng h hs hs').1, e]
  · intro e
    unfold nmN
    rw [e]
