/-! pure: the deeds that are looked at are those that count for the model -/
theorem WF.p2 {σ : Sg} (h : WF σ) : ∀ x, x ∈ ln σ ↔ x < 160 ∧ x % 40 < mny σ (x / 40) := h.2.1
theorem WF.p3 {σ : Sg} (h : WF σ) : (ln σ).Pairwise (fun x y => ahd σ x y = true) := h.2.2.1
theorem WF.p4 {σ : Sg} (h : WF σ) : ∀ x, x ∈ ln σ → so σ x ≠ 0 → so σ x ≠ 7 → so σ (tg σ x) = 0 ∧ tg σ x ∈ ln σ ∧ knw σ x (tg σ x) = true := h.2.2.2.1
theorem WF.p5 {σ : Sg} (h : WF σ) : ∀ x, x ∈ ln σ → so σ x = 0 → tg σ x = x ∧ 0 ≤ (vl σ x).toInt ∧ (vl σ x).toInt ≤ 99 ∧ 1 ≤ (nu σ x).toInt ∧ (nu σ x).toInt ≤ 999 := h.2.2.2.2.1
theorem WF.p6 {σ : Sg} (h : WF σ) : ∀ x, x ∈ ln σ → so σ x = 7 → tg σ x < x % 40 := h.2.2.2.2.2.1
theorem WF.p7 {σ : Sg} (h : WF σ) : ∀ x, x ∈ ln σ → so σ x = 5 → vl σ x = -1 ∨ ∃ k, k < 160 ∧ vl σ x = nI k := h.2.2.2.2.2.2.1
theorem WF.p8 {σ : Sg} (h : WF σ) : ∀ x, x ∈ ln σ → so σ x = 2 → 1 ≤ (vl σ x).toInt ∧ (vl σ x).toInt ≤ 99 := h.2.2.2.2.2.2.2.1
theorem WF.p9 {σ : Sg} (h : WF σ) : ∀ x, x ∈ ln σ → so σ x = 6 → 1 ≤ (vl σ x).toInt ∧ (vl σ x).toInt ≤ 999 := h.2.2.2.2.2.2.2.2.1
theorem WF.p10 {σ : Sg} (h : WF σ) : ∀ x y, x ∈ ln σ → y ∈ ln σ → knw σ x y = true → sp σ y < sp σ x := h.2.2.2.2.2.2.2.2.2.1
theorem WF.p11 {σ : Sg} (h : WF σ) : ∀ x, x ∈ ln σ → kn σ x (x / 40) = x % 40 ∧ 1 ≤ sp σ x ∧ ∀ e, kn σ x e ≤ mny σ e := h.2.2.2.2.2.2.2.2.2.2.1
theorem WF.p12 {σ : Sg} (h : WF σ) : ∀ d f e, rk σ d f e ≤ mny σ e ∧ rk σ d f e ≤ rk σ f f e ∧ (nd σ ≤ d ∨ nd σ ≤ f ∨ nd σ ≤ e → rk σ d f e = 0) := h.2.2.2.2.2.2.2.2.2.2.2.1
theorem WF.p13 {σ : Sg} (h : WF σ) : (ln σ).length = mny σ 0 + mny σ 1 + mny σ 2 + mny σ 3 := h.2.2.2.2.2.2.2.2.2.2.2.2.1
theorem WF.p14 {σ : Sg} (h : WF σ) : ∀ x, x ∈ ln σ → sp σ x ≤ (ln σ).length := h.2.2.2.2.2.2.2.2.2.2.2.2.2.1
theorem WF.p15 {σ : Sg} (h : WF σ) : (vd σ = -1 ∧ vn σ = -1) ∨ ∃ d, d < nd σ ∧ vd σ = nI d ∧ (vn σ = -1 ∨ ∃ n, n < mny σ d ∧ vn σ = nI n) := h.2.2.2.2.2.2.2.2.2.2.2.2.2.2
/-- more that holds of the state, always -/
def W2 (σ : Sg) : Prop := WF σ ∧ (∀ x, x ∈ ln σ → so σ x = 5 → vl σ x ≠ nI (tg σ x)) ∧ (∀ x y, x ∈ ln σ → y ∈ ln σ → knw σ x y = true → ∀ e, kn σ y e ≤ kn σ x e) ∧ (∀ d y, y ∈ ln σ → y % 40 < rk σ d d (y / 40) → ∀ e, kn σ y e ≤ rk σ d d e) ∧ ∀ x, x ∈ ln σ → so σ x = 7 → bkF σ (x / 40) 0 (x % 40) = some (tg σ x)
def KF (σ : Sg) (see : Nat → Nat) : List Nat := (ln σ).filter (ctF σ see)
/-- a set of deeds that holds what each of them knows -/
def CL (σ : Sg) (see : Nat → Nat) : Prop := ∀ x, x ∈ ln σ → inV see x = true → ∀ e, kn σ x e ≤ see e
theorem ln_nodup {σ : Sg} (h : WF σ) : (ln σ).Nodup := List.Pairwise.imp (fun {a b} hab e => by subst e; rw [ahd_irr] at hab; cases hab) h.p3
theorem inV_ln {σ : Sg} (h : WF σ) {see : Nat → Nat} (hs : okS σ see) {x : Nat} (hx : inV see x = true) : x ∈ ln σ ∧ x < 160 := by
  have h1 : x % 40 < see (x / 40) := by simpa [inV] using hx
  have h2 := hs (x / 40)
  have h3 : x / 40 < 4 := by
    rcases Nat.lt_or_ge (x / 40) (nd σ) with q | q
    · have := h.1.1
      omega
    · have := (h.p12 (x / 40) (x / 40) (x / 40)).2.2 (Or.inl q)
      unfold mny at h2
      omega
  have h4 : x < 160 := by omega
  exact ⟨(h.p2 x).mpr ⟨h4, by omega⟩, h4⟩
theorem tg_in {σ : Sg} (h : WF σ) {see : Nat → Nat} (hc : CL σ see) {x : Nat} (hx : x ∈ ln σ) (hv : inV see x = true) (h7 : so σ x ≠ 7) : tg σ x ∈ ln σ ∧ inV see (tg σ x) = true ∧ so σ (tg σ x) = 0 := by
  by_cases h0 : so σ x = 0
  · rw [(h.p5 x hx h0).1]
    exact ⟨hx, hv, h0⟩
  · obtain ⟨q1, q2, q3⟩ := h.p4 x hx h0 h7
    refine ⟨q2, ?_, q1⟩
    have h1 : tg σ x % 40 < kn σ x (tg σ x / 40) := by simpa [knw] using q3
    have := hc x hx hv (tg σ x / 40)
    unfold inV
    exact decide_eq_true (by omega)
theorem pk_ct {σ : Sg} (h : WF σ) {see : Nat → Nat} (hc : CL σ see) {x : Nat} (hx : x ∈ ln σ) : pkF σ see (unF σ see) x = ctF σ see x := by
  unfold pkF ctF cntF
  cases hv : inV see x with
  | false => simp
  | true =>
    by_cases h7 : so σ x = 7
    · simp [h7]
    · obtain ⟨q1, q2, q3⟩ := tg_in h hc hx hv h7
      have e7 : (so σ x != 7) = true := by simpa using h7
      have et : thF σ see (tg σ x) = !unF σ see (tg σ x) := by
        unfold thF
        rw [q2, q3]
        simp
      rw [e7, et]
      by_cases h0 : so σ x = 0
      · rw [(h.p5 x hx h0).1]
        cases unF σ see x <;> simp [h0]
      · have e0 : (so σ x == 0) = false := by simpa using h0
        rw [e0]
        cases unF σ see x <;> cases unF σ see (tg σ x) <;> rfl
theorem KF_pk {σ : Sg} (h : WF σ) {see : Nat → Nat} (hc : CL σ see) : (ln σ).filter (pkF σ see (unF σ see)) = KF σ see := List.filter_congr (fun _ hx => pk_ct h hc hx)
theorem unP_eq {σ : Sg} (h : WF σ) {see : Nat → Nat} (hs : okS σ see) : unP σ see (ln σ) = unF σ see := by
  funext x
  unfold unP unF
  rw [Bool.eq_iff_iff, List.any_eq_true, List.any_eq_true]
  constructor
  · rintro ⟨y, hy, hz⟩
    exact ⟨y, List.mem_range.mpr ((h.p2 y).mp hy).1, hz⟩
  · rintro ⟨y, hy, hz⟩
    have hv : inV see y = true := by
      cases hq : inV see y with
      | true => rfl
      | false =>
        rw [hq] at hz
        simp at hz
    exact ⟨y, (inV_ln h hs hv).1, hz⟩
theorem ct_t {σ : Sg} {see : Nat → Nat} {x : Nat} (h : ctF σ see x = true) : inV see x = true ∧ unF σ see x = false ∧ so σ x ≠ 7 ∧ (so σ x ≠ 0 → thF σ see (tg σ x) = true) := by
  unfold ctF cntF at h
  simp only [Bool.and_eq_true, Bool.or_eq_true, Bool.not_eq_true', beq_iff_eq, bne_iff_ne, ne_eq] at h
  obtain ⟨⟨h1, h2⟩, h3⟩ := h
  refine ⟨h1, h2, ?_, ?_⟩
  · rcases h3 with h3 | h3
    · omega
    · exact h3.1
  · intro h0
    rcases h3 with h3 | h3
    · exact absurd h3 h0
    · exact h3.2
theorem th_ct {σ : Sg} {see : Nat → Nat} {t : Nat} : thF σ see t = true ↔ ctF σ see t = true ∧ so σ t = 0 := by
  unfold thF ctF cntF
  by_cases h0 : so σ t = 0
  · simp [h0]
  · simp [h0]
theorem KF_mem {σ : Sg} (h : WF σ) {see : Nat → Nat} (hs : okS σ see) {x : Nat} : x ∈ KF σ see ↔ ctF σ see x = true := by
  unfold KF
  rw [List.mem_filter]
  exact ⟨fun z => z.2, fun z => ⟨(inV_ln h hs (ct_t z).1).1, z⟩⟩
theorem thP_KF {σ : Sg} (h : WF σ) {see : Nat → Nat} (hs : okS σ see) : thP σ (KF σ see) = thF σ see := by
  funext t
  unfold thP
  rw [Bool.eq_iff_iff, List.any_eq_true, th_ct]
  constructor
  · rintro ⟨x, hx, hz⟩
    simp only [Bool.and_eq_true, beq_iff_eq] at hz
    obtain ⟨h1, h2⟩ := List.mem_filter.mp hx
    have := (h.p5 x h1 hz.1).1
    rw [this] at hz
    rw [← hz.2]
    exact ⟨h2, hz.1⟩
  · rintro ⟨h1, h2⟩
    have hl := (inV_ln h hs (ct_t h1).1).1
    refine ⟨t, List.mem_filter.mpr ⟨hl, h1⟩, ?_⟩
    simp [h2, (h.p5 t hl h2).1]
theorem KF_nodup {σ : Sg} (h : WF σ) (see : Nat → Nat) : (KF σ see).Nodup := List.Pairwise.filter _ (ln_nodup h)
theorem KF_pw {σ : Sg} (h : WF σ) (see : Nat → Nat) : (KF σ see).Pairwise (fun x y => ahd σ x y = true) := List.Pairwise.filter _ h.p3
theorem KL_KF {σ : Sg} (h : W2 σ) {see : Nat → Nat} (hs : okS σ see) : KL σ (KF σ see) := by
  have hw := h.1
  have hnd := KF_nodup hw see
  have hpw := KF_pw hw see
  refine ⟨Nat.le_trans (List.length_filter_le _ _) hw.len, fun P x S e => ?_⟩
  have hxK : x ∈ KF σ see := by
    rw [e]
    simp
  obtain ⟨hx, hct⟩ := List.mem_filter.mp hxK
  obtain ⟨c1, c2, c3, c4⟩ := ct_t hct
  have sub : ∀ y, y ∈ P → y ∈ KF σ see := fun y hy => by
    rw [e]
    simp [hy]
  rw [e] at hnd hpw
  refine ⟨c3, fun h0 => ?_, fun h0 => ?_, fun h5 => ?_⟩
  · have tx := (hw.p5 x hx h0).1
    refine ⟨tx, ?_⟩
    cases hq : thP σ P x with
    | false => rfl
    | true =>
      unfold thP at hq
      rw [List.any_eq_true] at hq
      obtain ⟨y, hy, hz⟩ := hq
      simp only [Bool.and_eq_true, beq_iff_eq] at hz
      have := (hw.p5 y (List.mem_filter.mp (sub y hy)).1 hz.1).1
      rw [hz.2] at this
      rw [List.nodup_append] at hnd
      exact absurd this.symm (hnd.2.2 y hy x (by simp))
  · have hth := c4 h0
    obtain ⟨q1, q2⟩ := th_ct.mp hth
    have tK : tg σ x ∈ KF σ see := (KF_mem hw hs).mpr q1
    obtain ⟨w1, w2, w3⟩ := hw.p4 x hx h0 c3
    have hsp := hw.p10 x _ hx w2 w3
    have hah : ahd σ (tg σ x) x = true := by simp [ahd, hsp]
    rw [e, List.mem_append, List.mem_cons] at tK
    unfold thP
    rw [List.any_eq_true]
    rcases tK with tK | tK | tK
    · exact ⟨tg σ x, tK, by simp [q2, (hw.p5 _ w2 q2).1]⟩
    · rw [tK, ahd_irr] at hah
      cases hah
    · rw [List.pairwise_append, List.pairwise_cons] at hpw
      have := hpw.2.1.1 _ tK
      rw [ahd_as hah] at this
      cases this
  · rcases hw.p7 x hx h5 with q | ⟨k, hk, q⟩
    · exact Or.inl q
    · exact Or.inr ⟨k, hk, q, fun z => h.2.1 x hx h5 (by rw [q, z])⟩
theorem foldl_cg {α β : Type} {f g : β → α → β} : ∀ {l : List α} {b : β}, (∀ a, a ∈ l → ∀ b, f b a = g b a) → l.foldl f b = l.foldl g b
  | [], _, _ => rfl
  | a :: l, b, h => by
    rw [List.foldl_cons, List.foldl_cons, h a List.mem_cons_self b]
    exact foldl_cg (fun c hc => h c (List.mem_cons_of_mem _ hc))
theorem foldl_id {α β : Type} {f : β → α → β} : ∀ {l : List α} {b : β}, (∀ a, a ∈ l → ∀ b, f b a = b) → l.foldl f b = b
  | [], _, _ => rfl
  | a :: l, b, h => by
    rw [List.foldl_cons, h a List.mem_cons_self b]
    exact foldl_id (fun c hc => h c (List.mem_cons_of_mem _ hc))
theorem foldl_flt {α β : Type} {f : β → α → β} {p : α → Bool} : ∀ {l : List α} {b : β}, (l.filter p).foldl f b = l.foldl (fun b a => if p a then f b a else b) b
  | [], _ => rfl
  | a :: l, b => by
    rw [List.filter_cons, List.foldl_cons]
    cases hp : p a with
    | true => exact foldl_flt
    | false => exact foldl_flt
theorem odP_KF (σ : Sg) (see : Nat → Nat) : odP σ (KF σ see) = ODF σ see := by
  unfold odP ODF KF LLF
  rw [foldl_flt, foldl_flt]
  refine foldl_cg (fun x hx O => ?_)
  have e2 : cntF σ see (unF σ see) (thF σ see) x = ctF σ see x := rfl
  cases hv : inV see x with
  | false =>
    have : ctF σ see x = false := by
      unfold ctF cntF
      rw [hv]
      rfl
    rw [this]
    rfl
  | true =>
    unfold odN odS
    rw [e2]
    by_cases h0 : so σ x = 0
    · have : ctF σ see x = !unF σ see x := by
        unfold ctF cntF
        rw [hv, h0]
        simp
      rw [this]
      cases unF σ see x <;> simp [h0]
    · by_cases h5 : so σ x = 5
      · cases ctF σ see x <;> simp [h5]
      · cases ctF σ see x <;> simp [h5, h0]
def tsQ (σ : Sg) (t : Nat) (s : TS) (x : Nat) : TS := if so σ x = 0 then s else tsS σ t s x
theorem ts_split {σ : Sg} {K : List Nat} {t : Nat} (hK : KL σ K) (ht : thP σ K t = true) : tsP σ K t = K.foldl (tsQ σ t) (nu σ t, vl σ t, 0, (fun _ => 0), fun _ => 0) := by
  obtain ⟨tK, t0⟩ := hK.put ht
  obtain ⟨P, S, e⟩ := List.append_of_mem tK
  have tt := (hK.2 P t S e).2.1 t0
  have hP : ∀ x, x ∈ P → tg σ x ≠ t := fun x hx z => by
    obtain ⟨P1, P2, e1⟩ := List.append_of_mem hx
    have e2 : K = P1 ++ x :: (P2 ++ t :: S) := by
      rw [e, e1]
      simp
    have hh := tt.2
    have : thP σ P t = true := by
      by_cases q : so σ x = 0
      · unfold thP
        rw [List.any_eq_true]
        exact ⟨x, hx, by simp [q, z]⟩
      · have h3 := (hK.2 P1 x _ e2).2.2.1 q
        rw [z] at h3
        unfold thP at h3 ⊢
        rw [List.any_eq_true] at h3 ⊢
        obtain ⟨y, hy, hz⟩ := h3
        exact ⟨y, by rw [e1]; simp [hy], hz⟩
    rw [hh] at this
    cases this
  have hS : ∀ x, x ∈ S → tg σ x = t → so σ x ≠ 0 := fun x hx z q => by
    obtain ⟨S1, S2, e1⟩ := List.append_of_mem hx
    have e2 : K = (P ++ t :: S1) ++ x :: S2 := by
      rw [e, e1]
      simp
    have h2 := (hK.2 _ x _ e2).2.1 q
    have h3 := h2.1
    rw [z] at h3
    have : thP σ (P ++ t :: S1) x = true := by
      unfold thP
      rw [List.any_eq_true]
      exact ⟨t, by simp, by rw [t0, tt.1, h3]; simp⟩
    rw [h2.2] at this
    cases this
  unfold tsP
  rw [e, List.foldl_append, List.foldl_append, List.foldl_cons, List.foldl_cons]
  have e1 : ∀ s, tsS σ t s t = (nu σ t, vl σ t, 0, (fun _ => 0), fun _ => 0) := fun s => by
    unfold tsS
    rw [if_pos tt.1, if_pos t0]
  have e2 : P.foldl (tsQ σ t) (nu σ t, vl σ t, 0, (fun _ => 0), fun _ => 0) = (nu σ t, vl σ t, 0, (fun _ => 0), fun _ => 0) := foldl_id (fun x hx s => by
    unfold tsQ tsS
    rw [if_neg (hP x hx)]
    split <;> rfl)
  have e3 : ∀ s, tsQ σ t s t = s := fun s => if_pos t0
  rw [e1, e2, e3]
  refine foldl_cg (fun x hx s => ?_)
  unfold tsQ
  by_cases q : so σ x = 0
  · rw [if_pos q]
    unfold tsS
    rw [if_neg (fun z => hS x hx z q)]
  · rw [if_neg q]
theorem so_cs (σ : Sg) (x : Nat) : so σ x = 0 ∨ so σ x = 1 ∨ so σ x = 2 ∨ so σ x = 4 ∨ so σ x = 5 ∨ so σ x = 6 ∨ (so σ x ≠ 0 ∧ so σ x ≠ 1 ∧ so σ x ≠ 2 ∧ so σ x ≠ 4 ∧ so σ x ≠ 5 ∧ so σ x ≠ 6) := by omega
theorem tq1 (σ : Sg) (t : Nat) : ∀ (l : List Nat) (s : TS), (l.foldl (tsQ σ t) s).1 = l.foldl (fun a x => if tg σ x = t ∧ so σ x = 6 then vl σ x else a) s.1
  | [], _ => rfl
  | x :: l, s => by
    rw [List.foldl_cons, List.foldl_cons, tq1 σ t l]
    congr 1
    unfold tsQ tsS
    rcases so_cs σ x with q | q | q | q | q | q | q <;> by_cases qt : tg σ x = t <;> simp [q, qt]
theorem tq2 (σ : Sg) (t : Nat) : ∀ (l : List Nat) (s : TS), (l.foldl (tsQ σ t) s).2.1 = l.foldl (fun a x => a + if tg σ x = t ∧ so σ x = 1 then vl σ x else 0) s.2.1
  | [], _ => rfl
  | x :: l, s => by
    rw [List.foldl_cons, List.foldl_cons, tq2 σ t l]
    congr 1
    unfold tsQ tsS
    rcases so_cs σ x with q | q | q | q | q | q | q <;> by_cases qt : tg σ x = t <;> simp [q, qt]
theorem tq3 (σ : Sg) (t : Nat) : ∀ (l : List Nat) (s : TS), (l.foldl (tsQ σ t) s).2.2.1 = l.foldl (fun a x => a + if tg σ x = t ∧ so σ x = 2 then vl σ x else 0) s.2.2.1
  | [], _ => rfl
  | x :: l, s => by
    rw [List.foldl_cons, List.foldl_cons, tq3 σ t l]
    congr 1
    unfold tsQ tsS
    rcases so_cs σ x with q | q | q | q | q | q | q <;> by_cases qt : tg σ x = t <;> simp [q, qt]
theorem tuS_le (x : Nat) (m : Nat → Nat) (e k : Nat) : tuS x m e ≤ k ↔ m e ≤ k ∧ (x / 40 = e → x % 40 + 1 ≤ k) := by
  unfold tuS
  by_cases q : e = x / 40
  · rw [if_pos q]
    omega
  · rw [if_neg q]
    omega
theorem tq4 (σ : Sg) (t e k : Nat) : ∀ (l : List Nat) (s : TS), (l.foldl (tsQ σ t) s).2.2.2.1 e ≤ k ↔ s.2.2.2.1 e ≤ k ∧ ∀ z, z ∈ l → tg σ z = t → chg σ z = true → z / 40 = e → z % 40 + 1 ≤ k
  | [], s => by simp
  | x :: l, s => by
    rw [List.foldl_cons, tq4 σ t e k l]
    have key : (tsQ σ t s x).2.2.2.1 e ≤ k ↔ s.2.2.2.1 e ≤ k ∧ (tg σ x = t → chg σ x = true → x / 40 = e → x % 40 + 1 ≤ k) := by
      unfold tsQ tsS chg
      rcases so_cs σ x with q | q | q | q | q | q | q <;> by_cases qt : tg σ x = t <;> simp [q, qt, tuS_le]
    rw [key]
    constructor
    · rintro ⟨⟨h1, h2⟩, h3⟩
      refine ⟨h1, fun z hz => ?_⟩
      rcases List.mem_cons.mp hz with rfl | hz
      · exact h2
      · exact h3 z hz
    · rintro ⟨h1, h2⟩
      exact ⟨⟨h1, h2 x List.mem_cons_self⟩, fun z hz => h2 z (List.mem_cons_of_mem _ hz)⟩
theorem lt_mx (k a b : Nat) : k < max a b ↔ k < a ∨ k < b := by omega
theorem tq5 (σ : Sg) (t e k : Nat) : ∀ (l : List Nat) (s : TS), k < (l.foldl (tsQ σ t) s).2.2.2.2 e ↔ k < s.2.2.2.2 e ∨ ∃ z, z ∈ l ∧ tg σ z = t ∧ so σ z = 4 ∧ k < kw σ z e
  | [], s => by simp
  | x :: l, s => by
    rw [List.foldl_cons, tq5 σ t e k l]
    have key : k < (tsQ σ t s x).2.2.2.2 e ↔ k < s.2.2.2.2 e ∨ (tg σ x = t ∧ so σ x = 4 ∧ k < kw σ x e) := by
      unfold tsQ tsS
      rcases so_cs σ x with q | q | q | q | q | q | q <;> by_cases qt : tg σ x = t <;> simp [q, qt, lt_mx]
    rw [key]
    constructor
    · rintro ((h | h) | ⟨z, hz, h⟩)
      · exact Or.inl h
      · exact Or.inr ⟨x, List.mem_cons_self, h⟩
      · exact Or.inr ⟨z, List.mem_cons_of_mem _ hz, h⟩
    · rintro (h | ⟨z, hz, h⟩)
      · exact Or.inl (Or.inl h)
      · rcases List.mem_cons.mp hz with rfl | hz
        · exact Or.inl (Or.inr h)
        · exact Or.inr ⟨z, hz, h⟩
