/-! pure: rows -/
theorem OD_th {σ : Sg} (h : WF σ) {see : Nat → Nat} (hs : okS σ see) {t : Nat} (ht : t ∈ ODF σ see) : thF σ see t = true ∧ t < 160 := by
  have hB : ∀ x, tg σ x < 160 := fun x => (h.1.2.2 x).2.2.1
  have h1 := ((ODF_inv (h.sLn hs) hB (LLF σ see).length (Nat.le_refl _) (ODF σ see) (by rw [List.take_length]; rfl)).2 t).mp ht
  rw [List.take_length] at h1
  obtain ⟨a, b, c⟩ := h1
  obtain ⟨a1, a2⟩ := List.mem_filter.mp a
  have : t < 160 := ((h.p2 t).mp a1).1
  refine ⟨?_, this⟩
  unfold thF
  rw [a2, b, c]
  rfl
theorem OD_nodup {σ : Sg} (h : WF σ) {see : Nat → Nat} (hs : okS σ see) : (ODF σ see).Nodup :=
  (ODF_inv (h.sLn hs) (fun x => (h.1.2.2 x).2.2.1) (LLF σ see).length (Nat.le_refl _) (ODF σ see) (by rw [List.take_length]; rfl)).1
theorem kpQ_kpF {σ : Sg} (h : W2 σ) {see : Nat → Nat} (hs : okS σ see) {t : Nat} (ht : thF σ see t = true) : kpQ σ (KF σ see) (skP σ (KF σ see) (KF σ see)) (nmN σ see) t = kpF σ see t := by
  have hw := h.1
  have hpw := KF_pw hw see
  unfold kpQ kpF
  rw [sk_stk h hs ht]
  cases hst : stkF σ see t with
  | true => rfl
  | false =>
    rw [Bool.eq_iff_iff]
    simp only [Bool.not_false, Bool.true_and, beq_iff_eq, List.all_eq_true]
    have kqs : ∀ x, x ∈ KF σ see → (kq σ (skP σ (KF σ see) (KF σ see)) (nmN σ see) (nmN σ see t) x = true ↔ thF σ see x = true ∧ stkF σ see x = false ∧ nmN σ see x = nmN σ see t) := fun x hx => by
      have hc := (KF_mem hw hs).mp hx
      unfold kq
      simp only [Bool.and_eq_true, beq_iff_eq, Bool.not_eq_true']
      constructor
      · rintro ⟨⟨q1, q2⟩, q3⟩
        have hth := th_ct.mpr ⟨hc, q1⟩
        rw [sk_stk h hs hth] at q2
        exact ⟨hth, q2, q3⟩
      · rintro ⟨q1, q2, q3⟩
        rw [sk_stk h hs q1]
        exact ⟨⟨(th_ct.mp q1).2, q2⟩, q3⟩
    have tK : t ∈ KF σ see := (KF_mem hw hs).mpr (th_ct.mp ht).1
    constructor
    · intro hf j hj
      obtain ⟨jth, j160⟩ := OD_th hw hs hj
      have jK : j ∈ KF σ see := (KF_mem hw hs).mpr (th_ct.mp jth).1
      unfold kzF
      cases ha : ahd σ j t with
      | false => rfl
      | true =>
        cases hb : stkF σ see j with
        | true => rfl
        | false =>
          simp only [Bool.not_true, Bool.false_or, decide_eq_true_eq, ne_eq]
          intro hn
          have hjq := (kqs j jK).mpr ⟨jth, hb, (nm_eq hw hs jth ht).mpr hn⟩
          obtain ⟨-, as, bs, e, hno⟩ := List.find?_eq_some_iff_append.mp hf
          rw [e] at jK hpw
          rw [List.mem_append, List.mem_cons] at jK
          rcases jK with jK | jK | jK
          · have := hno j jK
            rw [hjq] at this
            cases this
          · rw [jK, ahd_irr] at ha
            cases ha
          · rw [List.pairwise_append, List.pairwise_cons] at hpw
            have := hpw.2.1.1 _ jK
            rw [ahd_as ha] at this
            cases this
    · intro hall
      have htq := (kqs t tK).mpr ⟨ht, hst, rfl⟩
      cases hf : (KF σ see).find? (kq σ (skP σ (KF σ see) (KF σ see)) (nmN σ see) (nmN σ see t)) with
      | none => exact absurd htq (List.find?_eq_none.mp hf t tK)
      | some x =>
        obtain ⟨hxq, as, bs, e, hno⟩ := List.find?_eq_some_iff_append.mp hf
        have xK : x ∈ KF σ see := by
          rw [e]
          simp
        obtain ⟨x1, x2, x3⟩ := (kqs x xK).mp hxq
        rw [e] at tK hpw
        rw [List.mem_append, List.mem_cons] at tK
        rcases tK with tK | tK | tK
        · have := hno t tK
          rw [htq] at this
          cases this
        · rw [tK]
        · exfalso
          rw [List.pairwise_append, List.pairwise_cons] at hpw
          have ha := hpw.2.1.1 _ tK
          have x160 := (inV_ln hw hs (ct_t (th_ct.mp x1).1).1).2
          have := hall x ((ODF_mem hw hs x x160).mpr x1)
          unfold kzF at this
          rw [ha, x2] at this
          simp only [Bool.not_true, Bool.false_or, decide_eq_true_eq, ne_eq] at this
          exact this ((nm_eq hw hs x1 ht).mp x3)
theorem R_KPF {σ : Sg} (h : W2 σ) {see : Nat → Nat} (hs : okS σ see) : (odP σ (KF σ see)).filter (kpQ σ (KF σ see) (skP σ (KF σ see) (KF σ see)) (nmN σ see)) = KPF σ see := by
  rw [odP_KF]
  exact List.filter_congr (fun t ht => kpQ_kpF h hs (OD_th h.1 hs ht).1)
theorem KPF_th {σ : Sg} (h : WF σ) {see : Nat → Nat} (hs : okS σ see) {t : Nat} (ht : t ∈ KPF σ see) : thF σ see t = true ∧ t < 160 := OD_th h hs (List.mem_filter.mp ht).1
theorem ir_eq {σ : Sg} (h : W2 σ) {see : Nat → Nat} (hs : okS σ see) {t kp : Nat} (ht : thF σ see t = true) (hk : thF σ see kp = true) : (!skP σ (KF σ see) (KF σ see) t && nmN σ see t == nmN σ see kp) = irF σ see t kp := by
  unfold irF
  rw [sk_stk h hs ht, ht, Bool.true_and]
  congr 1
  rw [Bool.eq_iff_iff, beq_iff_eq, decide_eq_true_iff]
  exact nm_eq h.1 hs ht hk
theorem rc_rs1 {σ : Sg} (h : W2 σ) {see : Nat → Nat} (hs : okS σ see) {kp : Nat} (hk : thF σ see kp = true) : rcP (skP σ (KF σ see) (KF σ see)) (nmN σ see) (fun t => (tsP σ (KF σ see) t).2.1) (nmN σ see kp) (odP σ (KF σ see)) = rsF σ see kp 1 (ODF σ see) := by
  rw [odP_KF]
  unfold rcP rsF
  refine foldl_cg (fun t ht a => ?_)
  have hth := (OD_th h.1 hs ht).1
  rw [ir_eq h hs hth hk, ← ts2 h hs hth]
theorem rc_rs2 {σ : Sg} (h : W2 σ) {see : Nat → Nat} (hs : okS σ see) {kp : Nat} (hk : thF σ see kp = true) : rcP (skP σ (KF σ see) (KF σ see)) (nmN σ see) (fun t => (tsP σ (KF σ see) t).2.2.1) (nmN σ see kp) (odP σ (KF σ see)) = rsF σ see kp 2 (ODF σ see) := by
  rw [odP_KF]
  unfold rcP rsF
  refine foldl_cg (fun t ht a => ?_)
  have hth := (OD_th h.1 hs ht).1
  rw [ir_eq h hs hth hk, ← ts3 h hs hth]
theorem rc_rn {σ : Sg} (h : W2 σ) {see : Nat → Nat} (hs : okS σ see) {kp : Nat} (hk : thF σ see kp = true) : rcP (skP σ (KF σ see) (KF σ see)) (nmN σ see) (fun _ => 1) (nmN σ see kp) (odP σ (KF σ see)) = rnF σ see kp (ODF σ see) := by
  rw [odP_KF]
  unfold rcP rnF
  refine foldl_cg (fun t ht a => ?_)
  have hth := (OD_th h.1 hs ht).1
  rw [ir_eq h hs hth hk]
theorem lt_tuS (x : Nat) (m : Nat → Nat) (e k : Nat) : k < tuS x m e ↔ k < m e ∨ (x / 40 = e ∧ k ≤ x % 40) := by
  have := tuS_le x m e k
  omega
/-- two buys of a row of which neither knows the other -/
theorem rb_iff (σ : Sg) (sk : Nat → Bool) (nm : Nat → Nat) (v : Nat) : ∀ (l : List Nat) (s : Bool × (Nat → Nat)), l.Pairwise (fun x y => ahd σ x y = true) → (∀ x, x ∈ l → x < 160) → ((l.foldl (rbS σ sk nm v) s).1 = true ↔ s.1 = true ∨ (∃ x, x ∈ l ∧ bq σ sk nm v x = true ∧ ∃ e, e < 4 ∧ kw σ x e < s.2 e) ∨ ∃ y x, y ∈ l ∧ x ∈ l ∧ ahd σ y x = true ∧ bq σ sk nm v y = true ∧ bq σ sk nm v x = true ∧ kw σ x (y / 40) ≤ y % 40)
  | [], s, _, _ => by simp
  | a :: l, s, hp, hb => by
    obtain ⟨p1, p2⟩ := List.pairwise_cons.mp hp
    have a160 := hb a List.mem_cons_self
    rw [List.foldl_cons, rb_iff σ sk nm v l _ p2 (fun x hx => hb x (List.mem_cons_of_mem _ hx))]
    unfold rbS
    by_cases q : bq σ sk nm v a = true
    · rw [if_pos q]
      simp only [Bool.or_eq_true, Bool.not_eq_true', lt_tuS]
      have eAll : (List.range 4).all (fun e => decide (s.2 e ≤ kw σ a e)) = false ↔ ∃ e, e < 4 ∧ kw σ a e < s.2 e := by
        rw [List.all_eq_false]
        constructor
        · rintro ⟨e, he, hh⟩
          exact ⟨e, List.mem_range.mp he, by simpa using hh⟩
        · rintro ⟨e, he, hh⟩
          exact ⟨e, List.mem_range.mpr he, by simpa using hh⟩
      rw [eAll]
      constructor
      · rintro ((h | h) | ⟨x, hx, hq, e, he, h | h⟩ | ⟨y, x, hy, hx, h⟩)
        · exact Or.inl h
        · exact Or.inr (Or.inl ⟨a, List.mem_cons_self, q, h⟩)
        · exact Or.inr (Or.inl ⟨x, List.mem_cons_of_mem _ hx, hq, e, he, h⟩)
        · exact Or.inr (Or.inr ⟨a, x, List.mem_cons_self, List.mem_cons_of_mem _ hx, p1 x hx, q, hq, by rw [h.1]; exact h.2⟩)
        · exact Or.inr (Or.inr ⟨y, x, List.mem_cons_of_mem _ hy, List.mem_cons_of_mem _ hx, h⟩)
      · rintro (h | ⟨x, hx, hq, e, he, h⟩ | ⟨y, x, hy, hx, ha, hqy, hqx, h⟩)
        · exact Or.inl (Or.inl h)
        · rcases List.mem_cons.mp hx with rfl | hx
          · exact Or.inl (Or.inr ⟨e, he, h⟩)
          · exact Or.inr (Or.inl ⟨x, hx, hq, e, he, Or.inl h⟩)
        · rcases List.mem_cons.mp hx with rfl | hx'
          · rcases List.mem_cons.mp hy with rfl | hy'
            · rw [ahd_irr] at ha
              cases ha
            · rw [ahd_as (p1 y hy')] at ha
              cases ha
          · rcases List.mem_cons.mp hy with rfl | hy'
            · exact Or.inr (Or.inl ⟨x, hx', hqx, y / 40, by omega, Or.inr ⟨rfl, h⟩⟩)
            · exact Or.inr (Or.inr ⟨y, x, hy', hx', ha, hqy, hqx, h⟩)
    · rw [if_neg q]
      constructor
      · rintro (h | ⟨x, hx, h⟩ | ⟨y, x, hy, hx, h⟩)
        · exact Or.inl h
        · exact Or.inr (Or.inl ⟨x, List.mem_cons_of_mem _ hx, h⟩)
        · exact Or.inr (Or.inr ⟨y, x, List.mem_cons_of_mem _ hy, List.mem_cons_of_mem _ hx, h⟩)
      · rintro (h | ⟨x, hx, hq, h⟩ | ⟨y, x, hy, hx, ha, hqy, hqx, h⟩)
        · exact Or.inl h
        · rcases List.mem_cons.mp hx with rfl | hx
          · exact absurd hq q
          · exact Or.inr (Or.inl ⟨x, hx, hq, h⟩)
        · rcases List.mem_cons.mp hx with rfl | hx
          · exact absurd hqx q
          · rcases List.mem_cons.mp hy with rfl | hy
            · exact absurd hqy q
            · exact Or.inr (Or.inr ⟨y, x, hy, hx, ha, hqy, hqx, h⟩)
theorem rb_db {σ : Sg} (h : W2 σ) {see : Nat → Nat} (hs : okS σ see) {kp : Nat} (hk : thF σ see kp = true) : (rbP σ (skP σ (KF σ see) (KF σ see)) (nmN σ see) (nmN σ see kp) (KF σ see)).1 = dbF σ see kp := by
  have hw := h.1
  have kl := KL_KF h hs
  have dz : ∀ x, dzF σ see kp x = true ↔ x ∈ KF σ see ∧ bq σ (skP σ (KF σ see) (KF σ see)) (nmN σ see) (nmN σ see kp) x = true := fun x => by
    unfold dzF bq
    rw [KF_mem hw hs]
    constructor
    · intro hh
      simp only [Bool.and_eq_true, beq_iff_eq] at hh
      obtain ⟨⟨q1, q2⟩, q3⟩ := hh
      have hth := (ct_t q1).2.2.2 (by omega)
      rw [← ir_eq h hs hth hk] at q3
      refine ⟨q1, ?_⟩
      rw [Bool.and_assoc, q3, q2]
      rfl
    · rintro ⟨q1, hh⟩
      rw [Bool.and_assoc, Bool.and_eq_true, beq_iff_eq] at hh
      have hth := (ct_t q1).2.2.2 (by omega)
      rw [ir_eq h hs hth hk] at hh
      rw [q1, hh.1, hh.2]
      rfl
  have pair : ∀ y x, y ∈ KF σ see → x ∈ KF σ see → ahd σ y x = true → (kw σ x (y / 40) ≤ y % 40 ↔ knw σ x y = false ∧ knw σ y x = false) := fun y x hy hx ha => by
    have hyl := (List.mem_filter.mp hy).1
    have hxl := (List.mem_filter.mp hx).1
    have hne : y ≠ x := fun z => by
      rw [z, ahd_irr] at ha
      cases ha
    have h1 := kw_knw hw hxl hne
    have h2 : knw σ y x = false := by
      cases hq : knw σ y x with
      | false => rfl
      | true =>
        have := hw.p10 y x hyl hxl hq
        simp [ahd] at ha
        omega
    rw [h2]
    constructor
    · intro z
      refine ⟨?_, rfl⟩
      cases hq : knw σ x y with
      | false => rfl
      | true =>
        have := h1.mpr hq
        omega
    · rintro ⟨z, -⟩
      rcases Nat.lt_or_ge (y % 40) (kw σ x (y / 40)) with q | q
      · rw [h1.mp q] at z
        cases z
      · exact q
  have tot : ∀ y x, y ∈ KF σ see → x ∈ KF σ see → y ≠ x → ahd σ y x = true ∨ ahd σ x y = true := fun y x hy hx hne => by
    cases h1 : ahd σ y x with
    | true => exact Or.inl rfl
    | false =>
      cases h2 : ahd σ x y with
      | true => exact Or.inr rfl
      | false =>
        exfalso
        obtain ⟨i, hi⟩ := mem_idx hy
        obtain ⟨j, hj⟩ := mem_idx hx
        have hpw := List.pairwise_iff_getElem.mp (KF_pw hw see)
        obtain ⟨i1, i2⟩ := List.getElem?_eq_some_iff.mp hi
        obtain ⟨j1, j2⟩ := List.getElem?_eq_some_iff.mp hj
        rcases Nat.lt_trichotomy i j with q | q | q
        · have := hpw i j i1 j1 q
          rw [i2, j2, h1] at this
          cases this
        · apply hne
          rw [← i2, ← j2]
          simp [q]
        · have := hpw j i j1 i1 q
          rw [i2, j2, h2] at this
          cases this
  unfold rbP dbF
  rw [Bool.eq_iff_iff, rb_iff σ _ _ _ _ _ (KF_pw hw see) (fun x hx => ((hw.p2 x).mp (List.mem_filter.mp hx).1).1), List.any_eq_true]
  constructor
  · rintro (hh | ⟨x, hx, hq, e, he, hh⟩ | ⟨y, x, hy, hx, ha, hqy, hqx, hh⟩)
    · cases hh
    · exact absurd hh (Nat.not_lt_zero _)
    · obtain ⟨n1, n2⟩ := (pair y x hy hx ha).mp hh
      have y160 := ((hw.p2 y).mp (List.mem_filter.mp hy).1).1
      have x160 := ((hw.p2 x).mp (List.mem_filter.mp hx).1).1
      have dy := (dz y).mpr ⟨hy, hqy⟩
      have dx := (dz x).mpr ⟨hx, hqx⟩
      rcases Nat.lt_trichotomy y x with q | q | q
      · refine ⟨x, List.mem_range.mpr x160, ?_⟩
        rw [dx, Bool.true_and, List.any_eq_true]
        exact ⟨y, List.mem_range.mpr q, by rw [dy, n1, n2]; rfl⟩
      · rw [q, ahd_irr] at ha
        cases ha
      · refine ⟨y, List.mem_range.mpr y160, ?_⟩
        rw [dy, Bool.true_and, List.any_eq_true]
        exact ⟨x, List.mem_range.mpr q, by rw [dx, n1, n2]; rfl⟩
  · rintro ⟨x, hx, hh⟩
    rw [Bool.and_eq_true, List.any_eq_true] at hh
    obtain ⟨dx, y, hy, hh⟩ := hh
    simp only [Bool.and_eq_true, Bool.not_eq_true'] at hh
    obtain ⟨⟨dy, n1⟩, n2⟩ := hh
    obtain ⟨xK, bx⟩ := (dz x).mp dx
    obtain ⟨yK, bY⟩ := (dz y).mp dy
    have hlt := List.mem_range.mp hy
    rcases tot y x yK xK (by omega) with ha | ha
    · exact Or.inr (Or.inr ⟨y, x, yK, xK, ha, bY, bx, (pair y x yK xK ha).mpr ⟨n1, n2⟩⟩)
    · exact Or.inr (Or.inr ⟨x, y, xK, yK, ha, bx, bY, (pair x y xK yK ha).mpr ⟨n2, n1⟩⟩)
