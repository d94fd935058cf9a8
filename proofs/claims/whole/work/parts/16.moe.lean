/-! the model lays a view: line, undone, there, order -/
def unF (σ : Sg) (see : Nat → Nat) (x : Nat) : Bool := (List.range 160).any (fun y => inV see y && so σ y == 7 && 40 * (y / 40) + tg σ y == x)
def thF (σ : Sg) (see : Nat → Nat) (x : Nat) : Bool := inV see x && so σ x == 0 && !unF σ see x
def LLF (σ : Sg) (see : Nat → Nat) : List Nat := (ln σ).filter (inV see)
def odS (σ : Sg) (see : Nat → Nat) (O : List Nat) (x : Nat) : List Nat := if so σ x == 0 && !unF σ see x then O ++ [x] else if so σ x == 5 && cntF σ see (unF σ see) (thF σ see) x then mvL O (tg σ x) (vl σ x) else O
def ODF (σ : Sg) (see : Nat → Nat) : List Nat := (LLF σ see).foldl (odS σ see) []
def uP (σ : Sg) (see : Nat → Nat) (i x : Nat) : Bool := (List.range i).any (fun y => inV see y && so σ y == 7 && 40 * (y / 40) + tg σ y == x)
/-- what the line must be for a view to be laid -/
def sLn (σ : Sg) (see : Nat → Nat) : Prop := (∀ x, x ∈ ln σ → x < 160) ∧ (∀ x, x < 160 → inV see x = true → x ∈ ln σ) ∧ (ln σ).Pairwise (fun x y => ahd σ x y = true) ∧
  (∀ x, x ∈ ln σ → so σ x ≠ 0 → so σ x ≠ 7 → so σ (tg σ x) = 0 ∧ ahd σ (tg σ x) x = true) ∧ (∀ x, x ∈ ln σ → so σ x = 7 → tg σ x < 40) ∧ (∀ x, x ∈ ln σ → so σ x = 5 → vl σ x = -1 ∨ ∃ k, k < 160 ∧ vl σ x = nI k)
/-- a list in an array of the model -/
def LN (l : List Nat) (k0 : Nat) (A : Nat → Nat → Int32) : Prop := ∀ (k x : Nat), l[k]? = some x → A k0 k = nI x ∧ x < 160
def MV (σ : Sg) (see : Nat → Nat) (I : Nat → Int32) (A : Nat → Nat → Int32) : Prop := MS see A ∧ MU (unF σ see) A ∧ MT (thF σ see) A ∧ I 13 = nI (LLF σ see).length ∧ (LLF σ see).length ≤ 160 ∧ LN (LLF σ see) 14 A ∧ OR (ODF σ see) I A
theorem ahd_irr (σ : Sg) (x : Nat) : ahd σ x x = false := by simp [ahd]
theorem ahd_tr {σ : Sg} {x y z : Nat} (h1 : ahd σ x y = true) (h2 : ahd σ y z = true) : ahd σ x z = true := by
  simp [ahd] at h1 h2 ⊢
  omega
theorem ahd_as {σ : Sg} {x y : Nat} (h1 : ahd σ x y = true) : ahd σ y x = false := by
  simp [ahd] at h1 ⊢
  omega
theorem srt_uniq {σ : Sg} : ∀ (l m : List Nat), l.Pairwise (fun x y => ahd σ x y = true) → m.Pairwise (fun x y => ahd σ x y = true) → (∀ x, x ∈ l ↔ x ∈ m) → l = m
  | [], m, _, _, h => by
    cases m with
    | nil => rfl
    | cons a r => exact absurd ((h a).mpr List.mem_cons_self) List.not_mem_nil
  | a :: l, m, hl, hm, h => by
    cases m with
    | nil => exact absurd ((h a).mp List.mem_cons_self) List.not_mem_nil
    | cons b r =>
      rw [List.pairwise_cons] at hl hm
      have e : a = b := by
        rcases List.mem_cons.mp ((h a).mp List.mem_cons_self) with q | q
        · exact q
        · rcases List.mem_cons.mp ((h b).mpr List.mem_cons_self) with q2 | q2
          · exact q2.symm
          · have h1 := hm.1 a q
            have h2 := hl.1 b q2
            rw [ahd_as h1] at h2
            cases h2
      subst e
      congr 1
      refine srt_uniq l r hl.2 hm.2 (fun x => ⟨fun hx => ?_, fun hx => ?_⟩)
      · rcases List.mem_cons.mp ((h x).mp (List.mem_cons_of_mem _ hx)) with q | q
        · have := hl.1 x hx
          rw [q, ahd_irr] at this
          cases this
        · exact q
      · rcases List.mem_cons.mp ((h x).mpr (List.mem_cons_of_mem _ hx)) with q | q
        · have := hm.1 x hx
          rw [q, ahd_irr] at this
          cases this
        · exact q
theorem srt_ins {σ : Sg} {x : Nat} : ∀ (l : List Nat) (k : Nat), l.Pairwise (fun x y => ahd σ x y = true) → k ≤ l.length → (∀ (j y : Nat), j < k → l[j]? = some y → ahd σ y x = true) → (∀ (j y : Nat), k ≤ j → l[j]? = some y → ahd σ x y = true) → (l.insertIdx k x).Pairwise (fun x y => ahd σ x y = true)
  | [], k, _, hk, _, _ => by
    simp at hk
    subst hk
    simp
  | a :: l, 0, hl, _, _, h2 => by
    rw [List.insertIdx_zero, List.pairwise_cons]
    refine ⟨fun y hy => ?_, hl⟩
    obtain ⟨j, hj⟩ := mem_idx hy
    exact h2 j y (by omega) hj
  | a :: l, k + 1, hl, hk, h1, h2 => by
    rw [List.pairwise_cons] at hl
    have hk2 : k ≤ l.length := by simpa using hk
    rw [List.insertIdx_succ_cons, List.pairwise_cons]
    refine ⟨fun y hy => ?_, srt_ins l k hl.2 hk2 (fun j y hj hy => h1 (j + 1) y (by omega) (by simpa using hy)) (fun j y hj hy => h2 (j + 1) y (by omega) (by simpa using hy))⟩
    rcases (List.mem_insertIdx hk2).mp hy with q | q
    · rw [q]; exact h1 0 a (by omega) rfl
    · exact hl.1 y q
theorem srt_nodup {σ : Sg} {l : List Nat} (h : l.Pairwise (fun x y => ahd σ x y = true)) : l.Nodup := by
  refine List.Pairwise.imp ?_ h
  intro a b hab e
  rw [e, ahd_irr] at hab
  cases hab
/-- two of a sorted list: one is ahead -/
theorem srt_tot {σ : Sg} {l : List Nat} (h : l.Pairwise (fun x y => ahd σ x y = true)) {x y : Nat} (hx : x ∈ l) (hy : y ∈ l) (hne : x ≠ y) : ahd σ x y = true ∨ ahd σ y x = true := by
  induction l with
  | nil => cases hx
  | cons a l ih =>
    rw [List.pairwise_cons] at h
    rcases List.mem_cons.mp hx with q | q <;> rcases List.mem_cons.mp hy with q2 | q2
    · exact absurd (q.trans q2.symm) hne
    · rw [q]; exact Or.inl (h.1 y q2)
    · rw [q2]; exact Or.inr (h.1 x q)
    · exact ih h.2 q q2
/-- the place where x comes into a sorted list: behind place k all is behind it, the one ahead of k isn't -/
theorem srt_all {σ : Sg} {l : List Nat} (h : l.Pairwise (fun x y => ahd σ x y = true)) {x k z : Nat} (hk : l[k]? = some z) (hz : ahd σ z x = true) : ∀ (j y : Nat), j < k + 1 → l[j]? = some y → ahd σ y x = true := by
  intro j y hj hy
  by_cases e : j = k
  · rw [e, hk] at hy
    cases hy
    exact hz
  · refine ahd_tr ?_ hz
    obtain ⟨hkl, ek⟩ := List.getElem?_eq_some_iff.mp hk
    obtain ⟨hjl, ej⟩ := List.getElem?_eq_some_iff.mp hy
    have := List.pairwise_iff_getElem.mp h j k hjl hkl (by omega)
    rw [ej, ek] at this
    exact this
theorem insertIdx_get (l : List Nat) {k : Nat} (hk : k ≤ l.length) (x j : Nat) : (l.insertIdx k x)[j]? = if j < k then l[j]? else if j = k then some x else l[j - 1]? := by
  rw [List.getElem?_insertIdx]
  split
  · rfl
  · split
    · rw [if_pos (by omega)]
    · rfl
section
variable {g : AH} {I : Nat → Int32} {A : Nat → Nat → Int32} {Q : Option AV → AH → Prop} {σ : Sg} {see : Nat → Nat}
theorem c_Mo_lays (hD : MD σ A) (hS : MS see A) (hL : sLn σ see)
    (hq : ∀ (I' : Nat → Int32) (A' : Nat → Nat → Int32), (∀ k, k ≠ 13 → k ≠ 17 → I' k = I k) → (∀ k, k ≠ 14 → k ≠ 15 → k ≠ 16 → k ≠ 18 → A' k = A k) → MV σ see I' A' → Q none (mH g I' A')) : X M_Mo_lays (rmo M_Mo_lays 0 0) (Zm Q 0 0) 0 (ini M_Mo_lays [mo]) [] (mH g I A) 0 0 := by
  obtain ⟨L1, L2, L3, L4, L5, L6⟩ := hL
  -- PHASE 3: the order
  have phase3 : ∀ (I1 : Nat → Int32) (A1 : Nat → Nat → Int32) (l2 : Option AV), (∀ k, k ≠ 13 → k ≠ 17 → I1 k = I k) → I1 17 = 0 → (∀ k, k ≠ 14 → k ≠ 15 → k ≠ 16 → k ≠ 18 → A1 k = A k) → MU (unF σ see) A1 → (∀ x, x < 160 → A1 16 x = 0) → I1 13 = nI (LLF σ see).length → (LLF σ see).length ≤ 160 → LN (LLF σ see) 14 A1 →
      X M_Mo_lays (rmo M_Mo_lays 0 0) (Zm Q 0 0) 160 [some (.inr (some (10, 0))), some (.inl (nI 0)), l2] [] (mH g I1 A1) 0 0 := by
    intro I1 A1 l2 hI1 hI17 hA1 hU hT0 hI13 hLl hLN
    have memL : ∀ x, x ∈ LLF σ see ↔ x ∈ ln σ ∧ inV see x = true := fun x => List.mem_filter
    have srtL : (LLF σ see).Pairwise (fun x y => ahd σ x y = true) := List.Pairwise.sublist List.filter_sublist L3
    refine up_ind (LLF σ see).length (fun i => ∀ (I2 : Nat → Int32) (A2 : Nat → Nat → Int32) (l2 : Option AV) (O : List Nat), O = ((LLF σ see).take i).foldl (odS σ see) [] → O.length ≤ i → (∀ x, x ∈ O ↔ x ∈ (LLF σ see).take i ∧ so σ x = 0 ∧ unF σ see x = false) → (∀ k, k ≠ 17 → I2 k = I1 k) → (∀ k, k ≠ 16 → k ≠ 18 → A2 k = A1 k) → MT (fun x => decide (x ∈ (LLF σ see).take i) && so σ x == 0 && !unF σ see x) A2 → OR O I2 A2 →
      X M_Mo_lays (rmo M_Mo_lays 0 0) (Zm Q 0 0) 160 [some (.inr (some (10, 0))), some (.inl (nI i)), l2] [] (mH g I2 A2) 0 0) ?_ 0 (by omega) I1 A1 l2 [] rfl (by simp) (fun x => by simp) (fun _ _ => rfl) (fun _ _ _ => rfl) (fun x hx => by simp [hT0 x hx, b2i]) ⟨by rw [hI17]; rfl, by simp, List.nodup_nil, fun k x hk => by simp at hk⟩
    intro i hi ih I2 A2 l2 O eO hOl hOm hI2 hA2 hT hO
    have hAk : ∀ k, k ≠ 14 → k ≠ 15 → k ≠ 16 → k ≠ 18 → A2 k = A k := fun k h1 h2 h3 h4 => (hA2 k h3 h4).trans (hA1 k h1 h2 h3 h4)
    have hD2 : MD σ A2 := ⟨hD.1, fun x hx => by rw [hAk 3 (by omega) (by omega) (by omega) (by omega), hAk 4 (by omega) (by omega) (by omega) (by omega), hAk 5 (by omega) (by omega) (by omega) (by omega), hAk 6 (by omega) (by omega) (by omega) (by omega), hAk 7 (by omega) (by omega) (by omega) (by omega), hAk 8 (by omega) (by omega) (by omega) (by omega)]; exact hD.2 x hx⟩
    have hS2 : MS see A2 := fun e he => by rw [hAk 12 (by omega) (by omega) (by omega) (by omega)]; exact hS e he
    have hU2 : MU (unF σ see) A2 := fun x hx => by rw [hA2 15 (by omega) (by omega)]; exact hU x hx
    refine X_run 2 (pc' := 162) (L' := [some (.inr (some (10, 0))), some (.inl (nI i)), l2]) (st' := [.inr (some (10, 0)), .inl (nI i)]) rfl ?_
    refine XM_get (v := .inl (I2 13)) rfl f_Mo_91 rfl rfl ?_
    refine X_eq (st' := [.inl (nI (LLF σ see).length), .inl (nI i)]) rfl (congrArg (fun z => Sum.inl z :: _) ((hI2 13 (by omega)).trans hI13)) rfl ?_
    refine X_ic_ge (tgt := 263) (nx := 168) rfl rfl rfl (fun h1 => ?_) (fun h1 => ?_)
    · have h1 := li_le (by omega) (by omega) h1
      have e : i = (LLF σ see).length := by omega
      rw [e, List.take_length] at eO hT
      refine X_vret rfl rfl (Nat.le_refl _) (Nat.le_refl _) (hq I2 A2 (fun k h1 h2 => (hI2 k h2).trans (hI1 k h1 h2)) hAk ⟨hS2, hU2, fun x hx => ?_, (hI2 13 (by omega)).trans hI13, hLl, fun k x hk => by rw [hA2 14 (by omega) (by omega)]; exact hLN k x hk, by unfold ODF; rw [← eO]; exact hO⟩)
      have e1 : decide (x ∈ LLF σ see) = inV see x := by
        by_cases q : inV see x = true
        · rw [q]
          exact decide_eq_true ((memL x).mpr ⟨L2 x hx q, q⟩)
        · have q' : inV see x = false := by simpa using q
          rw [q']
          exact decide_eq_false (fun z => q ((memL x).mp z).2)
      rw [hT x hx]
      show b2i (decide (x ∈ LLF σ see) && so σ x == 0 && !unF σ see x) = b2i (inV see x && so σ x == 0 && !unF σ see x)
      rw [e1]
    · have h1 := li_nle (by omega) (by omega) h1
      obtain ⟨x, hx⟩ : ∃ x, (LLF σ see)[i]? = some x := ⟨_, List.getElem?_eq_getElem h1⟩
      obtain ⟨ea, hx2⟩ := hLN i x hx
      have hxL : x ∈ LLF σ see := List.mem_of_getElem? hx
      have hxi : x ∈ ln σ ∧ inV see x = true := (memL x).mp hxL
      have tk : (LLF σ see).take (i + 1) = (LLF σ see).take i ++ [x] := by rw [List.take_add_one, hx]; rfl
      have es := (hD2.2 x hx2).1
      have et := (hD2.2 x hx2).2.2.1
      have ev := (hD2.2 x hx2).2.2.2.1
      have bs := (hD.1.2.2 x).1
      have bt := (hD.1.2.2 x).2.2.1
      have hni : x ∉ (LLF σ see).take i := by
        intro q
        obtain ⟨j, hj⟩ := mem_idx q
        rw [List.getElem?_take] at hj
        split at hj
        · have := nod_inj (srt_nodup srtL) hj hx
          omega
        · cases hj
      have next : ∀ (I3 : Nat → Int32) (A3 : Nat → Nat → Int32) (O' : List Nat), O' = odS σ see O x → O'.length ≤ i + 1 → (∀ z, z ∈ O' ↔ z ∈ (LLF σ see).take (i + 1) ∧ so σ z = 0 ∧ unF σ see z = false) → (∀ k, k ≠ 17 → I3 k = I2 k) → (∀ k, k ≠ 16 → k ≠ 18 → A3 k = A2 k) → MT (fun z => decide (z ∈ (LLF σ see).take (i + 1)) && so σ z == 0 && !unF σ see z) A3 → OR O' I3 A3 →
          X M_Mo_lays (rmo M_Mo_lays 0 0) (Zm Q 0 0) 257 [some (.inr (some (10, 0))), some (.inl (nI i)), some (.inl (nI x))] [] (mH g I3 A3) 0 0 := by
        intro I3 A3 O' e1 e2 e3 e4 e5 e6 e7
        refine X_run 2 (pc' := 160) (L' := [some (.inr (some (10, 0))), some (.inl (nI i + 1)), some (.inl (nI x))]) (st' := []) rfl ?_
        refine X_eq (L' := [some (.inr (some (10, 0))), some (.inl (nI (i + 1))), some (.inl (nI x))]) (congrArg (fun z : Int32 => ([some (.inr (some (10, 0))), some (.inl z), some (.inl (nI x))] : List (Option AV))) (by first | rfl | (simp only [il_0, il_1, il_2, il_3, il_4, il_5, il_6, il_7, il_16, il_20, il_40, il_160, pk_mul, nI_add]; done) | (simp only [il_0, il_1, il_2, il_3, il_4, il_5, il_6, il_7, il_16, il_20, il_40, il_160, pk_mul, nI_add]; exact congrArg nI (by omega)))) rfl rfl ?_
        refine ih h1 I3 A3 _ O' ?_ e2 e3 (fun k hk => (e4 k hk).trans (hI2 k hk)) (fun k h1 h2 => (e5 k h1 h2).trans (hA2 k h1 h2)) e6 e7
        rw [tk, List.foldl_append, ← eO, e1]
        rfl
      have memS : ∀ z, so σ x ≠ 0 ∨ unF σ see x = true → ((z ∈ (LLF σ see).take (i + 1) ∧ so σ z = 0 ∧ unF σ see z = false) ↔ (z ∈ (LLF σ see).take i ∧ so σ z = 0 ∧ unF σ see z = false)) := by
        intro z hz
        rw [tk, List.mem_append]
        constructor
        · rintro ⟨q1 | q1, q2, q3⟩
          · exact ⟨q1, q2, q3⟩
          · have e : z = x := by simpa using q1
            rw [e] at q2 q3
            rcases hz with hz | hz
            · exact absurd q2 hz
            · rw [hz] at q3; cases q3
        · rintro ⟨q1, q2, q3⟩
          exact ⟨Or.inl q1, q2, q3⟩
      have mtS : so σ x ≠ 0 ∨ unF σ see x = true → MT (fun z => decide (z ∈ (LLF σ see).take (i + 1)) && so σ z == 0 && !unF σ see z) A2 := by
        intro hz z hz2
        rw [hT z hz2]
        congr 1
        have := memS z hz
        by_cases q2 : so σ z = 0
        · by_cases q3 : unF σ see z = false
          · simp [q2, q3] at this ⊢
            exact this.symm
          · simp [q3]
        · have q2' : (so σ z == 0) = false := by simpa using q2
          simp only [q2', Bool.and_false, Bool.false_and]
      refine X_run 1 (pc' := 169) (L' := [some (.inr (some (10, 0))), some (.inl (nI i)), l2]) (st' := [.inr (some (10, 0))]) rfl ?_
      refine XM_get (v := .inr (some (11, 14))) rfl f_Mo_44 rfl rfl ?_
      refine X_run 1 (pc' := 173) (L' := [some (.inr (some (10, 0))), some (.inl (nI i)), l2]) (st' := [.inl (nI i), .inr (some (11, 14))]) rfl ?_
      refine XM_ald (k := 14) (i := i) rfl (by decide) (by simp only [mln]; omega) rfl ?_
      refine X_eq (st' := [.inl (nI x)]) rfl (congrArg (fun z => Sum.inl z :: _) (by rw [hA2 14 (by omega) (by omega)]; exact ea)) rfl ?_
      refine X_run 2 (pc' := 176) (L' := [some (.inr (some (10, 0))), some (.inl (nI i)), some (.inl (nI x))]) (st' := [.inr (some (10, 0))]) rfl ?_
      refine XM_get (v := .inr (some (11, 3))) rfl f_Mo_13 rfl rfl ?_
      refine X_run 1 (pc' := 180) (L' := [some (.inr (some (10, 0))), some (.inl (nI i)), some (.inl (nI x))]) (st' := [.inl (nI x), .inr (some (11, 3))]) rfl ?_
      refine XM_ald (k := 3) (i := x) rfl (by decide) (by simp only [mln]; omega) rfl ?_
      refine X_eq (st' := [.inl (nI (so σ x))]) rfl (congrArg (fun z => Sum.inl z :: _) es) rfl ?_
      -- what isn't a PUT that counts
      have other : so σ x ≠ 0 ∨ unF σ see x = true → X M_Mo_lays (rmo M_Mo_lays 0 0) (Zm Q 0 0) 223 [some (.inr (some (10, 0))), some (.inl (nI i)), some (.inl (nI x))] [] (mH g I2 A2) 0 0 := by
        intro hno
        have hcase : (so σ x == 0 && !unF σ see x) = false := by
          rcases hno with q | q
          · simp [q]
          · simp [q]
        refine X_run 1 (pc' := 224) (L' := [some (.inr (some (10, 0))), some (.inl (nI i)), some (.inl (nI x))]) (st' := [.inr (some (10, 0))]) rfl ?_
        refine XM_get (v := .inr (some (11, 3))) rfl f_Mo_13 rfl rfl ?_
        refine X_run 1 (pc' := 228) (L' := [some (.inr (some (10, 0))), some (.inl (nI i)), some (.inl (nI x))]) (st' := [.inl (nI x), .inr (some (11, 3))]) rfl ?_
        refine XM_ald (k := 3) (i := x) rfl (by decide) (by simp only [mln]; omega) rfl ?_
        refine X_eq (st' := [.inl (nI (so σ x))]) rfl (congrArg (fun z => Sum.inl z :: _) es) rfl ?_
        refine X_run 1 (pc' := 230) (L' := [some (.inr (some (10, 0))), some (.inl (nI i)), some (.inl (nI x))]) (st' := [.inl (5), .inl (nI (so σ x))]) rfl ?_
        refine X_ic_ne (tgt := 257) (nx := 233) rfl rfl rfl (fun h2 => ?_) (fun h2 => ?_)
        · have h2 := li_ne (b := 5) h2
          refine next I2 A2 O ?_ (by omega) (fun z => (hOm z).trans (memS z hno).symm) (fun _ _ => rfl) (fun _ _ _ => rfl) (mtS hno) hO
          simp [odS, hcase, h2]
        · have h2 := li_eq (b := 5) (by omega) (by decide) h2
          have htg := L4 x hxi.1 (by omega) (by omega)
          have hto : cntF σ see (unF σ see) (fun z => decide (z ∈ (LLF σ see).take i) && so σ z == 0 && !unF σ see z) x = cntF σ see (unF σ see) (thF σ see) x := by
            unfold cntF
            congr 3
            show (decide _ && _ && _) = thF σ see (tg σ x)
            unfold thF
            congr 2
            by_cases q : inV see (tg σ x) = true
            · rw [q]
              simp
              have hin : tg σ x ∈ LLF σ see := (memL _).mpr ⟨L2 _ bt q, q⟩
              obtain ⟨j, hj⟩ := mem_idx hin
              refine List.mem_of_getElem? (i := j) ?_
              rw [List.getElem?_take, if_pos ?_]
              · exact hj
              · rcases Nat.lt_trichotomy j i with z | z | z
                · exact z
                · rw [z, hx] at hj
                  have e0 : x = tg σ x := Option.some.inj hj
                  have := htg.2
                  rw [← e0, ahd_irr] at this
                  cases this
                · obtain ⟨a1, a2⟩ := List.getElem?_eq_some_iff.mp hx
                  obtain ⟨b1, b2⟩ := List.getElem?_eq_some_iff.mp hj
                  have := List.pairwise_iff_getElem.mp srtL i j a1 b1 z
                  rw [a2, b2, ahd_as htg.2] at this
                  cases this
            · have q' : inV see (tg σ x) = false := by simpa using q
              rw [q']
              simp
              intro z
              have := (memL _).mp (List.mem_of_mem_take z)
              exact q this.2
          refine X_run 2 (pc' := 235) (L' := [some (.inr (some (10, 0))), some (.inl (nI i)), some (.inl (nI x))]) (st' := [.inl (nI x), .inr (some (10, 0))]) rfl ?_
          refine X_callV (vs := [.inl (nI x)]) (st := []) (mc := 0) (ms := 0) rfl ok_Mo_counts v_Mo_104 rfl rfl rfl (Nat.le_of_ble_eq_true rfl) (Nat.le_of_ble_eq_true rfl) (Nat.le_of_ble_eq_true rfl) (Nat.le_of_ble_eq_true rfl) (Nat.le_of_ble_eq_true rfl) (Nat.le_of_ble_eq_true rfl) rfl ?_
          refine c_Mo_counts hD2 hS2 hU2 hT hx2 ?_
          show X M_Mo_lays _ _ 238 [some (.inr (some (10, 0))), some (.inl (nI i)), some (.inl (nI x))] [.inl (b2i (cntF σ see (unF σ see) (fun z => decide (z ∈ (LLF σ see).take i) && so σ z == 0 && !unF σ see z) x))] (mH g I2 A2) 0 0
          refine X_eq (st' := [.inl (b2i (cntF σ see (unF σ see) (thF σ see) x))]) rfl (congrArg (fun z => Sum.inl z :: _) (congrArg b2i hto)) rfl ?_
          refine X_if_eq (tgt := 257) (nx := 241) rfl rfl rfl (fun h3 => ?_) (fun h3 => ?_)
          · rw [b2i_0] at h3
            refine next I2 A2 O ?_ (by omega) (fun z => (hOm z).trans (memS z hno).symm) (fun _ _ => rfl) (fun _ _ _ => rfl) (mtS hno) hO
            simp [odS, hcase, h3]
          · rw [b2i_n0] at h3
            have htO : tg σ x ∈ O := by
              have h4 := h3
              rw [← hto] at h4
              rw [hOm]
              simp [cntF, h2] at h4
              exact ⟨h4.2.1.1, h4.2.1.2, h4.2.2⟩
            refine X_run 2 (pc' := 243) (L' := [some (.inr (some (10, 0))), some (.inl (nI i)), some (.inl (nI x))]) (st' := [.inr (some (10, 0)), .inr (some (10, 0))]) rfl ?_
            refine XM_get (v := .inr (some (11, 5))) rfl f_Mo_19 rfl rfl ?_
            refine X_run 1 (pc' := 247) (L' := [some (.inr (some (10, 0))), some (.inl (nI i)), some (.inl (nI x))]) (st' := [.inl (nI x), .inr (some (11, 5)), .inr (some (10, 0))]) rfl ?_
            refine XM_ald (k := 5) (i := x) rfl (by decide) (by simp only [mln]; omega) rfl ?_
            refine X_eq (st' := [.inl (nI (tg σ x)), .inr (some (10, 0))]) rfl (congrArg (fun z => Sum.inl z :: _) et) rfl ?_
            refine X_run 1 (pc' := 249) (L' := [some (.inr (some (10, 0))), some (.inl (nI i)), some (.inl (nI x))]) (st' := [.inr (some (10, 0)), .inl (nI (tg σ x)), .inr (some (10, 0))]) rfl ?_
            refine XM_get (v := .inr (some (11, 6))) rfl f_Mo_22 rfl rfl ?_
            refine X_run 1 (pc' := 253) (L' := [some (.inr (some (10, 0))), some (.inl (nI i)), some (.inl (nI x))]) (st' := [.inl (nI x), .inr (some (11, 6)), .inl (nI (tg σ x)), .inr (some (10, 0))]) rfl ?_
            refine XM_ald (k := 6) (i := x) rfl (by decide) (by simp only [mln]; omega) rfl ?_
            refine X_eq (st' := [.inl (vl σ x), .inl (nI (tg σ x)), .inr (some (10, 0))]) rfl (congrArg (fun z => Sum.inl z :: _) ev) rfl ?_
            refine X_callV (vs := [.inl (nI (tg σ x)), .inl (vl σ x)]) (st := []) (mc := 0) (ms := 0) rfl ok_Mo_moves v_Mo_107 rfl rfl rfl (Nat.le_of_ble_eq_true rfl) (Nat.le_of_ble_eq_true rfl) (Nat.le_of_ble_eq_true rfl) (Nat.le_of_ble_eq_true rfl) (Nat.le_of_ble_eq_true rfl) (Nat.le_of_ble_eq_true rfl) rfl ?_
            refine c_Mo_moves hO htO (L6 x hxi.1 h2) (fun I3 A3 e4 e5 e7 => ?_)
            show X M_Mo_lays _ _ 257 [some (.inr (some (10, 0))), some (.inl (nI i)), some (.inl (nI x))] [] (mH g I3 A3) 0 0
            refine next I3 A3 _ ?_ (by rw [mvL_len htO]; omega) (fun z => ((mvL_mem hO.2.2.1 htO).trans (hOm z)).trans (memS z hno).symm) e4 (fun k _ h2 => e5 k h2) (fun z hz => by rw [e5 16 (by omega)]; exact mtS hno z hz) e7
            simp [odS, hcase, h2, h3]
      refine X_if_ne (tgt := 223) (nx := 184) rfl rfl rfl (fun h2 => ?_) (fun h2 => ?_)
      · have h2 := li_ne (b := 0) h2
        exact other (Or.inl h2)
      · have h2 := li_eq (b := 0) (by omega) (by decide) h2
        refine X_run 1 (pc' := 185) (L' := [some (.inr (some (10, 0))), some (.inl (nI i)), some (.inl (nI x))]) (st' := [.inr (some (10, 0))]) rfl ?_
        refine XM_get (v := .inr (some (11, 15))) rfl f_Mo_47 rfl rfl ?_
        refine X_run 1 (pc' := 189) (L' := [some (.inr (some (10, 0))), some (.inl (nI i)), some (.inl (nI x))]) (st' := [.inl (nI x), .inr (some (11, 15))]) rfl ?_
        refine XM_zld (k := 15) (i := x) rfl (by decide) (by simp only [mln]; omega) rfl ?_
        refine X_eq (st' := [.inl (b2i (unF σ see x))]) rfl (congrArg (fun z => Sum.inl z :: _) (hU2 x hx2)) rfl ?_
        refine X_if_ne (tgt := 223) (nx := 193) rfl rfl rfl (fun h3 => ?_) (fun h3 => ?_)
        · rw [b2i_n0] at h3
          exact other (Or.inr h3)
        · rw [b2i_0] at h3
          refine X_run 1 (pc' := 194) (L' := [some (.inr (some (10, 0))), some (.inl (nI i)), some (.inl (nI x))]) (st' := [.inr (some (10, 0))]) rfl ?_
          refine XM_get (v := .inr (some (11, 16))) rfl f_Mo_51 rfl rfl ?_
          refine X_run 2 (pc' := 199) (L' := [some (.inr (some (10, 0))), some (.inl (nI i)), some (.inl (nI x))]) (st' := [.inl (1), .inl (nI x), .inr (some (11, 16))]) rfl ?_
          refine XM_zst (k := 16) (i := x) rfl (by decide) (by simp only [mln]; omega) (by decide) rfl ?_
          refine X_run 1 (pc' := 201) (L' := [some (.inr (some (10, 0))), some (.inl (nI i)), some (.inl (nI x))]) (st' := [.inr (some (10, 0))]) rfl ?_
          refine XM_get (v := .inr (some (11, 18))) rfl f_Mo_54 rfl rfl ?_
          refine X_run 1 (pc' := 205) (L' := [some (.inr (some (10, 0))), some (.inl (nI i)), some (.inl (nI x))]) (st' := [.inr (some (10, 0)), .inr (some (11, 18))]) rfl ?_
          refine XM_get (v := .inl (I2 17)) rfl f_Mo_94 rfl rfl ?_
          refine X_eq (st' := [.inl (nI O.length), .inr (some (11, 18))]) rfl (congrArg (fun z => Sum.inl z :: _) hO.1) rfl ?_
          refine X_run 1 (pc' := 209) (L' := [some (.inr (some (10, 0))), some (.inl (nI i)), some (.inl (nI x))]) (st' := [.inl (nI x), .inl (nI O.length), .inr (some (11, 18))]) rfl ?_
          refine XM_ast (k := 18) (i := O.length) rfl (by decide) (by simp only [mln]; omega) rfl ?_
          refine X_run 2 (pc' := 212) (L' := [some (.inr (some (10, 0))), some (.inl (nI i)), some (.inl (nI x))]) (st' := [.inr (some (10, 0)), .inr (some (10, 0))]) rfl ?_
          refine XM_get (v := .inl (I2 17)) rfl f_Mo_94 rfl rfl ?_
          refine X_eq (st' := [.inl (nI O.length), .inr (some (10, 0))]) rfl (congrArg (fun z => Sum.inl z :: _) hO.1) rfl ?_
          refine X_run 2 (pc' := 217) (L' := [some (.inr (some (10, 0))), some (.inl (nI i)), some (.inl (nI x))]) (st' := [.inl ((nI O.length) + 1), .inr (some (10, 0))]) rfl ?_
          refine X_eq (st' := [.inl (nI (O.length + 1)), .inr (some (10, 0))]) rfl (congrArg (fun z => Sum.inl z :: _) (by first | rfl | (simp only [il_0, il_1, il_2, il_3, il_4, il_5, il_6, il_7, il_16, il_20, il_40, il_160, pk_mul, nI_add]; done) | (simp only [il_0, il_1, il_2, il_3, il_4, il_5, il_6, il_7, il_16, il_20, il_40, il_160, pk_mul, nI_add]; exact congrArg nI (by omega)))) rfl ?_
          refine XM_put (k := 17) rfl f_Mo_94 (by decide) (by decide) rfl ?_
          refine X_run 1 (pc' := 257) (L' := [some (.inr (some (10, 0))), some (.inl (nI i)), some (.inl (nI x))]) (st' := []) rfl ?_
          refine next _ _ (O ++ [x]) ?_ (by simp; omega) (fun z => ?_) (fun k hk => by simp [upd, hk]) (fun k h1 h2 => by funext j; rw [ua_k h2, ua_k h1]) (fun z hz => ?_) ⟨by simp [upd], by simp; omega, ?_, fun k z hk => ?_⟩
          · simp [odS, h2, h3]
          · rw [List.mem_append, hOm, tk, List.mem_append]
            constructor
            · rintro (q | q)
              · exact ⟨Or.inl q.1, q.2⟩
              · have e : z = x := by simpa using q
                rw [e]
                exact ⟨Or.inr List.mem_cons_self, h2, h3⟩
            · rintro ⟨q1 | q1, q2⟩
              · exact Or.inl ⟨q1, q2⟩
              · exact Or.inr q1
          · rw [ua_k (by omega)]
            by_cases e : z = x
            · rw [e, ua_eq, tk]
              simp [h2, h3, b2i]
            · rw [ua_i e, hT z hz, tk]
              simp [e]
          · rw [List.nodup_append]
            refine ⟨hO.2.2.1, by simp, ?_⟩
            intro a ha b hb
            have e : b = x := by simpa using hb
            rw [e]
            intro q
            rw [q] at ha
            exact hni ((hOm x).mp ha).1
          · rw [List.getElem?_append] at hk
            split at hk
            · rename_i hkl
              rw [ua_i (by omega), ua_k (by omega)]
              exact hO.2.2.2 k z hk
            · rename_i hkl
              have hk0 : k - O.length = 0 := by
                have := (List.getElem?_eq_some_iff.mp hk).1
                simp at this
                omega
              rw [hk0] at hk
              simp at hk
              rw [← hk, show k = O.length by omega, ua_eq]
              exact ⟨rfl, hx2⟩
  -- PHASE 2: the line and what is undone
  have phase2 : ∀ (I1 : Nat → Int32) (A1 : Nat → Nat → Int32), (∀ k, k ≠ 13 → k ≠ 17 → I1 k = I k) → I1 13 = 0 → I1 17 = 0 → (∀ k, k ≠ 14 → k ≠ 15 → k ≠ 16 → k ≠ 18 → A1 k = A k) → (∀ x, x < 160 → A1 15 x = 0) → (∀ x, x < 160 → A1 16 x = 0) →
      X M_Mo_lays (rmo M_Mo_lays 0 0) (Zm Q 0 0) 41 [some (.inr (some (10, 0))), some (.inl (nI 0)), none] [] (mH g I1 A1) 0 0 := by
    intro I1 A1 hI1 hI13 hI17 hA1 hU0 hT0
    refine up_ind 160 (fun i => ∀ (I2 : Nat → Int32) (A2 : Nat → Nat → Int32) (l2 : Option AV) (S : List Nat), S.Pairwise (fun x y => ahd σ x y = true) → (∀ y, y ∈ S ↔ y < i ∧ inV see y = true) → S.length ≤ i → I2 13 = nI S.length → I2 17 = 0 → (∀ k, k ≠ 13 → k ≠ 17 → I2 k = I k) → (∀ k, k ≠ 14 → k ≠ 15 → k ≠ 16 → k ≠ 18 → A2 k = A k) → LN S 14 A2 → (∀ z, z < 160 → A2 15 z = b2i (uP σ see i z)) → (∀ x, x < 160 → A2 16 x = 0) →
      X M_Mo_lays (rmo M_Mo_lays 0 0) (Zm Q 0 0) 41 [some (.inr (some (10, 0))), some (.inl (nI i)), l2] [] (mH g I2 A2) 0 0) ?_ 0 (by omega) I1 A1 none [] List.Pairwise.nil (fun y => by simp) (by simp) hI13 hI17 hI1 hA1 (fun k x hk => by simp at hk) (fun z hz => by rw [hU0 z hz]; rfl) hT0
    intro i hi ih I2 A2 l2 S hSs hSm hSl h13 h17 hI2 hAk hLN hUP hT
    have hD2 : MD σ A2 := ⟨hD.1, fun x hx => by rw [hAk 3 (by omega) (by omega) (by omega) (by omega), hAk 4 (by omega) (by omega) (by omega) (by omega), hAk 5 (by omega) (by omega) (by omega) (by omega), hAk 6 (by omega) (by omega) (by omega) (by omega), hAk 7 (by omega) (by omega) (by omega) (by omega), hAk 8 (by omega) (by omega) (by omega) (by omega)]; exact hD.2 x hx⟩
    have hS2 : MS see A2 := fun e he => by rw [hAk 12 (by omega) (by omega) (by omega) (by omega)]; exact hS e he
    refine X_run 2 (pc' := 45) (L' := [some (.inr (some (10, 0))), some (.inl (nI i)), l2]) (st' := [.inl (160), .inl (nI i)]) rfl ?_
    refine X_ic_ge (tgt := 158) (nx := 48) rfl rfl rfl (fun h1 => ?_) (fun h1 => ?_)
    · have h1 := li_le (a := 160) (by decide) (by omega) h1
      have e : i = 160 := by omega
      have eS : S = LLF σ see := by
        refine srt_uniq (σ := σ) _ _ hSs (List.Pairwise.sublist List.filter_sublist L3) (fun y => ?_)
        rw [hSm, LLF, List.mem_filter, e]
        exact ⟨fun q => ⟨L2 y q.1 q.2, q.2⟩, fun q => ⟨L1 y q.1, q.2⟩⟩
      rw [eS] at h13 hLN hSl
      refine X_run 2 (pc' := 160) (L' := [some (.inr (some (10, 0))), some (.inl (0)), l2]) (st' := []) rfl ?_
      refine X_eq (L' := [some (.inr (some (10, 0))), some (.inl (nI (0))), l2]) (congrArg (fun z : Int32 => ([some (.inr (some (10, 0))), some (.inl z), l2] : List (Option AV))) (by first | rfl | (simp only [il_0, il_1, il_2, il_3, il_4, il_5, il_6, il_7, il_16, il_20, il_40, il_160, pk_mul, nI_add]; done) | (simp only [il_0, il_1, il_2, il_3, il_4, il_5, il_6, il_7, il_16, il_20, il_40, il_160, pk_mul, nI_add]; exact congrArg nI (by omega)))) rfl rfl ?_
      exact phase3 I2 A2 _ hI2 h17 hAk (fun z hz => by rw [hUP z hz, e]; rfl) hT h13 (by omega) hLN
    · have h1 := li_nle (a := 160) (by decide) (by omega) h1
      refine X_run 2 (pc' := 50) (L' := [some (.inr (some (10, 0))), some (.inl (nI i)), l2]) (st' := [.inl (nI i), .inr (some (10, 0))]) rfl ?_
      refine X_callV (vs := [.inl (nI i)]) (st := []) (mc := 0) (ms := 0) rfl ok_Mo_isIn v_Mo_97 rfl rfl rfl (Nat.le_of_ble_eq_true rfl) (Nat.le_of_ble_eq_true rfl) (Nat.le_of_ble_eq_true rfl) (Nat.le_of_ble_eq_true rfl) (Nat.le_of_ble_eq_true rfl) (Nat.le_of_ble_eq_true rfl) rfl ?_
      refine c_Mo_isIn hS2 h1 ?_
      show X M_Mo_lays _ _ 53 [some (.inr (some (10, 0))), some (.inl (nI i)), l2] [.inl (b2i (inV see i))] (mH g I2 A2) 0 0
      refine X_if_ne (tgt := 59) (nx := 56) rfl rfl rfl (fun h2 => ?_) (fun h2 => ?_)
      · rw [b2i_n0] at h2
        have hiL : i ∈ ln σ := L2 i h1 h2
        have es := (hD2.2 i h1).1
        have et := (hD2.2 i h1).2.2.1
        have bs := (hD.1.2.2 i).1
        have uPs : ∀ z, uP σ see (i + 1) z = (uP σ see i z || (so σ i == 7 && 40 * (i / 40) + tg σ i == z)) := by
          intro z
          unfold uP
          rw [List.range_succ, List.any_append]
          simp [h2]
        -- x comes into the line
        have ins : ∀ (A3 : Nat → Nat → Int32), (∀ k, k ≠ 15 → A3 k = A2 k) → (∀ z, z < 160 → A3 15 z = b2i (uP σ see (i + 1) z)) → X M_Mo_lays (rmo M_Mo_lays 0 0) (Zm Q 0 0) 90 [some (.inr (some (10, 0))), some (.inl (nI i)), l2] [] (mH g I2 A3) 0 0 := by
          intro A3 hk3 hu3
          have fin : ∀ (k : Nat) (A4 : Nat → Nat → Int32), k ≤ S.length → (∀ kk, kk ≠ 14 → A4 kk = A3 kk) → (∀ j, A4 14 j = if k < j ∧ j ≤ S.length then A3 14 (j - 1) else A3 14 j) → (∀ (j y : Nat), j < k → S[j]? = some y → ahd σ y i = true) → (∀ (j y : Nat), k ≤ j → S[j]? = some y → ahd σ i y = true) →
              X M_Mo_lays (rmo M_Mo_lays 0 0) (Zm Q 0 0) 135 [some (.inr (some (10, 0))), some (.inl (nI i)), some (.inl (nI k))] [] (mH g I2 A4) 0 0 := by
            intro k A4 hk hk4 ha4 hlo hhi
            refine X_run 1 (pc' := 136) (L' := [some (.inr (some (10, 0))), some (.inl (nI i)), some (.inl (nI k))]) (st' := [.inr (some (10, 0))]) rfl ?_
            refine XM_get (v := .inr (some (11, 14))) rfl f_Mo_44 rfl rfl ?_
            refine X_run 2 (pc' := 141) (L' := [some (.inr (some (10, 0))), some (.inl (nI i)), some (.inl (nI k))]) (st' := [.inl (nI i), .inl (nI k), .inr (some (11, 14))]) rfl ?_
            refine XM_ast (k := 14) (i := k) rfl (by decide) (by simp only [mln]; omega) rfl ?_
            refine X_run 2 (pc' := 144) (L' := [some (.inr (some (10, 0))), some (.inl (nI i)), some (.inl (nI k))]) (st' := [.inr (some (10, 0)), .inr (some (10, 0))]) rfl ?_
            refine XM_get (v := .inl (I2 13)) rfl f_Mo_91 rfl rfl ?_
            refine X_eq (st' := [.inl (nI S.length), .inr (some (10, 0))]) rfl (congrArg (fun z => Sum.inl z :: _) h13) rfl ?_
            refine X_run 2 (pc' := 149) (L' := [some (.inr (some (10, 0))), some (.inl (nI i)), some (.inl (nI k))]) (st' := [.inl ((nI S.length) + 1), .inr (some (10, 0))]) rfl ?_
            refine X_eq (st' := [.inl (nI (S.length + 1)), .inr (some (10, 0))]) rfl (congrArg (fun z => Sum.inl z :: _) (by first | rfl | (simp only [il_0, il_1, il_2, il_3, il_4, il_5, il_6, il_7, il_16, il_20, il_40, il_160, pk_mul, nI_add]; done) | (simp only [il_0, il_1, il_2, il_3, il_4, il_5, il_6, il_7, il_16, il_20, il_40, il_160, pk_mul, nI_add]; exact congrArg nI (by omega)))) rfl ?_
            refine XM_put (k := 13) rfl f_Mo_91 (by decide) (by decide) rfl ?_
            refine X_run 2 (pc' := 41) (L' := [some (.inr (some (10, 0))), some (.inl (nI i + 1)), some (.inl (nI k))]) (st' := []) rfl ?_
            refine X_eq (L' := [some (.inr (some (10, 0))), some (.inl (nI (i + 1))), some (.inl (nI k))]) (congrArg (fun z : Int32 => ([some (.inr (some (10, 0))), some (.inl z), some (.inl (nI k))] : List (Option AV))) (by first | rfl | (simp only [il_0, il_1, il_2, il_3, il_4, il_5, il_6, il_7, il_16, il_20, il_40, il_160, pk_mul, nI_add]; done) | (simp only [il_0, il_1, il_2, il_3, il_4, il_5, il_6, il_7, il_16, il_20, il_40, il_160, pk_mul, nI_add]; exact congrArg nI (by omega)))) rfl rfl ?_
            refine ih h1 _ _ _ (S.insertIdx k i) (srt_ins S k hSs hk hlo hhi) (fun y => ?_) (by rw [List.length_insertIdx_of_le_length hk]; omega) (by rw [List.length_insertIdx_of_le_length hk]; simp [upd]) (by simp only [upd]; rw [if_neg (by omega)]; exact h17) (fun q a1 a2 => by simp only [upd, a1, if_false]; exact hI2 q a1 a2) (fun q a1 a2 a3 a4 => by funext j; rw [ua_k a1, hk4 q a1, hk3 q a2]; exact congrFun (hAk q a1 a2 a3 a4) j) (fun j y hj => ?_) (fun z hz => by rw [ua_k (by omega), hk4 15 (by omega)]; exact hu3 z hz) (fun z hz => by rw [ua_k (by omega), hk4 16 (by omega), hk3 16 (by omega)]; exact hT z hz)
            · rw [List.mem_insertIdx hk, hSm]
              constructor
              · rintro (q | q)
                · rw [q]; exact ⟨by omega, h2⟩
                · exact ⟨by omega, q.2⟩
              · rintro ⟨q1, q2⟩
                by_cases e : y = i
                · exact Or.inl e
                · exact Or.inr ⟨by omega, q2⟩
            · rw [insertIdx_get S hk] at hj
              by_cases q1 : j < k
              · rw [if_pos q1] at hj
                rw [ua_i (by omega), ha4, if_neg (by omega), hk3 14 (by omega)]
                exact hLN j y hj
              · rw [if_neg q1] at hj
                by_cases q2 : j = k
                · rw [if_pos q2] at hj
                  cases hj
                  rw [q2, ua_eq]
                  exact ⟨rfl, h1⟩
                · rw [if_neg q2] at hj
                  have hjl := (List.getElem?_eq_some_iff.mp hj).1
                  rw [ua_i q2, ha4, if_pos (by omega), hk3 14 (by omega)]
                  exact hLN (j - 1) y hj
          refine X_run 1 (pc' := 91) (L' := [some (.inr (some (10, 0))), some (.inl (nI i)), l2]) (st' := [.inr (some (10, 0))]) rfl ?_
          refine XM_get (v := .inl (I2 13)) rfl f_Mo_91 rfl rfl ?_
          refine X_eq (st' := [.inl (nI S.length)]) rfl (congrArg (fun z => Sum.inl z :: _) h13) rfl ?_
          refine X_run 1 (pc' := 95) (L' := [some (.inr (some (10, 0))), some (.inl (nI i)), some (.inl (nI S.length))]) (st' := []) rfl ?_
          refine dn_ind (fun k => ∀ (A4 : Nat → Nat → Int32), k ≤ S.length → (∀ kk, kk ≠ 14 → A4 kk = A3 kk) → (∀ j, A4 14 j = if k < j ∧ j ≤ S.length then A3 14 (j - 1) else A3 14 j) → (∀ (j y : Nat), k ≤ j → S[j]? = some y → ahd σ i y = true) →
              X M_Mo_lays (rmo M_Mo_lays 0 0) (Zm Q 0 0) 95 [some (.inr (some (10, 0))), some (.inl (nI i)), some (.inl (nI k))] [] (mH g I2 A4) 0 0) ?_ S.length A3 (Nat.le_refl _) (fun _ _ => rfl) (fun j => by rw [if_neg (by omega)]) (fun j y hj hy => by have := (List.getElem?_eq_some_iff.mp hy).1; omega)
          intro k ih2 A4 hk hk4 ha4 hhi
          refine X_run 1 (pc' := 96) (L' := [some (.inr (some (10, 0))), some (.inl (nI i)), some (.inl (nI k))]) (st' := [.inl (nI k)]) rfl ?_
          refine X_if_le (tgt := 135) (nx := 99) rfl rfl rfl (fun h3 => ?_) (fun h3 => ?_)
          · have h3 := li_le (b := 0) (by omega) (by decide) h3
            exact fin k A4 hk hk4 ha4 (fun j y hj => by omega) hhi
          · have h3 := li_nle (b := 0) (by omega) (by decide) h3
            obtain ⟨z, hz⟩ : ∃ z, S[k - 1]? = some z := ⟨_, List.getElem?_eq_getElem (by omega)⟩
            obtain ⟨ez, hz2⟩ := hLN (k - 1) z hz
            have hD4 : MD σ A4 := ⟨hD.1, fun x hx => by rw [hk4 3 (by omega), hk4 4 (by omega), hk4 5 (by omega), hk4 6 (by omega), hk4 7 (by omega), hk4 8 (by omega), hk3 3 (by omega), hk3 4 (by omega), hk3 5 (by omega), hk3 6 (by omega), hk3 7 (by omega), hk3 8 (by omega)]; exact hD2.2 x hx⟩
            have ez4 : A4 14 (k - 1) = nI z := by rw [ha4, if_neg (by omega), hk3 14 (by omega)]; exact ez
            refine X_run 3 (pc' := 102) (L' := [some (.inr (some (10, 0))), some (.inl (nI i)), some (.inl (nI k))]) (st' := [.inr (some (10, 0)), .inl (nI i), .inr (some (10, 0))]) rfl ?_
            refine XM_get (v := .inr (some (11, 14))) rfl f_Mo_44 rfl rfl ?_
            refine X_run 3 (pc' := 108) (L' := [some (.inr (some (10, 0))), some (.inl (nI i)), some (.inl (nI k))]) (st' := [.inl ((nI k) - 1), .inr (some (11, 14)), .inl (nI i), .inr (some (10, 0))]) rfl ?_
            refine X_eq (st' := [.inl (nI (k - 1)), .inr (some (11, 14)), .inl (nI i), .inr (some (10, 0))]) rfl (congrArg (fun z => Sum.inl z :: _) (by rw [il_1, pk_sub (by omega)])) rfl ?_
            refine XM_ald (k := 14) (i := (k - 1)) rfl (by decide) (by simp only [mln]; omega) rfl ?_
            refine X_eq (st' := [.inl (nI z), .inl (nI i), .inr (some (10, 0))]) rfl (congrArg (fun z => Sum.inl z :: _) ez4) rfl ?_
            refine X_callV (vs := [.inl (nI i), .inl (nI z)]) (st := []) (mc := 0) (ms := 0) rfl ok_Mo_isAhead v_Mo_100 rfl rfl rfl (Nat.le_of_ble_eq_true rfl) (Nat.le_of_ble_eq_true rfl) (Nat.le_of_ble_eq_true rfl) (Nat.le_of_ble_eq_true rfl) (Nat.le_of_ble_eq_true rfl) (Nat.le_of_ble_eq_true rfl) rfl ?_
            refine c_Mo_isAhead hD4 h1 hz2 ?_
            show X M_Mo_lays _ _ 112 [some (.inr (some (10, 0))), some (.inl (nI i)), some (.inl (nI k))] [.inl (b2i (ahd σ i z))] (mH g I2 A4) 0 0
            refine X_if_eq (tgt := 135) (nx := 115) rfl rfl rfl (fun h4 => ?_) (fun h4 => ?_)
            · rw [b2i_0] at h4
              have hzS : z ∈ S := List.mem_of_getElem? hz
              have hzi := (hSm z).mp hzS
              have hza : ahd σ z i = true := by
                rcases srt_tot L3 (L2 z hz2 hzi.2) hiL (by omega) with q | q
                · exact q
                · rw [h4] at q; cases q
              refine fin k A4 hk hk4 ha4 (fun j y hj hy => srt_all hSs hz hza j y (by omega) hy) hhi
            · rw [b2i_n0] at h4
              refine X_run 1 (pc' := 116) (L' := [some (.inr (some (10, 0))), some (.inl (nI i)), some (.inl (nI k))]) (st' := [.inr (some (10, 0))]) rfl ?_
              refine XM_get (v := .inr (some (11, 14))) rfl f_Mo_44 rfl rfl ?_
              refine X_run 2 (pc' := 121) (L' := [some (.inr (some (10, 0))), some (.inl (nI i)), some (.inl (nI k))]) (st' := [.inr (some (10, 0)), .inl (nI k), .inr (some (11, 14))]) rfl ?_
              refine XM_get (v := .inr (some (11, 14))) rfl f_Mo_44 rfl rfl ?_
              refine X_run 3 (pc' := 127) (L' := [some (.inr (some (10, 0))), some (.inl (nI i)), some (.inl (nI k))]) (st' := [.inl ((nI k) - 1), .inr (some (11, 14)), .inl (nI k), .inr (some (11, 14))]) rfl ?_
              refine X_eq (st' := [.inl (nI (k - 1)), .inr (some (11, 14)), .inl (nI k), .inr (some (11, 14))]) rfl (congrArg (fun z => Sum.inl z :: _) (by rw [il_1, pk_sub (by omega)])) rfl ?_
              refine XM_ald (k := 14) (i := (k - 1)) rfl (by decide) (by simp only [mln]; omega) rfl ?_
              refine XM_ast (k := 14) (i := k) rfl (by decide) (by simp only [mln]; omega) rfl ?_
              refine X_run 2 (pc' := 95) (L' := [some (.inr (some (10, 0))), some (.inl (nI i)), some (.inl (nI k + -1))]) (st' := []) rfl ?_
              refine X_eq (L' := [some (.inr (some (10, 0))), some (.inl (nI i)), some (.inl (nI (k - 1)))]) (congrArg (fun z : Int32 => ([some (.inr (some (10, 0))), some (.inl (nI i)), some (.inl z)] : List (Option AV))) (by rw [show k = (k - 1) + 1 by omega]; exact pk_m1 _)) rfl rfl ?_
              refine ih2 h3 _ (by omega) (fun q hq => by funext j; rw [ua_k hq, hk4 q hq]) (fun j => ?_) (fun j y hj hy => ?_)
              · by_cases q : j = k
                · rw [q, ua_eq, if_pos (by omega), ha4, if_neg (by omega)]
                · rw [ua_i q, ha4]
                  by_cases q2 : k < j ∧ j ≤ S.length
                  · rw [if_pos q2, if_pos (by omega)]
                  · rw [if_neg q2, if_neg (by omega)]
              · by_cases q : j = k - 1
                · rw [q, hz] at hy
                  cases hy
                  exact h4
                · exact hhi j y (by omega) hy
        refine X_run 1 (pc' := 60) (L' := [some (.inr (some (10, 0))), some (.inl (nI i)), l2]) (st' := [.inr (some (10, 0))]) rfl ?_
        refine XM_get (v := .inr (some (11, 3))) rfl f_Mo_13 rfl rfl ?_
        refine X_run 1 (pc' := 64) (L' := [some (.inr (some (10, 0))), some (.inl (nI i)), l2]) (st' := [.inl (nI i), .inr (some (11, 3))]) rfl ?_
        refine XM_ald (k := 3) (i := i) rfl (by decide) (by simp only [mln]; omega) rfl ?_
        refine X_eq (st' := [.inl (nI (so σ i))]) rfl (congrArg (fun z => Sum.inl z :: _) es) rfl ?_
        refine X_run 1 (pc' := 67) (L' := [some (.inr (some (10, 0))), some (.inl (nI i)), l2]) (st' := [.inl (7), .inl (nI (so σ i))]) rfl ?_
        refine X_ic_ne (tgt := 90) (nx := 70) rfl rfl rfl (fun h3 => ?_) (fun h3 => ?_)
        · have h3 := li_ne (b := 7) h3
          have h3' : (so σ i == 7) = false := by simpa using h3
          exact ins A2 (fun _ _ => rfl) (fun z hz => by rw [uPs, hUP z hz, h3', Bool.false_and, Bool.or_false])
        · have h3 := li_eq (b := 7) (by omega) (by decide) h3
          have h5 := L5 i hiL h3
          refine X_run 1 (pc' := 71) (L' := [some (.inr (some (10, 0))), some (.inl (nI i)), l2]) (st' := [.inr (some (10, 0))]) rfl ?_
          refine XM_get (v := .inr (some (11, 15))) rfl f_Mo_47 rfl rfl ?_
          refine X_run 3 (pc' := 79) (L' := [some (.inr (some (10, 0))), some (.inl (nI i)), l2]) (st' := [.inl (40), .inl (nI i), .inl (40), .inr (some (11, 15))]) rfl ?_
          refine X_div rfl (by decide) rfl ?_
          refine X_eq (st' := [.inl (nI (i / 40)), .inl (40), .inr (some (11, 15))]) rfl (congrArg (fun z => Sum.inl z :: _) (pk_div (d := 40) (by omega) (by decide) (by decide))) rfl ?_
          refine X_run 2 (pc' := 82) (L' := [some (.inr (some (10, 0))), some (.inl (nI i)), l2]) (st' := [.inr (some (10, 0)), .inl (40 * (nI (i / 40))), .inr (some (11, 15))]) rfl ?_
          refine XM_get (v := .inr (some (11, 5))) rfl f_Mo_19 rfl rfl ?_
          refine X_run 1 (pc' := 86) (L' := [some (.inr (some (10, 0))), some (.inl (nI i)), l2]) (st' := [.inl (nI i), .inr (some (11, 5)), .inl (40 * (nI (i / 40))), .inr (some (11, 15))]) rfl ?_
          refine XM_ald (k := 5) (i := i) rfl (by decide) (by simp only [mln]; omega) rfl ?_
          refine X_eq (st' := [.inl (nI (tg σ i)), .inl (40 * (nI (i / 40))), .inr (some (11, 15))]) rfl (congrArg (fun z => Sum.inl z :: _) et) rfl ?_
          refine X_run 1 (pc' := 88) (L' := [some (.inr (some (10, 0))), some (.inl (nI i)), l2]) (st' := [.inl ((40 * (nI (i / 40))) + (nI (tg σ i))), .inr (some (11, 15))]) rfl ?_
          refine X_eq (st' := [.inl (nI (40 * (i / 40) + tg σ i)), .inr (some (11, 15))]) rfl (congrArg (fun z => Sum.inl z :: _) (by first | rfl | (simp only [il_0, il_1, il_2, il_3, il_4, il_5, il_6, il_7, il_16, il_20, il_40, il_160, pk_mul, nI_add]; done) | (simp only [il_0, il_1, il_2, il_3, il_4, il_5, il_6, il_7, il_16, il_20, il_40, il_160, pk_mul, nI_add]; exact congrArg nI (by omega)))) rfl ?_
          refine X_run 1 (pc' := 89) (L' := [some (.inr (some (10, 0))), some (.inl (nI i)), l2]) (st' := [.inl (1), .inl (nI (40 * (i / 40) + tg σ i)), .inr (some (11, 15))]) rfl ?_
          refine XM_zst (k := 15) (i := (40 * (i / 40) + tg σ i)) rfl (by decide) (by simp only [mln]; omega) (by decide) rfl ?_
          refine ins _ (fun q hq => by funext j; rw [ua_k hq]) (fun z hz => ?_)
          rw [uPs]
          by_cases e : z = 40 * (i / 40) + tg σ i
          · rw [e, ua_eq]
            simp [h3, b2i]
          · rw [ua_i e, hUP z hz]
            congr 1
            simp [h3]
            omega
      · rw [b2i_0] at h2
        refine X_run 3 (pc' := 41) (L' := [some (.inr (some (10, 0))), some (.inl (nI i + 1)), l2]) (st' := []) rfl ?_
        refine X_eq (L' := [some (.inr (some (10, 0))), some (.inl (nI (i + 1))), l2]) (congrArg (fun z : Int32 => ([some (.inr (some (10, 0))), some (.inl z), l2] : List (Option AV))) (by first | rfl | (simp only [il_0, il_1, il_2, il_3, il_4, il_5, il_6, il_7, il_16, il_20, il_40, il_160, pk_mul, nI_add]; done) | (simp only [il_0, il_1, il_2, il_3, il_4, il_5, il_6, il_7, il_16, il_20, il_40, il_160, pk_mul, nI_add]; exact congrArg nI (by omega)))) rfl rfl ?_
        refine ih h1 I2 A2 _ S hSs (fun y => ?_) (by omega) h13 h17 hI2 hAk hLN (fun z hz => ?_) hT
        · rw [hSm]
          constructor
          · rintro ⟨q1, q2⟩
            exact ⟨by omega, q2⟩
          · rintro ⟨q1, q2⟩
            refine ⟨?_, q2⟩
            rcases Nat.lt_or_ge y i with q | q
            · exact q
            · rw [show y = i by omega, h2] at q2
              cases q2
        · rw [hUP z hz]
          congr 1
          unfold uP
          rw [List.range_succ, List.any_append]
          simp [h2]
  -- PHASE 1: all clear
  show X M_Mo_lays _ _ 0 [some (.inr (some (10, 0))), none, none] [] (mH g I A) 0 0
  refine X_run 2 (pc' := 2) (L' := [some (.inr (some (10, 0))), none, none]) (st' := [.inl (0), .inr (some (10, 0))]) rfl ?_
  refine XM_put (k := 13) rfl f_Mo_91 (by decide) (by decide) rfl ?_
  refine X_run 2 (pc' := 7) (L' := [some (.inr (some (10, 0))), none, none]) (st' := [.inl (0), .inr (some (10, 0))]) rfl ?_
  refine XM_put (k := 17) rfl f_Mo_94 (by decide) (by decide) rfl ?_
  refine X_run 2 (pc' := 12) (L' := [some (.inr (some (10, 0))), some (.inl (0)), none]) (st' := []) rfl ?_
  refine X_eq (L' := [some (.inr (some (10, 0))), some (.inl (nI (0))), none]) (congrArg (fun z : Int32 => ([some (.inr (some (10, 0))), some (.inl z), none] : List (Option AV))) (by first | rfl | (simp only [il_0, il_1, il_2, il_3, il_4, il_5, il_6, il_7, il_16, il_20, il_40, il_160, pk_mul, nI_add]; done) | (simp only [il_0, il_1, il_2, il_3, il_4, il_5, il_6, il_7, il_16, il_20, il_40, il_160, pk_mul, nI_add]; exact congrArg nI (by omega)))) rfl rfl ?_
  generalize hI1e : upd (upd I 13 0) 17 0 = I1
  have hI1 : ∀ k, k ≠ 13 → k ≠ 17 → I1 k = I k := fun k h1 h2 => by rw [← hI1e]; simp [upd, h1, h2]
  have hI13 : I1 13 = 0 := by rw [← hI1e]; rfl
  have hI17 : I1 17 = 0 := by rw [← hI1e]; rfl
  refine up_ind 160 (fun i => ∀ (A2 : Nat → Nat → Int32), (∀ k, k ≠ 15 → k ≠ 16 → A2 k = A k) → (∀ x, x < i → A2 15 x = 0 ∧ A2 16 x = 0) → X M_Mo_lays (rmo M_Mo_lays 0 0) (Zm Q 0 0) 12 [some (.inr (some (10, 0))), some (.inl (nI i)), none] [] (mH g I1 A2) 0 0) ?_ 0 (by omega) A (fun _ _ _ => rfl) (fun x hx => by omega)
  intro i hi ih A2 hA2 hz
  refine X_run 2 (pc' := 16) (L' := [some (.inr (some (10, 0))), some (.inl (nI i)), none]) (st' := [.inl (160), .inl (nI i)]) rfl ?_
  refine X_ic_ge (tgt := 39) (nx := 19) rfl rfl rfl (fun h1 => ?_) (fun h1 => ?_)
  · have h1 := li_le (a := 160) (by decide) (by omega) h1
    refine X_run 2 (pc' := 41) (L' := [some (.inr (some (10, 0))), some (.inl (0)), none]) (st' := []) rfl ?_
    refine X_eq (L' := [some (.inr (some (10, 0))), some (.inl (nI (0))), none]) (congrArg (fun z : Int32 => ([some (.inr (some (10, 0))), some (.inl z), none] : List (Option AV))) (by first | rfl | (simp only [il_0, il_1, il_2, il_3, il_4, il_5, il_6, il_7, il_16, il_20, il_40, il_160, pk_mul, nI_add]; done) | (simp only [il_0, il_1, il_2, il_3, il_4, il_5, il_6, il_7, il_16, il_20, il_40, il_160, pk_mul, nI_add]; exact congrArg nI (by omega)))) rfl rfl ?_
    exact phase2 I1 A2 hI1 hI13 hI17 (fun k _ h2 h3 _ => hA2 k h2 h3) (fun x hx => (hz x (by omega)).1) (fun x hx => (hz x (by omega)).2)
  · have h1 := li_nle (a := 160) (by decide) (by omega) h1
    refine X_run 1 (pc' := 20) (L' := [some (.inr (some (10, 0))), some (.inl (nI i)), none]) (st' := [.inr (some (10, 0))]) rfl ?_
    refine XM_get (v := .inr (some (11, 15))) rfl f_Mo_47 rfl rfl ?_
    refine X_run 2 (pc' := 25) (L' := [some (.inr (some (10, 0))), some (.inl (nI i)), none]) (st' := [.inl (0), .inl (nI i), .inr (some (11, 15))]) rfl ?_
    refine XM_zst (k := 15) (i := i) rfl (by decide) (by simp only [mln]; omega) (by decide) rfl ?_
    refine X_run 1 (pc' := 27) (L' := [some (.inr (some (10, 0))), some (.inl (nI i)), none]) (st' := [.inr (some (10, 0))]) rfl ?_
    refine XM_get (v := .inr (some (11, 16))) rfl f_Mo_51 rfl rfl ?_
    refine X_run 2 (pc' := 32) (L' := [some (.inr (some (10, 0))), some (.inl (nI i)), none]) (st' := [.inl (0), .inl (nI i), .inr (some (11, 16))]) rfl ?_
    refine XM_zst (k := 16) (i := i) rfl (by decide) (by simp only [mln]; omega) (by decide) rfl ?_
    refine X_run 2 (pc' := 12) (L' := [some (.inr (some (10, 0))), some (.inl (nI i + 1)), none]) (st' := []) rfl ?_
    refine X_eq (L' := [some (.inr (some (10, 0))), some (.inl (nI (i + 1))), none]) (congrArg (fun z : Int32 => ([some (.inr (some (10, 0))), some (.inl z), none] : List (Option AV))) (by first | rfl | (simp only [il_0, il_1, il_2, il_3, il_4, il_5, il_6, il_7, il_16, il_20, il_40, il_160, pk_mul, nI_add]; done) | (simp only [il_0, il_1, il_2, il_3, il_4, il_5, il_6, il_7, il_16, il_20, il_40, il_160, pk_mul, nI_add]; exact congrArg nI (by omega)))) rfl rfl ?_
    refine ih h1 _ (fun k h1 h2 => by funext j; rw [ua_k h2, ua_k h1, hA2 k h1 h2]) (fun x hx => ?_)
    by_cases e : x = i
    · rw [e]
      exact ⟨by rw [ua_k (by omega), ua_eq], ua_eq _ _ _ _⟩
    · rw [ua_k (by omega), ua_i e, ua_i e, ua_k (by omega)]
      exact hz x (by omega)
end

