/-! pure: what holds of the state holds after each step -/
theorem bkF_cg {σ τ : Sg} {d d' : Nat} : ∀ (k u : Nat), (∀ j, j < k → so τ (40 * d' + j) = so σ (40 * d + j)) → bkF τ d' u k = bkF σ d u k
  | 0, _, _ => rfl
  | k + 1, u, h => by
    rw [bkF_succ, bkF_succ, h k (by omega), bkF_cg k (u + 1) (fun j hj => h j (by omega)), bkF_cg k (u - 1) (fun j hj => h j (by omega))]
theorem max_le3 {a b c : Nat} (h1 : a ≤ c) (h2 : b ≤ c) : max a b ≤ c := by omega
/-- a deed that may be done -/
def okD (σ : Sg) (d w t : Nat) (v n : Int32) : Prop := d < nd σ ∧ mny σ d < 40 ∧ w ≤ 7 ∧ t < 160 ∧ (w ≠ 0 → w ≠ 7 → so σ t = 0 ∧ t ∈ ln σ ∧ t % 40 < rk σ d d (t / 40)) ∧ (w = 0 → t = 40 * d + mny σ d ∧ 0 ≤ v.toInt ∧ v.toInt ≤ 99 ∧ 1 ≤ n.toInt ∧ n.toInt ≤ 999) ∧ (w = 7 → t < mny σ d ∧ bkF σ d 0 (mny σ d) = some t) ∧
  (w = 5 → (v = -1 ∨ ∃ k, k < 160 ∧ v = nI k) ∧ v ≠ nI t) ∧ (w = 2 → 1 ≤ v.toInt ∧ v.toInt ≤ 99) ∧ (w = 6 → 1 ≤ v.toInt ∧ v.toInt ≤ 999)
section
variable {σ : Sg} {d w t : Nat} {v n : Int32}
theorem doS_W2 (h : W2 σ) (ok : okD σ d w t v n) : W2 (doS σ d w t v n) := by
  obtain ⟨o1, o2, o3, o4, o5, o6, o7, o8, o9, o10⟩ := ok
  have hw := h.1
  have d4 : d < 4 := by
    have := hw.1.1
    omega
  obtain ⟨x, ex⟩ : ∃ x, x = 40 * d + mny σ d := ⟨_, rfl⟩
  have xm : x % 40 = mny σ d := by omega
  have xd : x / 40 = d := by omega
  have x160 : x < 160 := by omega
  obtain ⟨τ, eτ⟩ : ∃ τ, τ = doS σ d w t v n := ⟨_, rfl⟩
  have xn : x ∉ ln σ := fun z => by
    have := ((hw.p2 x).mp z).2
    rw [xm, xd] at this
    omega
  have ne : ∀ y, y ∈ ln σ → y ≠ x := fun y hy z => xn (z ▸ hy)
  have e1 : ∀ y, so τ y = if y = x then w else so σ y := fun y => by rw [eτ, ex]; rfl
  have e2 : ∀ y, sp τ y = if y = x then stpF σ d else sp σ y := fun y => by rw [eτ, ex]; rfl
  have e3 : ∀ y, tg τ y = if y = x then t else tg σ y := fun y => by rw [eτ, ex]; rfl
  have e4 : ∀ y, vl τ y = if y = x then v else vl σ y := fun y => by rw [eτ, ex]; rfl
  have e5 : ∀ y, nu τ y = if y = x then n else nu σ y := fun y => by rw [eτ, ex]; rfl
  have e6 : ∀ y, kn τ y = if y = x then rk σ d d else kn σ y := fun y => by rw [eτ, ex]; rfl
  have e7 : ∀ a b c, rk τ a b c = if a = d ∧ b = d ∧ c = d then mny σ d + 1 else rk σ a b c := fun a b c => by rw [eτ]; rfl
  have e8 : ∀ e, mny τ e = if e = d then mny σ d + 1 else mny σ e := fun e => by
    unfold mny
    rw [e7]
    by_cases q : e = d
    · rw [if_pos ⟨q, q, q⟩, if_pos q]
      rfl
    · rw [if_neg (fun z => q z.1), if_neg q]
  have e9 : ln τ = (ln σ).filter (fun y => !aft σ d y) ++ x :: (ln σ).filter (aft σ d) := by rw [eτ, ex]; rfl
  have mem : ∀ y, y ∈ ln τ ↔ y ∈ ln σ ∨ y = x := fun y => by
    rw [e9, List.mem_append, List.mem_cons, List.mem_filter, List.mem_filter]
    cases aft σ d y <;> simp [or_comm]
  have mle : ∀ e, mny σ e ≤ mny τ e := fun e => by
    rw [e8]
    split
    · rename_i q
      rw [q]
      omega
    · omega
  have rle : ∀ a b c, rk σ a b c ≤ rk τ a b c := fun a b c => by
    rw [e7]
    split
    · rename_i q
      rw [q.1, q.2.1, q.2.2]
      show mny σ d ≤ _
      omega
    · omega
  have rkd : rk σ d d d = mny σ d := rfl
  rw [← eτ]
  have old : ∀ y, y ∈ ln σ → so τ y = so σ y ∧ sp τ y = sp σ y ∧ tg τ y = tg σ y ∧ vl τ y = vl σ y ∧ nu τ y = nu σ y ∧ kn τ y = kn σ y := fun y hy => by
    rw [e1, e2, e3, e4, e5, e6, if_neg (ne y hy), if_neg (ne y hy), if_neg (ne y hy), if_neg (ne y hy), if_neg (ne y hy), if_neg (ne y hy)]
    exact ⟨rfl, rfl, rfl, rfl, rfl, rfl⟩
  have new : so τ x = w ∧ sp τ x = stpF σ d ∧ tg τ x = t ∧ vl τ x = v ∧ nu τ x = n ∧ kn τ x = rk σ d d := by
    rw [e1, e2, e3, e4, e5, e6, if_pos rfl, if_pos rfl, if_pos rfl, if_pos rfl, if_pos rfl, if_pos rfl]
    exact ⟨rfl, rfl, rfl, rfl, rfl, rfl⟩
  have ahO : ∀ y z, y ∈ ln σ → z ∈ ln σ → ahd τ y z = ahd σ y z := fun y z hy hz => by
    unfold ahd
    rw [(old y hy).2.1, (old z hz).2.1]
  have spx : ∀ y, y ∈ ln σ → y % 40 < rk σ d d (y / 40) → sp σ y < stpF σ d := fun y hy hk => by
    have y160 := ((hw.p2 y).mp hy).1
    have := stpF_gt (σ := σ) (d := d) (e := y / 40) (j := y % 40) (by omega) hk
    rwa [show 40 * (y / 40) + y % 40 = y by omega] at this
  have lenE : (ln τ).length = (ln σ).length + 1 := by
    have := congrArg List.length (srt_cut (aft σ d) _ hw.p3 (aft_up d))
    rw [List.length_append] at this
    rw [e9, List.length_append, List.length_cons]
    omega
  have kO : ∀ y z, y ∈ ln σ → knw τ y z = knw σ y z := fun y z hy => by
    unfold knw
    rw [(old y hy).2.2.2.2.2]
  have kX : ∀ z, knw τ x z = decide (z % 40 < rk σ d d (z / 40)) := fun z => by
    unfold knw
    rw [new.2.2.2.2.2]
  have kyx : ∀ y, y ∈ ln τ → knw τ y x = false := fun y hy => by
    rcases (mem y).mp hy with q | q
    · rw [kO y x q]
      unfold knw
      have := (hw.p11 y q).2.2 d
      rw [xm, xd]
      exact decide_eq_false (by omega)
    · rw [q, kX, xm, xd]
      exact decide_eq_false (by omega)
  refine ⟨⟨by rw [eτ]; exact hw.sgB_doS o2 o3 o4, fun y => ?_, ?_, fun y hy h0 h7 => ?_, fun y hy h0 => ?_, fun y hy h7 => ?_, fun y hy h5 => ?_, fun y hy h2 => ?_, fun y hy h6 => ?_, fun y z hy hz hk => ?_, fun y hy => ?_, fun a b c => ?_, ?_, fun y hy => ?_, ?_⟩, fun y hy h5 => ?_, fun y z hy hz hk e => ?_, fun a z hz hk e => ?_, fun y hy h7 => ?_⟩
  · rw [mem, hw.p2]
    constructor
    · rintro (⟨q1, q2⟩ | q)
      · exact ⟨q1, Nat.lt_of_lt_of_le q2 (mle _)⟩
      · rw [q, xm, xd, e8, if_pos rfl]
        exact ⟨x160, by omega⟩
    · rintro ⟨q1, q2⟩
      rw [e8] at q2
      split at q2
      · rename_i q
        by_cases q3 : y % 40 = mny σ d
        · right
          omega
        · left
          rw [q]
          exact ⟨q1, by omega⟩
      · exact Or.inl ⟨q1, q2⟩
  · rw [e9, List.pairwise_append, List.pairwise_cons]
    have pw : ∀ p : Nat → Bool, ((ln σ).filter p).Pairwise (fun y z => ahd τ y z = true) := fun p => by
      refine List.Pairwise.imp_of_mem ?_ (List.Pairwise.filter p hw.p3)
      intro y z hy hz hh
      rw [ahO y z (List.mem_filter.mp hy).1 (List.mem_filter.mp hz).1]
      exact hh
    have xa : ∀ z, z ∈ (ln σ).filter (aft σ d) → ahd τ x z = true := fun z hz => by
      obtain ⟨q1, q2⟩ := List.mem_filter.mp hz
      unfold ahd
      rw [new.2.1, (old z q1).2.1, xd]
      exact q2
    have ax : ∀ y, y ∈ (ln σ).filter (fun y => !aft σ d y) → ahd τ y x = true := fun y hy => by
      obtain ⟨q1, q2⟩ := List.mem_filter.mp hy
      unfold ahd
      rw [new.2.1, (old y q1).2.1, xd]
      simp [aft] at q2
      have y2 := (hw.p2 y).mp q1
      by_cases q : y / 40 = d
      · have := spx y q1 (by rw [q]; show _ < mny σ d; rw [← q]; exact y2.2)
        simp [this]
      · simp
        omega
    refine ⟨pw _, ⟨xa, pw _⟩, fun y hy z hz => ?_⟩
    rcases List.mem_cons.mp hz with hz | hz
    · rw [hz]
      exact ax y hy
    · exact ahd_tr (ax y hy) (xa z hz)
  · rcases (mem y).mp hy with q | q
    · obtain ⟨a1, -, a3, -⟩ := old y q
      rw [a1] at h0 h7
      obtain ⟨b1, b2, b3⟩ := hw.p4 y q h0 h7
      rw [a3, (old _ b2).1, kO y _ q, mem]
      exact ⟨b1, Or.inl b2, b3⟩
    · rw [q, new.1] at h0 h7
      obtain ⟨b1, b2, b3⟩ := o5 h0 h7
      rw [q, new.2.2.1, (old t b2).1, kX, mem]
      exact ⟨b1, Or.inl b2, decide_eq_true b3⟩
  · rcases (mem y).mp hy with q | q
    · obtain ⟨a1, -, a3, a4, a5, -⟩ := old y q
      rw [a1] at h0
      rw [a3, a4, a5]
      exact hw.p5 y q h0
    · rw [q, new.1] at h0
      rw [q, new.2.2.1, new.2.2.2.1, new.2.2.2.2.1, ex]
      exact o6 h0
  · rcases (mem y).mp hy with q | q
    · obtain ⟨a1, -, a3, -⟩ := old y q
      rw [a1] at h7
      rw [a3]
      exact hw.p6 y q h7
    · rw [q, new.1] at h7
      rw [q, new.2.2.1, xm]
      exact (o7 h7).1
  · rcases (mem y).mp hy with q | q
    · obtain ⟨a1, -, a3, a4, -⟩ := old y q
      rw [a1] at h5
      rw [a4]
      exact hw.p7 y q h5
    · rw [q, new.1] at h5
      rw [q, new.2.2.2.1]
      exact (o8 h5).1
  · rcases (mem y).mp hy with q | q
    · obtain ⟨a1, -, a3, a4, -⟩ := old y q
      rw [a1] at h2
      rw [a4]
      exact hw.p8 y q h2
    · rw [q, new.1] at h2
      rw [q, new.2.2.2.1]
      exact o9 h2
  · rcases (mem y).mp hy with q | q
    · obtain ⟨a1, -, a3, a4, -⟩ := old y q
      rw [a1] at h6
      rw [a4]
      exact hw.p9 y q h6
    · rw [q, new.1] at h6
      rw [q, new.2.2.2.1]
      exact o10 h6
  · rcases (mem z).mp hz with q | q
    · rcases (mem y).mp hy with p | p
      · rw [kO y z p] at hk
        rw [(old y p).2.1, (old z q).2.1]
        exact hw.p10 y z p q hk
      · rw [p, kX] at hk
        rw [p, new.2.1, (old z q).2.1]
        exact spx z q (of_decide_eq_true hk)
    · rw [q, kyx y hy] at hk
      cases hk
  · rcases (mem y).mp hy with q | q
    · obtain ⟨-, a2, -, -, -, a6⟩ := old y q
      rw [a2, a6]
      obtain ⟨b1, b2, b3⟩ := hw.p11 y q
      exact ⟨b1, b2, fun e => Nat.le_trans (b3 e) (mle e)⟩
    · rw [q, new.2.1, new.2.2.2.2.2, xm, xd]
      exact ⟨rfl, stpF_pos σ d, fun e => Nat.le_trans (hw.p12 d d e).1 (mle e)⟩
  · obtain ⟨b1, b2, b3⟩ := hw.p12 a b c
    refine ⟨?_, ?_, fun z => ?_⟩
    · rw [e7]
      split
      · rename_i q
        rw [q.2.2, e8, if_pos rfl]
        omega
      · exact Nat.le_trans b1 (mle c)
    · rw [e7 a b c]
      split
      · rename_i q
        rw [q.2.1, q.2.2, e7, if_pos ⟨rfl, rfl, rfl⟩]
        omega
      · exact Nat.le_trans b2 (rle b b c)
    · have z' : nd σ ≤ a ∨ nd σ ≤ b ∨ nd σ ≤ c := by rw [eτ] at z; exact z
      rw [e7, if_neg (by omega)]
      exact b3 z'
  · rw [lenE, hw.p13, e8, e8, e8, e8]
    rcases (show d = 0 ∨ d = 1 ∨ d = 2 ∨ d = 3 by omega) with q | q | q | q <;> rw [q] <;> simp <;> omega
  · rw [lenE]
    rcases (mem y).mp hy with q | q
    · rw [(old y q).2.1]
      have := hw.p14 y q
      omega
    · rw [q, new.2.1]
      exact hw.stp d
  · have e10 : vd τ = vd σ ∧ vn τ = vn σ ∧ nd τ = nd σ := by rw [eτ]; exact ⟨rfl, rfl, rfl⟩
    rw [e10.1, e10.2.1, e10.2.2]
    rcases hw.p15 with q | ⟨a, q1, q2, q3⟩
    · exact Or.inl q
    · refine Or.inr ⟨a, q1, q2, ?_⟩
      rcases q3 with q3 | ⟨m, q4, q5⟩
      · exact Or.inl q3
      · exact Or.inr ⟨m, Nat.lt_of_lt_of_le q4 (mle a), q5⟩
  · rcases (mem y).mp hy with q | q
    · obtain ⟨a1, -, a3, a4, -⟩ := old y q
      rw [a1] at h5
      rw [a3, a4]
      exact h.2.1 y q h5
    · rw [q, new.1] at h5
      rw [q, new.2.2.1, new.2.2.2.1]
      exact (o8 h5).2
  · rcases (mem z).mp hz with q | q
    · rcases (mem y).mp hy with p | p
      · rw [kO y z p] at hk
        rw [(old y p).2.2.2.2.2, (old z q).2.2.2.2.2]
        exact h.2.2.1 y z p q hk e
      · rw [p, kX] at hk
        rw [p, new.2.2.2.2.2, (old z q).2.2.2.2.2]
        exact h.2.2.2.1 d z q (of_decide_eq_true hk) e
    · rw [q, kyx y hy] at hk
      cases hk
  · rcases (mem z).mp hz with q | q
    · rw [(old z q).2.2.2.2.2]
      refine Nat.le_trans (h.2.2.2.1 a z q ?_ e) (rle a a e)
      rw [e7] at hk
      split at hk
      · rename_i q3
        have := ((hw.p2 z).mp q).2
        rw [q3.1, q3.2.2]
        show _ < mny σ d
        rw [← q3.2.2]
        exact this
      · exact hk
    · rw [q, xm, xd, e7] at hk
      rw [q, new.2.2.2.2.2]
      by_cases q3 : a = d
      · rw [q3]
        exact rle d d e
      · rw [if_neg (fun z => q3 z.1)] at hk
        have := (hw.p12 a a d).1
        omega
  · rcases (mem y).mp hy with q | q
    · obtain ⟨a1, -, a3, -⟩ := old y q
      rw [a1] at h7
      rw [a3, ← h.2.2.2.2 y q h7]
      refine bkF_cg _ _ (fun j hj => ?_)
      rw [e1, if_neg]
      intro z
      have := ((hw.p2 y).mp q).2
      by_cases q3 : y / 40 = d
      · rw [q3] at this
        omega
      · omega
    · rw [q, new.1] at h7
      rw [q, new.2.2.1, xm, xd, ← (o7 h7).2]
      refine bkF_cg _ _ (fun j hj => ?_)
      rw [e1, if_neg (by omega)]
theorem mtS_mny (h : WF σ) {a b : Nat} (e : Nat) : mny (mtS σ a b) e = mny σ e := by
  show (if e = a ∨ e = b then mtV σ a b e e else rk σ e e e) = rk σ e e e
  by_cases q : e = a ∨ e = b
  · rw [if_pos q]
    unfold mtV
    rw [if_pos q]
    have h1 := (h.p12 a a e).1
    have h2 := (h.p12 b b e).1
    unfold mny at h1 h2
    rcases q with q | q
    · rw [← q]
      omega
    · rw [← q]
      omega
  · rw [if_neg q]
theorem mtS_W2 (h : W2 σ) {a b : Nat} (ha : a < nd σ) (hb : b < nd σ) : W2 (mtS σ a b) := by
  have hw := h.1
  have em := mtS_mny (a := a) (b := b) hw
  have e7 : ∀ d f e, rk (mtS σ a b) d f e = if d = a ∨ d = b then mtV σ a b f e else rk σ d f e := fun _ _ _ => rfl
  refine ⟨⟨⟨hw.1.1, fun d f e => ?_, hw.1.2.2⟩, fun y => by rw [em]; exact hw.p2 y, hw.p3, hw.p4, hw.p5, hw.p6, hw.p7, hw.p8, hw.p9, hw.p10, fun y hy => ⟨(hw.p11 y hy).1, (hw.p11 y hy).2.1, fun e => by rw [em]; exact (hw.p11 y hy).2.2 e⟩, fun d f e => ⟨?_, ?_, fun z => ?_⟩, by rw [em, em, em, em]; exact hw.p13, hw.p14, ?_⟩, h.2.1, h.2.2.1, fun d z hz hk e => ?_, fun y hy h7 => ?_⟩
  · rw [e7]
    split
    · exact mtV_le hw.1.2.1 a b f e
    · exact hw.1.2.1 d f e
  · rw [em, e7]
    have h1 := (hw.p12 a a e).1
    have h2 := (hw.p12 b b e).1
    have h3 := (hw.p12 a f e).1
    have h4 := (hw.p12 b f e).1
    split
    · unfold mtV
      split <;> omega
    · exact (hw.p12 d f e).1
  · rw [e7, e7]
    have h3 := (hw.p12 a f e).2.1
    have h4 := (hw.p12 b f e).2.1
    have h5 := (hw.p12 d f e).2.1
    unfold mtV
    by_cases q : f = a ∨ f = b
    · rw [if_pos q, if_pos q]
      split
      · omega
      · rcases q with q | q
        · rw [q] at h5 ⊢
          omega
        · rw [q] at h5 ⊢
          omega
    · rw [if_neg q, if_neg q]
      split <;> omega
  · have z' : nd σ ≤ d ∨ nd σ ≤ f ∨ nd σ ≤ e := z
    rw [e7]
    split
    · unfold mtV
      split
      · rename_i q1 q2
        have ze : nd σ ≤ e := by omega
        rw [(hw.p12 a a e).2.2 (Or.inr (Or.inr ze)), (hw.p12 b b e).2.2 (Or.inr (Or.inr ze))]
        rfl
      · rename_i q1 q2
        have ze : nd σ ≤ f ∨ nd σ ≤ e := by omega
        rw [(hw.p12 a f e).2.2 (Or.inr ze), (hw.p12 b f e).2.2 (Or.inr ze)]
        rfl
    · exact (hw.p12 d f e).2.2 z'
  · rcases hw.p15 with q | ⟨c, q1, q2, q3⟩
    · exact Or.inl q
    · refine Or.inr ⟨c, q1, q2, ?_⟩
      rcases q3 with q3 | ⟨m, q4, q5⟩
      · exact Or.inl q3
      · exact Or.inr ⟨m, by rw [em]; exact q4, q5⟩
  · show kn σ z e ≤ _
    rw [e7] at hk ⊢
    split at hk
    · rename_i q
      rw [if_pos q]
      unfold mtV at hk ⊢
      rw [if_pos q] at hk ⊢
      rcases (show z % 40 < rk σ a a (z / 40) ∨ z % 40 < rk σ b b (z / 40) by omega) with q2 | q2
      · have := h.2.2.2.1 a z hz q2 e
        omega
      · have := h.2.2.2.1 b z hz q2 e
        omega
    · rename_i q
      rw [if_neg q]
      exact h.2.2.2.1 d z hz hk e
  · rw [show tg (mtS σ a b) y = tg σ y from rfl, ← h.2.2.2.2 y hy h7]
    exact bkF_cg _ _ (fun j hj => rfl)
theorem addD_W2 (h : W2 σ) (h4 : nd σ < 4) : W2 (addD σ) := by
  have hw := h.1
  refine ⟨⟨⟨by show nd σ + 1 ≤ 4; omega, hw.1.2⟩, hw.p2, hw.p3, hw.p4, hw.p5, hw.p6, hw.p7, hw.p8, hw.p9, hw.p10, hw.p11, fun d f e => ⟨(hw.p12 d f e).1, (hw.p12 d f e).2.1, fun z => (hw.p12 d f e).2.2 ?_⟩, hw.p13, hw.p14, ?_⟩, h.2.1, h.2.2.1, h.2.2.2.1, fun y hy h7 => ?_⟩
  · have z' : nd σ + 1 ≤ d ∨ nd σ + 1 ≤ f ∨ nd σ + 1 ≤ e := z
    omega
  · rcases hw.p15 with q | ⟨c, q1, q2, q3⟩
    · exact Or.inl q
    · exact Or.inr ⟨c, by show c < nd σ + 1; omega, q2, q3⟩
  · rw [show tg (addD σ) y = tg σ y from rfl, ← h.2.2.2.2 y hy h7]
    exact bkF_cg _ _ (fun j hj => rfl)
theorem setV_W2 (h : W2 σ) {d : Nat} {n : Int32} (hd : d < nd σ) (hn : n = -1 ∨ ∃ m, m < mny σ d ∧ n = nI m) : W2 (setV σ (nI d) n) := by
  have hw := h.1
  refine ⟨⟨hw.1, hw.p2, hw.p3, hw.p4, hw.p5, hw.p6, hw.p7, hw.p8, hw.p9, hw.p10, hw.p11, hw.p12, hw.p13, hw.p14, Or.inr ⟨d, hd, rfl, hn⟩⟩, h.2.1, h.2.2.1, h.2.2.2.1, fun y hy h7 => ?_⟩
  rw [show tg (setV σ (nI d) n) y = tg σ y from rfl, ← h.2.2.2.2 y hy h7]
  exact bkF_cg _ _ (fun j hj => rfl)
end
