/-! the component: devices meet; a new device -/
theorem mtW_eq {σ : Sg} (h : WF σ) (a b f e : Nat) : mtW (rk σ) a b f e = mtV σ a b f e := by
  have := (h.p12 b a e).2.1
  unfold mtW mtV
  split
  · omega
  · rfl
theorem mtV_comm (σ : Sg) (a b f e : Nat) : mtV σ a b f e = mtV σ b a f e := by
  unfold mtV
  by_cases q : f = a ∨ f = b
  · rw [if_pos q, if_pos q.symm, Nat.max_comm]
  · rw [if_neg q, if_neg (fun z => q z.symm), Nat.max_comm]
theorem mtS_comm (σ : Sg) (a b : Nat) : mtS σ a b = mtS σ b a := by
  unfold mtS
  congr 3
  funext d f e
  by_cases q : d = a ∨ d = b
  · rw [if_pos q, if_pos q.symm, mtV_comm]
  · rw [if_neg q, if_neg (fun z => q z.symm)]
theorem CI_mt {σ : Sg} {F : CF} {B B' : CB} {C : CC} {E : Nat → Nat → Bool} (h : CI σ F B C E) (hW : W2 σ) {a b : Nat} (ha : a < nd σ) (hb : b < nd σ) (g1 : ∀ a' i', ¬ (a' = 17 ∧ (i' / 4 = a ∨ i' / 4 = b)) → B' a' i' = B a' i') (g2 : ∀ f e, f < 4 → e < 4 → B' 17 (4 * a + f) e = nI (mtW (rk σ) a b f e) ∧ B' 17 (4 * b + f) e = nI (mtW (rk σ) a b f e)) : CI (mtS σ a b) F B' C E := by
  have hW' := mtS_W2 hW ha hb
  obtain ⟨see, ⟨i1, i2, i3, i4, i5, i6, i7, i8, i9, i10, i11, i12⟩, h2, h3⟩ := h
  have h2' : okS (mtS σ a b) see := fun e => by
    rw [mtS_mny hW.1]
    exact h2 e
  obtain ⟨l1, l2, l3, l4, l5, l6, l7, l8, l9⟩ := i4
  refine ⟨see, ⟨i1, i2, i3, ⟨l1, l2, l3, l4, l5, l6, l7, fun x hx => ?_, l9⟩, i5, i6, i7, i8, i9, i10, fun d hd => ?_, i12⟩, h2', ?_⟩
  · obtain ⟨a1, a2, a3, a4⟩ := l8 x hx
    refine ⟨a1, a2, a3, ?_⟩
    rw [g1 19 x (by omega)]
    exact a4
  · obtain ⟨a1, a2, a3, a4, a5⟩ := i11 d hd
    refine ⟨a1, a2, a3, a4, fun f hf => ⟨(a5 f hf).1, fun e he => ?_⟩⟩
    have e7 : rk (mtS σ a b) d f e = if d = a ∨ d = b then mtV σ a b f e else rk σ d f e := rfl
    rw [e7]
    by_cases q : d = a ∨ d = b
    · rw [if_pos q]
      refine ⟨?_, mtV_le hW.1.1.2.1 a b f e⟩
      rw [← mtW_eq hW.1]
      rcases q with q | q
      · rw [q]
        exact (g2 f e hf he).1
      · rw [q]
        exact (g2 f e hf he).2
    · rw [if_neg q, g1 17 _ (by omega)]
      exact (a5 f hf).2 e he
  · exact (h3.agr (τ := mtS σ a b) ⟨rfl, rfl, fun _ _ => ⟨rfl, rfl, rfl, rfl, rfl, rfl⟩⟩ hW.1 h2).fr hW'.1 h2' (fun _ _ _ _ => rfl) (g1 6 0 (by omega)) ⟨rfl, rfl⟩ (fun _ _ _ => rfl)
theorem CI_add {σ : Sg} {F F' : CF} {B B' : CB} {C C' : CC} {E E' : Nat → Nat → Bool} (h : CI σ F B C E) (hW : W2 σ) (hn : nd σ < 4) (hF : ∀ a i k, ¬ (a = 15 ∧ i = nd σ) → ¬ (a = 0 ∧ i = 0 ∧ k = 2) → F' a i k = F a i k) (hF1 : F' 15 (nd σ) 0 = nI (nd σ)) (hF2 : F' 0 0 2 = nI (nd σ + 1)) (hB : ∀ a i, ¬ (a = 17 ∧ i / 4 = nd σ) → B' a i = B a i) (hB0 : ∀ f e, f < 4 → B' 17 (4 * nd σ + f) e = 0) (hC : ∀ a k, ¬ (a = 1 ∧ k = nd σ) → C' a k = C a k) (hC1 : C' 1 (nd σ) = some (15, nd σ)) (hE : ∀ a i, ¬ ((a = 15 ∨ a = 16) ∧ i = nd σ) → ¬ (a = 17 ∧ i / 4 = nd σ) → E' a i = E a i) (e15 : E' 15 (nd σ) = true) (e16 : E' 16 (nd σ) = true) (e17 : ∀ f, f < 4 → E' 17 (4 * nd σ + f) = true) : CI (addD σ) F' B' C' E' := by
  have hW' := addD_W2 hW hn
  obtain ⟨see, ⟨i1, i2, i3, i4, i5, i6, i7, i8, i9, i10, i11, i12⟩, h2, h3⟩ := h
  obtain ⟨l1, l2, l3, l4, l5, l6, l7, l8, l9⟩ := i4
  have eE : ∀ a i, a ≠ 15 → a ≠ 16 → a ≠ 17 → E' a i = E a i := fun a i x1 x2 x3 => hE a i (by omega) (by omega)
  have eC : ∀ a, a ≠ 1 → C' a = C a := fun a ha => funext fun k => hC a k (by omega)
  have eF : ∀ a i k, a ≠ 15 → a ≠ 0 → F' a i k = F a i k := fun a i k x1 x2 => hF a i k (by omega) (by omega)
  have end' : nd (addD σ) = nd σ + 1 := rfl
  refine ⟨see, ⟨by rw [eE 0 0 (by omega) (by omega) (by omega)]; exact i1, fun i => by rw [eE 1 i (by omega) (by omega) (by omega)]; exact i2 i, ?_, ⟨by rw [eE 2 0 (by omega) (by omega) (by omega)]; exact l1, fun i => by rw [eE 3 i (by omega) (by omega) (by omega)]; exact l2 i, fun i => by rw [eE 4 i (by omega) (by omega) (by omega)]; exact l3 i, by rw [eF 2 0 2 (by omega) (by omega)]; exact l4, l5, by rw [eC 4 (by omega)]; exact l6, by rw [eC 3 (by omega)]; exact l7, fun x hx => ?_, fun x hx hnx => by rw [eE 18 x (by omega) (by omega) (by omega), eE 19 x (by omega) (by omega) (by omega)]; exact l9 x hx hnx⟩, by rw [hF 0 0 0 (by omega) (by omega)]; exact i5, hF2, by rw [hF 0 0 5 (by omega) (by omega)]; exact i7, by rw [hF 0 0 6 (by omega) (by omega)]; exact i8, by rw [eF 5 0 0 (by omega) (by omega)]; exact i9, fun d hd => ?_, fun d hd => ?_, fun d hd hnd => ?_⟩, h2, ?_⟩
  · obtain ⟨pa, pb, pc, pd⟩ := i3
    refine ⟨by rw [eE 5 0 (by omega) (by omega) (by omega)]; exact pa, by rw [eE 6 0 (by omega) (by omega) (by omega)]; exact pb, by rw [eE 7 0 (by omega) (by omega) (by omega)]; exact pc, fun a ha i => ?_⟩
    rw [eE a i (by omega) (by omega) (by omega)]
    exact pd a ha i
  · obtain ⟨a1, a2, a3, a4⟩ := l8 x hx
    refine ⟨a1, by rw [eE 18 x (by omega) (by omega) (by omega)]; exact a2, by rw [eE 19 x (by omega) (by omega) (by omega)]; exact a3, ?_⟩
    rw [eF 18 x 0 (by omega) (by omega), eF 18 x 1 (by omega) (by omega), eF 18 x 2 (by omega) (by omega), eF 18 x 3 (by omega) (by omega), eF 18 x 4 (by omega) (by omega), eF 18 x 5 (by omega) (by omega), eF 18 x 6 (by omega) (by omega), hB 19 x (by omega)]
    exact a4
  · rw [end']
    by_cases q : d = nd σ
    · rw [q, hC1, if_pos (by omega)]
    · rw [hC 1 d (by omega), i10 d hd]
      by_cases q2 : d < nd σ
      · rw [if_pos q2, if_pos (by omega)]
      · rw [if_neg q2, if_neg (by omega)]
  · have hd' : d < nd σ + 1 := hd
    by_cases q : d = nd σ
    · rw [q]
      refine ⟨hn, e15, e16, hF1, fun f hf => ⟨e17 f hf, fun e he => ?_⟩⟩
      have z : rk (addD σ) (nd σ) f e = 0 := (hW.1.p12 (nd σ) f e).2.2 (Or.inl (Nat.le_refl _))
      rw [z, hB0 f e hf]
      exact ⟨rfl, Nat.zero_le _⟩
    · obtain ⟨a1, a2, a3, a4, a5⟩ := i11 d (by omega)
      refine ⟨a1, by rw [hE 15 d (by omega) (by omega)]; exact a2, by rw [hE 16 d (by omega) (by omega)]; exact a3, by rw [hF 15 d 0 (by omega) (by omega)]; exact a4, fun f hf => ?_⟩
      rw [hE 17 _ (by omega) (by omega), hB 17 _ (by omega)]
      exact a5 f hf
  · have hnd' : nd σ + 1 ≤ d := hnd
    obtain ⟨a1, a2, a3⟩ := i12 d hd (by omega)
    rw [hE 15 d (by omega) (by omega), hE 16 d (by omega) (by omega)]
    refine ⟨a1, a2, fun f hf => ?_⟩
    rw [hE 17 _ (by omega) (by omega)]
    exact a3 f hf
  · exact (h3.agr (τ := addD σ) ⟨rfl, rfl, fun _ _ => ⟨rfl, rfl, rfl, rfl, rfl, rfl⟩⟩ hW.1 h2).fr hW'.1 h2 (fun a i k ha => hF a i k (by omega) (by omega)) (hB 6 0 (by omega)) ⟨eC 9 (by omega), eC 14 (by omega)⟩ (fun a i ha => eE a i (by omega) (by omega) (by omega))
section
variable {F : CF} {B : CB} {C : CC} {Wr : Nat → Option Nd} {E : Nat → Nat → Bool} {r : AH} {Q : Option AV → AH → Prop} {h : AH} {σ : Sg} {see m : Nat → Nat}
theorem c_Pl_meet {a b : Int32} (hW : W2 σ) (hI : CI σ F B C E) (hq : ∀ (F' : CF) (B' : CB) (C' : CC) (Wr' : Nat → Option Nd) (E' : Nat → Nat → Bool), CI (sMeet σ a b).1 F' B' C' E' → Q (some (.inl (sMeet σ a b).2)) (cH F' B' C' Wr' E' r)) : X M_Pl_meet (rmo M_Pl_meet 0 0) (Zm Q 0 0) 0 (ini M_Pl_meet [.inr (some (0, 0)), .inl a, .inl b]) [] (cH F B C Wr E r) 0 0 := by
  have hw := hW.1
  have h4 := hw.1.1
  obtain ⟨see0, hCD⟩ := id hI
  have hB := hCD.1
  have h0 := hB.1
  have no : (isD σ a && isD σ b && decide (a ≠ b)) = false → Q (some (.inl (-1))) (cH F B C Wr E r) := fun hc => by
    have := hq F B C Wr E
    unfold sMeet at this
    rw [hc] at this
    exact this hI
  show X M_Pl_meet _ _ 0 [some (.inr (some (0, 0))), some (.inl (a)), some (.inl (b)), none, none] [] (cH F B C Wr E r) 0 0
  refine X_run 2 (pc' := 2) (L' := [some (.inr (some (0, 0))), some (.inl (a)), some (.inl (b)), none, none]) (st' := [.inl (a), .inr (some (0, 0))]) rfl ?_
  refine X_callV (vs := [.inl (a)]) (st := []) (mc := 0) (ms := 0) rfl ok_Pl_findDevice v_Pl_45 (cH_obj rfl (by assumption)) rfl rfl (Nat.le_of_ble_eq_true rfl) (Nat.le_of_ble_eq_true rfl) (Nat.le_of_ble_eq_true rfl) (Nat.le_of_ble_eq_true rfl) (Nat.le_of_ble_eq_true rfl) (Nat.le_of_ble_eq_true rfl) rfl ?_
  refine c_Pl_findDevice hB h4 (fun k hk ek => ?_) (fun hno => ?_)
  rotate_left
  · show X M_Pl_meet _ _ 5 [some (.inr (some (0, 0))), some (.inl (a)), some (.inl (b)), none, none] [.inr none] (cH F B C Wr E r) 0 0
    refine X_run 3 (pc' := 8) (L' := [some (.inr (some (0, 0))), some (.inl (a)), some (.inl (b)), some (.inr none), none]) (st' := [.inl (b), .inr (some (0, 0))]) rfl ?_
    refine X_callV (vs := [.inl (b)]) (st := []) (mc := 0) (ms := 0) rfl ok_Pl_findDevice v_Pl_45 (cH_obj rfl (by assumption)) rfl rfl (Nat.le_of_ble_eq_true rfl) (Nat.le_of_ble_eq_true rfl) (Nat.le_of_ble_eq_true rfl) (Nat.le_of_ble_eq_true rfl) (Nat.le_of_ble_eq_true rfl) (Nat.le_of_ble_eq_true rfl) rfl ?_
    refine c_Pl_findDevice hB h4 (fun j hj ej => ?_) (fun hno2 => ?_)
    · show X M_Pl_meet _ _ 11 [some (.inr (some (0, 0))), some (.inl (a)), some (.inl (b)), some (.inr none), none] [.inr (some (15, j))] (cH F B C Wr E r) 0 0
      refine X_run 2 (pc' := 14) (L' := [some (.inr (some (0, 0))), some (.inl (a)), some (.inl (b)), some (.inr none), some (.inr (some (15, j)))]) (st' := [.inr none]) rfl ?_
      refine X_ifnull (tgt := 27) (nx := 17) rfl rfl rfl (fun n1 => ?_) (fun nn n1 => ?_)
      · refine X_run 1 (pc' := 28) (L' := [some (.inr (some (0, 0))), some (.inl (a)), some (.inl (b)), some (.inr none), some (.inr (some (15, j)))]) (st' := [.inl (-1)]) rfl ?_
        exact X_iret rfl rfl rfl (Nat.le_refl _) (Nat.le_refl _) (no (by rw [hno]; rfl))
      · cases n1
    · show X M_Pl_meet _ _ 11 [some (.inr (some (0, 0))), some (.inl (a)), some (.inl (b)), some (.inr none), none] [.inr none] (cH F B C Wr E r) 0 0
      refine X_run 2 (pc' := 14) (L' := [some (.inr (some (0, 0))), some (.inl (a)), some (.inl (b)), some (.inr none), some (.inr none)]) (st' := [.inr none]) rfl ?_
      refine X_ifnull (tgt := 27) (nx := 17) rfl rfl rfl (fun n1 => ?_) (fun nn n1 => ?_)
      · refine X_run 1 (pc' := 28) (L' := [some (.inr (some (0, 0))), some (.inl (a)), some (.inl (b)), some (.inr none), some (.inr none)]) (st' := [.inl (-1)]) rfl ?_
        exact X_iret rfl rfl rfl (Nat.le_refl _) (Nat.le_refl _) (no (by rw [hno]; rfl))
      · cases n1
  show X M_Pl_meet _ _ 5 [some (.inr (some (0, 0))), some (.inl (a)), some (.inl (b)), none, none] [.inr (some (15, k))] (cH F B C Wr E r) 0 0
  refine X_run 3 (pc' := 8) (L' := [some (.inr (some (0, 0))), some (.inl (a)), some (.inl (b)), some (.inr (some (15, k))), none]) (st' := [.inl (b), .inr (some (0, 0))]) rfl ?_
  refine X_callV (vs := [.inl (b)]) (st := []) (mc := 0) (ms := 0) rfl ok_Pl_findDevice v_Pl_45 (cH_obj rfl (by assumption)) rfl rfl (Nat.le_of_ble_eq_true rfl) (Nat.le_of_ble_eq_true rfl) (Nat.le_of_ble_eq_true rfl) (Nat.le_of_ble_eq_true rfl) (Nat.le_of_ble_eq_true rfl) (Nat.le_of_ble_eq_true rfl) rfl ?_
  refine c_Pl_findDevice hB h4 (fun j hj ej => ?_) (fun hno2 => ?_)
  rotate_left
  · show X M_Pl_meet _ _ 11 [some (.inr (some (0, 0))), some (.inl (a)), some (.inl (b)), some (.inr (some (15, k))), none] [.inr none] (cH F B C Wr E r) 0 0
    refine X_run 2 (pc' := 14) (L' := [some (.inr (some (0, 0))), some (.inl (a)), some (.inl (b)), some (.inr (some (15, k))), some (.inr none)]) (st' := [.inr (some (15, k))]) rfl ?_
    refine X_ifnull (tgt := 27) (nx := 17) rfl rfl rfl (fun n1 => ?_) (fun nn n1 => ?_)
    · cases n1
    · refine X_run 1 (pc' := 19) (L' := [some (.inr (some (0, 0))), some (.inl (a)), some (.inl (b)), some (.inr (some (15, k))), some (.inr none)]) (st' := [.inr none]) rfl ?_
      refine X_ifnull (tgt := 27) (nx := 22) rfl rfl rfl (fun n2 => ?_) (fun nn n2 => ?_)
      · refine X_run 1 (pc' := 28) (L' := [some (.inr (some (0, 0))), some (.inl (a)), some (.inl (b)), some (.inr (some (15, k))), some (.inr none)]) (st' := [.inl (-1)]) rfl ?_
        exact X_iret rfl rfl rfl (Nat.le_refl _) (Nat.le_refl _) (no (by rw [hno2]; simp))
      · cases n2
  show X M_Pl_meet _ _ 11 [some (.inr (some (0, 0))), some (.inl (a)), some (.inl (b)), some (.inr (some (15, k))), none] [.inr (some (15, j))] (cH F B C Wr E r) 0 0
  refine X_run 2 (pc' := 14) (L' := [some (.inr (some (0, 0))), some (.inl (a)), some (.inl (b)), some (.inr (some (15, k))), some (.inr (some (15, j)))]) (st' := [.inr (some (15, k))]) rfl ?_
  refine X_ifnull (tgt := 27) (nx := 17) rfl rfl rfl (fun n1 => ?_) (fun nn n1 => ?_)
  · cases n1
  · refine X_run 1 (pc' := 19) (L' := [some (.inr (some (0, 0))), some (.inl (a)), some (.inl (b)), some (.inr (some (15, k))), some (.inr (some (15, j)))]) (st' := [.inr (some (15, j))]) rfl ?_
    refine X_ifnull (tgt := 27) (nx := 22) rfl rfl rfl (fun n2 => ?_) (fun nn n2 => ?_)
    · cases n2
    · refine X_run 2 (pc' := 24) (L' := [some (.inr (some (0, 0))), some (.inl (a)), some (.inl (b)), some (.inr (some (15, k))), some (.inr (some (15, j)))]) (st' := [.inl (b), .inl (a)]) rfl ?_
      refine X_ic_ne (tgt := 29) (nx := 27) rfl rfl rfl (fun n3 => ?_) (fun n3 => ?_)
      rotate_left
      · refine X_run 1 (pc' := 28) (L' := [some (.inr (some (0, 0))), some (.inl (a)), some (.inl (b)), some (.inr (some (15, k))), some (.inr (some (15, j)))]) (st' := [.inl (-1)]) rfl ?_
        exact X_iret rfl rfl rfl (Nat.le_refl _) (Nat.le_refl _) (no (by rw [decide_eq_false (fun z => z n3)]; simp))
      have kj : k ≠ j := fun z => n3 (by rw [ek, ej, z])
      have kc : a.toNatClampNeg = k := by rw [ek]; exact nI_clamp (by omega)
      have jc : b.toNatClampNeg = j := by rw [ej]; exact nI_clamp (by omega)
      have hyes : (isD σ a && isD σ b && decide (a ≠ b)) = true := by rw [ek, ej, isD_nI (by omega), isD_nI (by omega), decide_eq_true hk, decide_eq_true hj, ← ek, ← ej, decide_eq_true n3]; rfl
      have dk := hB.2.2.2.2.2.2.2.2.2.2.1 k hk
      have dj := hB.2.2.2.2.2.2.2.2.2.2.1 j hj
      have k15 := dk.2.1
      refine X_run 2 (pc' := 32) (L' := [some (.inr (some (0, 0))), some (.inl (a)), some (.inl (b)), some (.inr (some (15, k))), some (.inr (some (15, j)))]) (st' := [.inr (some (15, j)), .inr (some (15, k))]) rfl ?_
      refine X_callV (vs := [.inr (some (15, j))]) (st := []) (mc := 0) (ms := 0) rfl ok_Dv_meetWith v_Pl_52 (cH_obj rfl (by assumption)) rfl rfl (Nat.le_of_ble_eq_true rfl) (Nat.le_of_ble_eq_true rfl) (Nat.le_of_ble_eq_true rfl) (Nat.le_of_ble_eq_true rfl) (Nat.le_of_ble_eq_true rfl) (Nat.le_of_ble_eq_true rfl) rfl ?_
      refine c_Dv_meetWith dk dj kj (fun B1 g1 g2 => ?_)
      have hI1 := CI_mt hI hW hk hj g1 g2
      obtain ⟨see1, hCD1⟩ := id hI1
      obtain ⟨k4, h15, h16, hn15, hr⟩ := hCD1.1.2.2.2.2.2.2.2.2.2.2.1 k hk
      show X M_Pl_meet _ _ 35 [some (.inr (some (0, 0))), some (.inl (a)), some (.inl (b)), some (.inr (some (15, k))), some (.inr (some (15, j)))] [] (cH F B1 C Wr E r) 0 0
      refine X_run 1 (pc' := 36) (L' := [some (.inr (some (0, 0))), some (.inl (a)), some (.inl (b)), some (.inr (some (15, k))), some (.inr (some (15, j)))]) (st' := [.inr (some (15, k))]) rfl ?_
      refine X_callV (vs := []) (st := []) (mc := 0) (ms := 0) rfl ok_Dv_known v_Pl_59 (cH_obj rfl (by assumption)) rfl rfl (Nat.le_of_ble_eq_true rfl) (Nat.le_of_ble_eq_true rfl) (Nat.le_of_ble_eq_true rfl) (Nat.le_of_ble_eq_true rfl) (Nat.le_of_ble_eq_true rfl) (Nat.le_of_ble_eq_true rfl) rfl ?_
      refine c_Dv_known k4 h15 h16 hn15 ?_
      show X M_Pl_meet _ _ 39 [some (.inr (some (0, 0))), some (.inl (a)), some (.inl (b)), some (.inr (some (15, k))), some (.inr (some (15, j)))] [.inr (some (17, 4 * k + k))] (cH F B1 C Wr E r) 0 0
      refine X_callS (vs := [.inr (some (17, 4 * k + k))]) (st := []) (mc := 0) (ms := 0) rfl ok_Pl_sumOf s_Pl_63 rfl rfl (Nat.le_of_ble_eq_true rfl) (Nat.le_of_ble_eq_true rfl) (Nat.le_of_ble_eq_true rfl) (Nat.le_of_ble_eq_true rfl) (Nat.le_of_ble_eq_true rfl) (Nat.le_of_ble_eq_true rfl) rfl ?_
      refine c_Pl_sumOf (m := mtV σ k j k) ⟨rfl, rfl⟩ (hr k k4).1 rfl (fun e he => by rw [(g2 k e k4 he).1, mtW_eq hw]) ?_
      show X M_Pl_meet _ _ 42 [some (.inr (some (0, 0))), some (.inl (a)), some (.inl (b)), some (.inr (some (15, k))), some (.inr (some (15, j)))] [.inl (nI ((List.range 4).foldl (fun n e => n + mtV σ k j k e) 0))] (cH F B1 C Wr E r) 0 0
      refine X_iret rfl rfl rfl (Nat.le_refl _) (Nat.le_refl _) ?_
      have := hq F B1 C Wr E
      unfold sMeet at this
      rw [hyes, kc, jc] at this
      exact this hI1
theorem c_Pl_device {f : Int32} (hW : W2 σ) (hI : CI σ F B C E) (hq : ∀ (F' : CF) (B' : CB) (C' : CC) (Wr' : Nat → Option Nd) (E' : Nat → Nat → Bool), CI (sDev σ f).1 F' B' C' E' → Q (some (.inl (sDev σ f).2)) (cH F' B' C' Wr' E' r)) : X M_Pl_device (rmo M_Pl_device 6 22) (Zm Q 6 22) 0 (ini M_Pl_device [.inr (some (0, 0)), .inl f]) [] (cH F B C Wr E r) 0 0 := by
  have hw := hW.1
  have h4 := hw.1.1
  obtain ⟨see0, hCD⟩ := id hI
  have hB := hCD.1
  have h0 := hB.1
  have hcnt := hB.2.2.2.2.2.1
  have m1 : (-1 : Int32).toInt = -1 := by decide
  have made : nd σ < 4 → ∀ (v : Option Nd) (o3 : Option AV), (∀ (F' : CF) (B' : CB) (C' : CC) (E' : Nat → Nat → Bool), CI (addD σ) F' B' C' E' → X M_Pl_device (rmo M_Pl_device 6 22) (Zm Q 6 22) 76 [some (.inr (some (0, 0))), some (.inl f), some (.inr v), o3, some (.inr (some (15, nd σ)))] [] (cH F' B' C' Wr E' r) 6 22) → X M_Pl_device (rmo M_Pl_device 6 22) (Zm Q 6 22) 42 [some (.inr (some (0, 0))), some (.inl f), some (.inr v), o3, none] [] (cH F B C Wr E r) 0 0 := by
    intro hn v o3 kk
    obtain ⟨a1, a2, a3⟩ := hB.2.2.2.2.2.2.2.2.2.2.2 (nd σ) hn (Nat.le_refl _)
    refine X_new (n := (15, nd σ)) (ci := 1) (q := (R_Dv, T_Dv, 2)) (t := t_Dv) (nx := 45) rfl rfl rfl c_Pl_9 (cH_none (by decide) a1) (Nat.le_of_ble_eq_true rfl) (Nat.le_of_ble_eq_true rfl) rfl ?_
    refine X_run 2 (pc' := 47) (L' := [some (.inr (some (0, 0))), some (.inl (f)), some (.inr v), o3, none]) (st' := [.inr (some (0, 0)), .inr (some (15, nd σ)), .inr (some (15, nd σ))]) rfl ?_
    refine X_get (v := .inl (F 0 0 2)) rfl f_Pl_15 (by rw [hset_ne _ _ (by simp)]; exact cH_obj rfl h0) rfl rfl ?_
    refine X_eq (st' := [.inl (nI (nd σ)), .inr (some (15, nd σ)), .inr (some (15, nd σ))]) rfl (congrArg (fun zz9 => Sum.inl zz9 :: _) (hcnt)) rfl ?_
    refine X_callI (vs := [.inl (nI (nd σ))]) (st := [.inr (some (15, nd σ))]) (mc := 5) (ms := 20) rfl ok_Dv_init i_Pl_49 rfl rfl (Nat.le_of_ble_eq_true rfl) (Nat.le_of_ble_eq_true rfl) (Nat.le_of_ble_eq_true rfl) (Nat.le_of_ble_eq_true rfl) (Nat.le_of_ble_eq_true rfl) (Nat.le_of_ble_eq_true rfl) rfl ?_
    refine c_Dv_init a2 a3 (fun g B1 E1 g0 gB gB0 gE g15 g16 g17 => ?_)
    have q0 : E1 0 0 = true := by rw [gE 0 0 (by omega) (by omega)]; exact h0
    have q1 : ∀ i, E1 1 i = true ↔ i = 0 := fun i => by rw [gE 1 i (by omega) (by omega)]; exact hB.2.1 i
    have q10 : E1 1 0 = true := (q1 0).mpr rfl
    have c2 : (uR F 15 (nd σ) g) 0 0 2 = nI (nd σ) := by rw [uR_ne (by omega)]; exact hcnt
    show X M_Pl_device _ _ 53 [some (.inr (some (0, 0))), some (.inl (f)), some (.inr v), o3, none] [.inr (some (15, nd σ))] (cH (uR F 15 (nd σ) g) B1 C Wr E1 r) 6 22
    refine X_run 2 (pc' := 56) (L' := [some (.inr (some (0, 0))), some (.inl (f)), some (.inr v), o3, some (.inr (some (15, nd σ)))]) (st' := [.inr (some (0, 0))]) rfl ?_
    refine XC_get (a := 0) (i := 0) (v := .inr (some (1, 0))) rfl f_Pl_11 ⟨rfl, rfl⟩ (by assumption) rfl rfl ?_
    refine X_run 1 (pc' := 60) (L' := [some (.inr (some (0, 0))), some (.inl (f)), some (.inr v), o3, some (.inr (some (15, nd σ)))]) (st' := [.inr (some (0, 0)), .inr (some (1, 0))]) rfl ?_
    refine XC_get (a := 0) (i := 0) (v := .inl ((uR F 15 (nd σ) g) 0 0 2)) rfl f_Pl_15 ⟨rfl, rfl⟩ (by assumption) rfl rfl ?_
    refine X_eq (st' := [.inl (nI (nd σ)), .inr (some (1, 0))]) rfl (congrArg (fun zz9 => Sum.inl zz9 :: _) (c2)) rfl ?_
    refine X_run 1 (pc' := 65) (L' := [some (.inr (some (0, 0))), some (.inl (f)), some (.inr v), o3, some (.inr (some (15, nd σ)))]) (st' := [.inr (some (15, nd σ)), .inl (nI (nd σ)), .inr (some (1, 0))]) rfl ?_
    refine XC_ast (a := 1) (j := (nd σ)) (a2 := 15) (i2 := nd σ) rfl ⟨rfl, by decide⟩ (q1) (by simp only [rLn]; omega) rfl (g15) rfl rfl rfl ?_
    refine X_run 2 (pc' := 68) (L' := [some (.inr (some (0, 0))), some (.inl (f)), some (.inr v), o3, some (.inr (some (15, nd σ)))]) (st' := [.inr (some (0, 0)), .inr (some (0, 0))]) rfl ?_
    refine XC_get (a := 0) (i := 0) (v := .inl ((uR F 15 (nd σ) g) 0 0 2)) rfl f_Pl_15 ⟨rfl, rfl⟩ (by assumption) rfl rfl ?_
    refine X_eq (st' := [.inl (nI (nd σ)), .inr (some (0, 0))]) rfl (congrArg (fun zz9 => Sum.inl zz9 :: _) (c2)) rfl ?_
    refine X_run 2 (pc' := 73) (L' := [some (.inr (some (0, 0))), some (.inl (f)), some (.inr v), o3, some (.inr (some (15, nd σ)))]) (st' := [.inl ((nI (nd σ)) + 1), .inr (some (0, 0))]) rfl ?_
    refine X_eq (st' := [.inl (nI (nd σ + 1)), .inr (some (0, 0))]) rfl (congrArg (fun zz9 => Sum.inl zz9 :: _) (by first | rfl | exact congrArg nI (by omega) | (simp only [il_0, il_1, il_2, il_3, il_4, il_5, il_6, il_7, il_16, il_20, il_40, il_160, pk_mul, nI_add]; done) | (simp only [il_0, il_1, il_2, il_3, il_4, il_5, il_6, il_7, il_16, il_20, il_40, il_160, pk_mul, nI_add]; exact congrArg nI (by omega)))) rfl ?_
    refine XC_put (k := 2) (a := 0) (i := 0) rfl f_Pl_15 rfl rfl rfl ⟨rfl, rfl⟩ ⟨rfl, rfl⟩ (by assumption) (fun _ => ⟨rfl, rfl⟩) rfl ?_
    refine kk _ _ _ _ (CI_add hI hW hn (fun a i k h1 h2 => by rw [u3_ne h2, uR_ne h1]) (by rw [u3_ne (by omega), uR_eq]; exact g0) (u3_eq _ _ _ _ _) gB (fun f e hf => gB0 f e hf) (fun a k hh => u2_ne hh) (u2_eq _ _ _ _) gE g15 g16 g17)
  have no : (nd σ = 4 ∨ (isD σ f = false ∧ ¬ (f = -1 ∧ nd σ = 0))) → Q (some (.inl (-1))) (cH F B C Wr E r) := fun hc => by
    have := hq F B C Wr E
    unfold sDev at this
    by_cases q4 : nd σ = 4
    · rw [if_pos q4] at this
      exact this hI
    · rw [if_neg q4] at this
      obtain ⟨c1, c2⟩ := hc.resolve_left q4
      by_cases q : f = -1
      · rw [if_pos q, if_pos (show 0 < nd σ from Nat.pos_of_ne_zero (fun z => c2 ⟨q, z⟩))] at this
        exact this hI
      · rw [if_neg q, c1] at this
        exact this hI
  have bit : ∀ (v : Option Nd), (∀ o3 : Bool, (o3 = true ↔ f = -1 ∧ nd σ = 0) → X M_Pl_device (rmo M_Pl_device 6 22) (Zm Q 6 22) 24 [some (.inr (some (0, 0))), some (.inl f), some (.inr v), some (.inl (b2i o3)), none] [] (cH F B C Wr E r) 0 0) → X M_Pl_device (rmo M_Pl_device 6 22) (Zm Q 6 22) 6 [some (.inr (some (0, 0))), some (.inl f), some (.inr v), none, none] [] (cH F B C Wr E r) 0 0 := by
    intro v kk
    refine X_run 2 (pc' := 8) (L' := [some (.inr (some (0, 0))), some (.inl (f)), some (.inr v), none, none]) (st' := [.inl (-1), .inl (f)]) rfl ?_
    refine X_ic_ne (tgt := 22) (nx := 11) rfl rfl rfl (fun n1 => ?_) (fun n1 => ?_)
    · refine X_run 2 (pc' := 24) (L' := [some (.inr (some (0, 0))), some (.inl (f)), some (.inr v), some (.inl (0)), none]) (st' := []) rfl ?_
      exact kk false ⟨fun z => (by cases z), fun z => absurd z.1 n1⟩
    · refine X_run 1 (pc' := 12) (L' := [some (.inr (some (0, 0))), some (.inl (f)), some (.inr v), none, none]) (st' := [.inr (some (0, 0))]) rfl ?_
      refine XC_get (a := 0) (i := 0) (v := .inl (F 0 0 2)) rfl f_Pl_15 ⟨rfl, rfl⟩ (by assumption) rfl rfl ?_
      refine X_eq (st' := [.inl (nI (nd σ))]) rfl (congrArg (fun zz9 => Sum.inl zz9 :: _) (hcnt)) rfl ?_
      refine X_if_ne (tgt := 22) (nx := 18) rfl rfl rfl (fun n2 => ?_) (fun n2 => ?_)
      · have n2 := li_ne (b := 0) n2
        refine X_run 2 (pc' := 24) (L' := [some (.inr (some (0, 0))), some (.inl (f)), some (.inr v), some (.inl (0)), none]) (st' := []) rfl ?_
        exact kk false ⟨fun z => (by cases z), fun z => absurd z.2 n2⟩
      · have n2 := li_eq (b := 0) (by omega) (by omega) n2
        refine X_run 3 (pc' := 24) (L' := [some (.inr (some (0, 0))), some (.inl (f)), some (.inr v), some (.inl (1)), none]) (st' := []) rfl ?_
        exact kk true ⟨fun _ => ⟨n1, n2⟩, fun _ => rfl⟩
  show X M_Pl_device _ _ 0 [some (.inr (some (0, 0))), some (.inl (f)), none, none, none] [] (cH F B C Wr E r) 0 0
  refine X_run 2 (pc' := 2) (L' := [some (.inr (some (0, 0))), some (.inl (f)), none, none, none]) (st' := [.inl (f), .inr (some (0, 0))]) rfl ?_
  refine X_callV (vs := [.inl (f)]) (st := []) (mc := 0) (ms := 0) rfl ok_Pl_findDevice v_Pl_45 (cH_obj rfl (by assumption)) rfl rfl (Nat.le_of_ble_eq_true rfl) (Nat.le_of_ble_eq_true rfl) (Nat.le_of_ble_eq_true rfl) (Nat.le_of_ble_eq_true rfl) (Nat.le_of_ble_eq_true rfl) (Nat.le_of_ble_eq_true rfl) rfl ?_
  refine c_Pl_findDevice hB h4 (fun k hk ek => ?_) (fun hno => ?_)
  · have f1 : f ≠ -1 := fun z => by
      rw [ek] at z
      have := congrArg Int32.toInt z
      rw [nI_toInt (by omega), m1] at this
      omega
    have hisd : isD σ f = true := by rw [ek, isD_nI (by omega)]; exact decide_eq_true hk
    have kc : f.toNatClampNeg = k := by rw [ek]; exact nI_clamp (by omega)
    show X M_Pl_device _ _ 5 [some (.inr (some (0, 0))), some (.inl (f)), none, none, none] [.inr (some (15, k))] (cH F B C Wr E r) 0 0
    refine X_run 1 (pc' := 6) (L' := [some (.inr (some (0, 0))), some (.inl (f)), some (.inr (some (15, k))), none, none]) (st' := []) rfl ?_
    refine bit (some (15, k)) (fun o3 ho3 => ?_)
    refine X_run 1 (pc' := 25) (L' := [some (.inr (some (0, 0))), some (.inl (f)), some (.inr (some (15, k))), some (.inl (b2i o3)), none]) (st' := [.inr (some (0, 0))]) rfl ?_
    refine XC_get (a := 0) (i := 0) (v := .inl (F 0 0 2)) rfl f_Pl_15 ⟨rfl, rfl⟩ (by assumption) rfl rfl ?_
    refine X_eq (st' := [.inl (nI (nd σ))]) rfl (congrArg (fun zz9 => Sum.inl zz9 :: _) (hcnt)) rfl ?_
    refine X_run 1 (pc' := 29) (L' := [some (.inr (some (0, 0))), some (.inl (f)), some (.inr (some (15, k))), some (.inl (b2i o3)), none]) (st' := [.inl (4), .inl (nI (nd σ))]) rfl ?_
    refine X_ic_ge (tgt := 40) (nx := 32) rfl rfl rfl (fun n1 => ?_) (fun n1 => ?_)
    · have n1 := li_le (a := 4) (by omega) (by omega) n1
      refine X_run 1 (pc' := 41) (L' := [some (.inr (some (0, 0))), some (.inl (f)), some (.inr (some (15, k))), some (.inl (b2i o3)), none]) (st' := [.inl (-1)]) rfl ?_
      exact X_iret rfl rfl rfl (Nat.zero_le _) (Nat.zero_le _) (no (Or.inl (by omega)))
    · have n1 := li_nle (a := 4) (by omega) (by omega) n1
      refine X_run 1 (pc' := 33) (L' := [some (.inr (some (0, 0))), some (.inl (f)), some (.inr (some (15, k))), some (.inl (b2i o3)), none]) (st' := [.inr (some (15, k))]) rfl ?_
      refine X_ifnonnull (tgt := 42) (nx := 36) rfl rfl rfl (fun nn n2 => ?_) (fun n2 => ?_)
      · refine made n1 _ _ (fun F1 B1 C1 E1 hI1 => ?_)
        obtain ⟨see1, hCD1⟩ := id hI1
        have hW1 := addD_W2 hW n1
        have dk := hCD1.1.2.2.2.2.2.2.2.2.2.2.1 k (show k < nd σ + 1 by omega)
        have dn := hCD1.1.2.2.2.2.2.2.2.2.2.2.1 (nd σ) (show nd σ < nd σ + 1 by omega)
        have k15 := dk.2.1
        have n15 := dn.2.1
        refine X_run 1 (pc' := 77) (L' := [some (.inr (some (0, 0))), some (.inl (f)), some (.inr (some (15, k))), some (.inl (b2i o3)), some (.inr (some (15, nd σ)))]) (st' := [.inr (some (15, k))]) rfl ?_
        refine X_ifnull (tgt := 86) (nx := 80) rfl rfl rfl (fun n3 => ?_) (fun nn n3 => ?_)
        · cases n3
        · refine X_run 2 (pc' := 83) (L' := [some (.inr (some (0, 0))), some (.inl (f)), some (.inr (some (15, k))), some (.inl (b2i o3)), some (.inr (some (15, nd σ)))]) (st' := [.inr (some (15, nd σ)), .inr (some (15, k))]) rfl ?_
          refine X_callV (vs := [.inr (some (15, nd σ))]) (st := []) (mc := 0) (ms := 0) rfl ok_Dv_meetWith v_Pl_52 (cH_obj rfl (by assumption)) rfl rfl (Nat.le_of_ble_eq_true rfl) (Nat.le_of_ble_eq_true rfl) (Nat.le_of_ble_eq_true rfl) (Nat.le_of_ble_eq_true rfl) (Nat.le_of_ble_eq_true rfl) (Nat.le_of_ble_eq_true rfl) rfl ?_
          refine c_Dv_meetWith dk dn (by omega) (fun B2 g1 g2 => ?_)
          have hI2 := CI_mt hI1 hW1 (show k < nd σ + 1 by omega) (show nd σ < nd σ + 1 by omega) g1 g2
          show X M_Pl_device _ _ 86 [some (.inr (some (0, 0))), some (.inl (f)), some (.inr (some (15, k))), some (.inl (b2i o3)), some (.inr (some (15, nd σ)))] [] (cH F1 B2 C1 Wr E1 r) 6 22
          refine X_run 1 (pc' := 88) (L' := [some (.inr (some (0, 0))), some (.inl (f)), some (.inr (some (15, k))), some (.inl (b2i o3)), some (.inr (some (15, nd σ)))]) (st' := [.inr (some (15, nd σ))]) rfl ?_
          refine XC_get (a := 15) (i := nd σ) (v := .inl (F1 15 (nd σ) 0)) rfl f_Pl_56 ⟨rfl, rfl⟩ (by assumption) rfl rfl ?_
          refine X_eq (st' := [.inl (nI (nd σ))]) rfl (congrArg (fun zz9 => Sum.inl zz9 :: _) (dn.2.2.2.1)) rfl ?_
          refine X_iret rfl rfl rfl (Nat.le_refl _) (Nat.le_refl _) ?_
          have := hq F1 B2 C1 Wr E1
          unfold sDev at this
          rw [if_neg (by omega), if_neg f1, hisd, kc, mtS_comm] at this
          exact this hI2
      · cases n2
  · show X M_Pl_device _ _ 5 [some (.inr (some (0, 0))), some (.inl (f)), none, none, none] [.inr none] (cH F B C Wr E r) 0 0
    refine X_run 1 (pc' := 6) (L' := [some (.inr (some (0, 0))), some (.inl (f)), some (.inr none), none, none]) (st' := []) rfl ?_
    refine bit none (fun o3 ho3 => ?_)
    refine X_run 1 (pc' := 25) (L' := [some (.inr (some (0, 0))), some (.inl (f)), some (.inr none), some (.inl (b2i o3)), none]) (st' := [.inr (some (0, 0))]) rfl ?_
    refine XC_get (a := 0) (i := 0) (v := .inl (F 0 0 2)) rfl f_Pl_15 ⟨rfl, rfl⟩ (by assumption) rfl rfl ?_
    refine X_eq (st' := [.inl (nI (nd σ))]) rfl (congrArg (fun zz9 => Sum.inl zz9 :: _) (hcnt)) rfl ?_
    refine X_run 1 (pc' := 29) (L' := [some (.inr (some (0, 0))), some (.inl (f)), some (.inr none), some (.inl (b2i o3)), none]) (st' := [.inl (4), .inl (nI (nd σ))]) rfl ?_
    refine X_ic_ge (tgt := 40) (nx := 32) rfl rfl rfl (fun n1 => ?_) (fun n1 => ?_)
    · have n1 := li_le (a := 4) (by omega) (by omega) n1
      refine X_run 1 (pc' := 41) (L' := [some (.inr (some (0, 0))), some (.inl (f)), some (.inr none), some (.inl (b2i o3)), none]) (st' := [.inl (-1)]) rfl ?_
      exact X_iret rfl rfl rfl (Nat.zero_le _) (Nat.zero_le _) (no (Or.inl (by omega)))
    · have n1 := li_nle (a := 4) (by omega) (by omega) n1
      refine X_run 1 (pc' := 33) (L' := [some (.inr (some (0, 0))), some (.inl (f)), some (.inr none), some (.inl (b2i o3)), none]) (st' := [.inr none]) rfl ?_
      refine X_ifnonnull (tgt := 42) (nx := 36) rfl rfl rfl (fun nn n2 => ?_) (fun n2 => ?_)
      · cases n2
      · refine X_run 1 (pc' := 37) (L' := [some (.inr (some (0, 0))), some (.inl (f)), some (.inr none), some (.inl (b2i o3)), none]) (st' := [.inl (b2i o3)]) rfl ?_
        refine X_if_ne (tgt := 42) (nx := 40) rfl rfl rfl (fun n3 => ?_) (fun n3 => ?_)
        · rw [b2i_n0] at n3
          have h3 := ho3.mp n3
          refine made n1 _ _ (fun F1 B1 C1 E1 hI1 => ?_)
          obtain ⟨see1, hCD1⟩ := id hI1
          have dn := hCD1.1.2.2.2.2.2.2.2.2.2.2.1 (nd σ) (show nd σ < nd σ + 1 by omega)
          have n15 := dn.2.1
          refine X_run 1 (pc' := 77) (L' := [some (.inr (some (0, 0))), some (.inl (f)), some (.inr none), some (.inl (b2i o3)), some (.inr (some (15, nd σ)))]) (st' := [.inr none]) rfl ?_
          refine X_ifnull (tgt := 86) (nx := 80) rfl rfl rfl (fun n4 => ?_) (fun nn n4 => ?_)
          · refine X_run 1 (pc' := 88) (L' := [some (.inr (some (0, 0))), some (.inl (f)), some (.inr none), some (.inl (b2i o3)), some (.inr (some (15, nd σ)))]) (st' := [.inr (some (15, nd σ))]) rfl ?_
            refine XC_get (a := 15) (i := nd σ) (v := .inl (F1 15 (nd σ) 0)) rfl f_Pl_56 ⟨rfl, rfl⟩ (by assumption) rfl rfl ?_
            refine X_eq (st' := [.inl (nI (nd σ))]) rfl (congrArg (fun zz9 => Sum.inl zz9 :: _) (dn.2.2.2.1)) rfl ?_
            refine X_iret rfl rfl rfl (Nat.le_refl _) (Nat.le_refl _) ?_
            have := hq F1 B1 C1 Wr E1
            unfold sDev at this
            rw [if_neg (by omega), if_pos h3.1, if_neg (by omega)] at this
            exact this hI1
          · cases n4
        · rw [b2i_0] at n3
          refine X_run 1 (pc' := 41) (L' := [some (.inr (some (0, 0))), some (.inl (f)), some (.inr none), some (.inl (b2i o3)), none]) (st' := [.inl (-1)]) rfl ?_
          refine X_iret rfl rfl rfl (Nat.zero_le _) (Nat.zero_le _) (no (Or.inr ⟨hno, fun z => ?_⟩))
          rw [ho3.mpr z] at n3
          cases n3
end

