/-! the component: its base; who does a deed; a deed is done -/
/-- all of the component but its picture -/
def BI (σ : Sg) (F : CF) (B : CB) (C : CC) (E : Nat → Nat → Bool) : Prop := E 0 0 = true ∧ (∀ i, E 1 i = true ↔ i = 0) ∧ PE E ∧ LG σ F B C E ∧ F 0 0 0 = b2i (wn σ) ∧ F 0 0 2 = nI (nd σ) ∧ F 0 0 5 = vd σ ∧ F 0 0 6 = vn σ ∧ F 5 0 0 = b2i (wn σ) ∧
  (∀ d, d < 4 → C 1 d = if d < nd σ then some (15, d) else none) ∧ (∀ d, d < nd σ → DR (rk σ) F B E d) ∧ ∀ d, d < 4 → nd σ ≤ d → E 15 d = false ∧ E 16 d = false ∧ ∀ f, f < 4 → E 17 (4 * d + f) = false
def CD (σ : Sg) (see : Nat → Nat) (F : CF) (B : CB) (C : CC) (E : Nat → Nat → Bool) : Prop := BI σ F B C E ∧ okS σ see ∧ PIC σ see F B C E
def CI (σ : Sg) (F : CF) (B : CB) (C : CC) (E : Nat → Nat → Bool) : Prop := ∃ see, CD σ see F B C E
theorem DR.fd {T : Nat → Nat → Nat → Nat} {F F' : CF} {B B' : CB} {C C' : CC} {E E' : Nat → Nat → Bool} {d : Nat} (h : DR T F B E d) (g : FD F B C E F' B' C' E') : DR T F' B' E' d := by
  obtain ⟨a1, a2, a3, a4, a5⟩ := h
  obtain ⟨g1, g2, g3, g4⟩ := g
  have e : ∀ a i, a = 15 ∨ a = 16 ∨ a = 17 → E' a i = E a i := fun a i ha => g4 a i (by omega) (by omega) (by omega) (by omega) (by omega)
  refine ⟨a1, by rw [e 15 d (by omega)]; exact a2, by rw [e 16 d (by omega)]; exact a3, by rw [g1 15 d 0 (by omega) (by omega) (by omega)]; exact a4, fun f hf => ?_⟩
  rw [e 17 _ (by omega), g2 17 _ (by omega) (by omega) (by omega) (by omega) (by omega)]
  exact a5 f hf
theorem BI.fd {σ : Sg} {F F' : CF} {B B' : CB} {C C' : CC} {E E' : Nat → Nat → Bool} (h : BI σ F B C E) (g : FD F B C E F' B' C' E') : BI σ F' B' C' E' := by
  obtain ⟨a1, a2, a3, a4, a5, a6, a7, a8, a9, a10, a11, a12⟩ := h
  have g' := g
  obtain ⟨g1, g2, g3, g4⟩ := g
  have e : ∀ a i, a = 0 ∨ a = 1 ∨ a = 15 ∨ a = 16 ∨ a = 17 → E' a i = E a i := fun a i ha => g4 a i (by omega) (by omega) (by omega) (by omega) (by omega)
  have f0 : ∀ k, F' 0 0 k = F 0 0 k := fun k => g1 0 0 k (by omega) (by omega) (by omega)
  refine ⟨by rw [e 0 0 (by omega)]; exact a1, fun i => by rw [e 1 i (by omega)]; exact a2 i, a3.fd g', a4.fd g', by rw [f0]; exact a5, by rw [f0]; exact a6, by rw [f0]; exact a7, by rw [f0]; exact a8, by rw [g1 5 0 0 (by omega) (by omega) (by omega)]; exact a9, fun d hd => by rw [g3 1 (by omega) (by omega) (by omega) (by omega) (by omega)]; exact a10 d hd, fun d hd => (a11 d hd).fd g', fun d hd hn => ?_⟩
  rw [e 15 d (by omega), e 16 d (by omega)]
  refine ⟨(a12 d hd hn).1, (a12 d hd hn).2.1, fun f hf => ?_⟩
  rw [e 17 _ (by omega)]
  exact (a12 d hd hn).2.2 f hf
theorem sa_lt {σ : Sg} {m : Nat → Nat} {b : Nat} (hb : 0 < b) : ∀ k, (∀ e, e < k → m e ≠ 0 → sp σ (40 * e + (m e - 1)) < b) → saF σ m k < b
  | 0, _ => hb
  | k + 1, h => by
    have ih := sa_lt (σ := σ) (m := m) hb k (fun e he => h e (by omega))
    rw [saF_succ]
    split
    · exact ih
    · rename_i q
      have := h k (by omega) q
      omega
theorem sa_ge {σ : Sg} {m : Nat → Nat} : ∀ k e, e < k → m e ≠ 0 → sp σ (40 * e + (m e - 1)) ≤ saF σ m k
  | 0, e, he, _ => by omega
  | k + 1, e, he, hm => by
    rw [saF_succ]
    by_cases q : e = k
    · rw [q] at hm ⊢
      rw [if_neg hm]
      omega
    · have := sa_ge (σ := σ) (m := m) k e (by omega) hm
      split <;> omega
theorem sa_stp {σ : Sg} (h : WF σ) (d : Nat) : saF σ (rk σ d d) 4 + 1 = stpF σ d := by
  have h1 : stpF σ d ≤ saF σ (rk σ d d) 4 + 1 := stpF_le (fun e j he hj => by
    have h2 := sa_ge (σ := σ) (m := rk σ d d) 4 e he (by omega)
    by_cases q : j = rk σ d d e - 1
    · rw [q]
      exact h2
    · have b := h.1.2.1 d d e
      have k1 := h.known he hj
      have k2 := h.known (σ := σ) (d := d) (e := e) (j := rk σ d d e - 1) he (by omega)
      have p11 := (h.p11 _ k2).1
      rw [show (40 * e + (rk σ d d e - 1)) / 40 = e by omega, show (40 * e + (rk σ d d e - 1)) % 40 = rk σ d d e - 1 by omega] at p11
      have := h.p10 _ _ k2 k1 (by
        unfold knw
        rw [show (40 * e + j) / 40 = e by omega, show (40 * e + j) % 40 = j by omega, p11]
        exact decide_eq_true (by omega))
      omega)
  have h2 : saF σ (rk σ d d) 4 < stpF σ d := sa_lt (stpF_pos σ d) 4 (fun e he hm => stpF_gt he (by omega))
  omega
theorem cut_eq {σ : Sg} {a : Nat → Bool} {l : List Nat} {k : Nat} (hp : l.Pairwise (fun x y => ahd σ x y = true)) (ha : ∀ y z, ahd σ y z = true → a y = true → a z = true) (hk : k ≤ l.length) (h1 : ∀ (j y : Nat), k ≤ j → l[j]? = some y → a y = true) (h2 : k = 0 ∨ ∃ y, l[k - 1]? = some y ∧ a y = false) : l.take k = l.filter (fun y => !a y) ∧ l.drop k = l.filter a := by
  have d1 : ∀ y, y ∈ l.drop k → a y = true := fun y hy => by
    obtain ⟨j, hj⟩ := mem_idx hy
    rw [List.getElem?_drop] at hj
    exact h1 (k + j) y (by omega) hj
  have d2 : ∀ y, y ∈ l.take k → a y = false := fun y hy => by
    obtain ⟨j, hj⟩ := mem_idx hy
    rw [List.getElem?_take] at hj
    split at hj
    · rename_i jk
      rcases h2 with h2 | ⟨z, hz, az⟩
      · omega
      · cases hq : a y with
        | false => rfl
        | true =>
          obtain ⟨j1, j2⟩ := List.getElem?_eq_some_iff.mp hj
          obtain ⟨z1, z2⟩ := List.getElem?_eq_some_iff.mp hz
          by_cases q : j = k - 1
          · rw [q, hz] at hj
            cases hj
            rw [az] at hq
            cases hq
          · have := List.pairwise_iff_getElem.mp hp j (k - 1) j1 z1 (by omega)
            rw [j2, z2] at this
            rw [ha y z this hq] at az
            cases az
    · cases hj
  have e1 : (l.take k).filter (fun y => !a y) = l.take k := List.filter_eq_self.mpr (fun y hy => by rw [d2 y hy]; rfl)
  have e2 : (l.drop k).filter (fun y => !a y) = [] := List.filter_eq_nil_iff.mpr (fun y hy => by rw [d1 y hy]; decide)
  have e3 : (l.take k).filter a = [] := List.filter_eq_nil_iff.mpr (fun y hy => by rw [d2 y hy]; decide)
  have e4 : (l.drop k).filter a = l.drop k := List.filter_eq_self.mpr (fun y hy => d1 y hy)
  constructor
  · have := congrArg (List.filter (fun y => !a y)) (List.take_append_drop k l)
    rw [List.filter_append, e1, e2, List.append_nil] at this
    exact this
  · have := congrArg (List.filter a) (List.take_append_drop k l)
    rw [List.filter_append, e3, e4, List.nil_append] at this
    exact this
section
variable {F : CF} {B : CB} {C : CC} {Wr : Nat → Option Nd} {E : Nat → Nat → Bool} {r : AH} {Q : Option AV → AH → Prop} {h : AH} {σ : Sg} {see m : Nat → Nat}
theorem c_Pl_findDevice {d : Int32} (hI : BI σ F B C E) (h4 : nd σ ≤ 4) (hq1 : ∀ k, k < nd σ → d = nI k → Q (some (.inr (some (15, k)))) (cH F B C Wr E r)) (hq0 : isD σ d = false → Q (some (.inr none)) (cH F B C Wr E r)) : X M_Pl_findDevice (rmo M_Pl_findDevice 0 0) (Zm Q 0 0) 0 (ini M_Pl_findDevice [.inr (some (0, 0)), .inl d]) [] (cH F B C Wr E r) 0 0 := by
  obtain ⟨h0, h1, -, -, -, hn, -, -, -, hC, -⟩ := hI
  have h10 : E 1 0 = true := (h1 0).mpr rfl
  show X M_Pl_findDevice _ _ 0 [some (.inr (some (0, 0))), some (.inl (d))] [] (cH F B C Wr E r) 0 0
  refine X_run 1 (pc' := 1) (L' := [some (.inr (some (0, 0))), some (.inl (d))]) (st' := [.inl (d)]) rfl ?_
  refine X_if_lt (tgt := 21) (nx := 4) rfl rfl rfl (fun a1 => ?_) (fun a1 => ?_)
  · refine X_run 1 (pc' := 22) (L' := [some (.inr (some (0, 0))), some (.inl (d))]) (st' := [.inr none]) rfl ?_
    exact X_aret rfl rfl (Or.inl ⟨_, rfl⟩) (Nat.le_refl _) (Nat.le_refl _) (hq0 (by unfold isD; rw [i32_lt] at a1; exact decide_eq_false (by have : (0 : Int32).toInt = 0 := rfl; omega)))
  · obtain ⟨k, hk, ek⟩ := nI_lt0 a1
    refine X_eq (L' := [some (.inr (some (0, 0))), some (.inl (nI k))]) (congrArg (fun zz9 : Int32 => ([some (.inr (some (0, 0))), some (.inl zz9)] : List (Option AV))) (ek)) rfl rfl ?_
    refine X_run 2 (pc' := 6) (L' := [some (.inr (some (0, 0))), some (.inl (nI k))]) (st' := [.inr (some (0, 0)), .inl (nI k)]) rfl ?_
    refine XC_get (a := 0) (i := 0) (v := .inl (F 0 0 2)) rfl f_Pl_15 ⟨rfl, rfl⟩ (by assumption) rfl rfl ?_
    refine X_eq (st' := [.inl (nI (nd σ)), .inl (nI k)]) rfl (congrArg (fun zz9 => Sum.inl zz9 :: _) (hn)) rfl ?_
    refine X_ic_ge (tgt := 21) (nx := 12) rfl rfl rfl (fun a2 => ?_) (fun a2 => ?_)
    · have a2 := li_le (by omega) hk a2
      refine X_run 1 (pc' := 22) (L' := [some (.inr (some (0, 0))), some (.inl (nI k))]) (st' := [.inr none]) rfl ?_
      exact X_aret rfl rfl (Or.inl ⟨_, rfl⟩) (Nat.le_refl _) (Nat.le_refl _) (hq0 (by rw [ek, isD_nI hk]; exact decide_eq_false (by omega)))
    · have a2 := li_nle (by omega) hk a2
      refine X_run 1 (pc' := 13) (L' := [some (.inr (some (0, 0))), some (.inl (nI k))]) (st' := [.inr (some (0, 0))]) rfl ?_
      refine XC_get (a := 0) (i := 0) (v := .inr (some (1, 0))) rfl f_Pl_11 ⟨rfl, rfl⟩ (by assumption) rfl rfl ?_
      refine X_run 1 (pc' := 17) (L' := [some (.inr (some (0, 0))), some (.inl (nI k))]) (st' := [.inl (nI k), .inr (some (1, 0))]) rfl ?_
      refine XC_ald (a := 1) (i := 0) (j := k) (v := (C 1 k)) rfl ⟨rfl, by decide, by decide⟩ (by assumption) (by simp only [rLn]; omega) rfl rfl ?_
      rw [hC k (by omega), if_pos a2]
      refine X_run 1 (pc' := 22) (L' := [some (.inr (some (0, 0))), some (.inl (nI k))]) (st' := [.inr (some (15, k))]) rfl ?_
      exact X_aret rfl rfl (Or.inl ⟨_, rfl⟩) (Nat.le_refl _) (Nat.le_refl _) (hq1 k a2 ek)
theorem c_Pl_findDoer {d : Int32} (hI : BI σ F B C E) (h4 : nd σ ≤ 4) (hq1 : ∀ k, k < nd σ → d = nI k → mny σ k < 40 → Q (some (.inr (some (15, k)))) (cH F B C Wr E r)) (hq0 : canD σ d = false → Q (some (.inr none)) (cH F B C Wr E r)) : X M_Pl_findDoer (rmo M_Pl_findDoer 0 0) (Zm Q 0 0) 0 (ini M_Pl_findDoer [.inr (some (0, 0)), .inl d]) [] (cH F B C Wr E r) 0 0 := by
  have h0 := hI.1
  show X M_Pl_findDoer _ _ 0 [some (.inr (some (0, 0))), some (.inl (d)), none] [] (cH F B C Wr E r) 0 0
  refine X_run 2 (pc' := 2) (L' := [some (.inr (some (0, 0))), some (.inl (d)), none]) (st' := [.inl (d), .inr (some (0, 0))]) rfl ?_
  refine X_callV (vs := [.inl (d)]) (st := []) (mc := 0) (ms := 0) rfl ok_Pl_findDevice v_Pl_45 (cH_obj rfl (by assumption)) rfl rfl (Nat.le_of_ble_eq_true rfl) (Nat.le_of_ble_eq_true rfl) (Nat.le_of_ble_eq_true rfl) (Nat.le_of_ble_eq_true rfl) (Nat.le_of_ble_eq_true rfl) (Nat.le_of_ble_eq_true rfl) rfl ?_
  refine c_Pl_findDevice hI h4 (fun k hk ek => ?_) (fun hno => ?_)
  · obtain ⟨k4, h15, h16, hn, hr⟩ := hI.2.2.2.2.2.2.2.2.2.2.1 k hk
    have h17 := (hr k k4).1
    have hv := (hr k k4).2 k k4
    show X M_Pl_findDoer _ _ 5 [some (.inr (some (0, 0))), some (.inl (d)), none] [.inr (some (15, k))] (cH F B C Wr E r) 0 0
    refine X_run 2 (pc' := 7) (L' := [some (.inr (some (0, 0))), some (.inl (d)), some (.inr (some (15, k)))]) (st' := [.inr (some (15, k))]) rfl ?_
    refine X_ifnull (tgt := 23) (nx := 10) rfl rfl rfl (fun n1 => ?_) (fun nn n1 => ?_)
    · cases n1
    · refine X_run 1 (pc' := 11) (L' := [some (.inr (some (0, 0))), some (.inl (d)), some (.inr (some (15, k)))]) (st' := [.inr (some (15, k))]) rfl ?_
      refine X_callV (vs := []) (st := []) (mc := 0) (ms := 0) rfl ok_Dv_done v_Pl_74 (cH_obj rfl (by assumption)) rfl rfl (Nat.le_of_ble_eq_true rfl) (Nat.le_of_ble_eq_true rfl) (Nat.le_of_ble_eq_true rfl) (Nat.le_of_ble_eq_true rfl) (Nat.le_of_ble_eq_true rfl) (Nat.le_of_ble_eq_true rfl) rfl ?_
      refine c_Dv_done k4 h15 h16 h17 hn ?_
      show X M_Pl_findDoer _ _ 14 [some (.inr (some (0, 0))), some (.inl (d)), some (.inr (some (15, k)))] [.inl (B 17 (4 * k + k) k)] (cH F B C Wr E r) 0 0
      refine X_eq (st' := [.inl (nI (mny σ k))]) rfl (congrArg (fun zz9 => Sum.inl zz9 :: _) (hv.1)) rfl ?_
      refine X_run 1 (pc' := 16) (L' := [some (.inr (some (0, 0))), some (.inl (d)), some (.inr (some (15, k)))]) (st' := [.inl (40), .inl (nI (mny σ k))]) rfl ?_
      refine X_ic_ge (tgt := 23) (nx := 19) rfl rfl rfl (fun n2 => ?_) (fun n2 => ?_)
      · have n2 := li_le (a := 40) (by omega) (by have := hv.2; show rk σ k k k < _; omega) n2
        refine X_run 1 (pc' := 24) (L' := [some (.inr (some (0, 0))), some (.inl (d)), some (.inr (some (15, k)))]) (st' := [.inr none]) rfl ?_
        refine X_aret rfl rfl (Or.inl ⟨_, rfl⟩) (Nat.le_refl _) (Nat.le_refl _) (hq0 ?_)
        unfold canD
        rw [ek, nI_clamp (by omega), decide_eq_false (by omega), Bool.and_false]
      · have n2 := li_nle (a := 40) (by omega) (by have := hv.2; show rk σ k k k < _; omega) n2
        refine X_run 2 (pc' := 24) (L' := [some (.inr (some (0, 0))), some (.inl (d)), some (.inr (some (15, k)))]) (st' := [.inr (some (15, k))]) rfl ?_
        exact X_aret rfl rfl (Or.inl ⟨_, rfl⟩) (Nat.le_refl _) (Nat.le_refl _) (hq1 k hk ek n2)
  · show X M_Pl_findDoer _ _ 5 [some (.inr (some (0, 0))), some (.inl (d)), none] [.inr none] (cH F B C Wr E r) 0 0
    refine X_run 2 (pc' := 7) (L' := [some (.inr (some (0, 0))), some (.inl (d)), some (.inr none)]) (st' := [.inr none]) rfl ?_
    refine X_ifnull (tgt := 23) (nx := 10) rfl rfl rfl (fun n1 => ?_) (fun nn n1 => ?_)
    · refine X_run 1 (pc' := 24) (L' := [some (.inr (some (0, 0))), some (.inl (d)), some (.inr none)]) (st' := [.inr none]) rfl ?_
      exact X_aret rfl rfl (Or.inl ⟨_, rfl⟩) (Nat.le_refl _) (Nat.le_refl _) (hq0 (by unfold canD; rw [hno]; rfl))
    · cases n1
theorem c_Dv_knownG {d : Nat} {V : Nat → AV} {g : Nat → Option Nd} (hd : d < 4) (h15 : h (15, d) = some (.inr (.inr (1, V)))) (v0 : V 0 = .inl (nI d)) (v1 : V 1 = .inr (some (16, d))) (h16 : h (16, d) = some (.inr (.inl (6, 4, g)))) (hg : g d = some (17, 4 * d + d)) (hq : Q (some (.inr (some (17, 4 * d + d)))) h) : X M_Dv_known (rmo M_Dv_known 0 0) (Zm Q 0 0) 0 (ini M_Dv_known [.inr (some (15, d))]) [] h 0 0 := by
  show X M_Dv_known _ _ 0 [some (.inr (some (15, d)))] [] h 0 0
  refine X_run 1 (pc' := 1) (L' := [some (.inr (some (15, d)))]) (st' := [.inr (some (15, d))]) rfl ?_
  refine X_get (nx := 4) (v := .inr (some (16, d))) rfl f_Dv_11 h15 v1 rfl ?_
  refine X_run 1 (pc' := 5) (L' := [some (.inr (some (15, d)))]) (st' := [.inr (some (15, d)), .inr (some (16, d))]) rfl ?_
  refine X_get (nx := 8) (v := .inl (nI d)) rfl f_Dv_16 h15 v0 rfl ?_
  refine X_aald (nx := 9) (t := 6) (len := 4) (g := g) rfl h16 (by decide) (vp_in_nI hd (by decide)) rfl ?_
  rw [nI_clamp (by omega), hg]
  exact X_aret rfl rfl (Or.inr ⟨_, rfl⟩) (Nat.le_refl _) (Nat.le_refl _) hq
end

