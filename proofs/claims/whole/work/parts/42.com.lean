/-! the component's picture is drawn -/
/-- the picture of a set of deeds, in the model's words -/
def PIC (σ : Sg) (see : Nat → Nat) (F : CF) (B : CB) (C : CC) (E : Nat → Nat → Bool) : Prop := (∀ e, e < 4 → B 6 0 e = nI (see e)) ∧ TX (thF σ see) F C E ∧ RX C E ∧
  (∀ t, t < 160 → thF σ see t = true → F 20 t 2 = b2i (stkF σ see t) ∧ F 20 t 3 = nmF σ see t ∧ F 20 t 4 = smF σ see t 1 ∧ F 20 t 5 = smF σ see t 2 ∧ F 20 t 6 = nI ((ODF σ see).idxOf t)) ∧
  F 5 0 10 = nI (KPF σ see).length ∧ (KPF σ see).length ≤ 160 ∧
  ∀ (j kx : Nat), (KPF σ see)[j]? = some kx → C 14 j = some (23, j) ∧ E 23 j = true ∧ F 23 j 0 = nI kx ∧ F 23 j 1 = nmF σ see kx ∧ F 23 j 2 = rsF σ see kx 1 (ODF σ see) ∧ F 23 j 3 = rsF σ see kx 2 (ODF σ see) ∧ F 23 j 4 = rnF σ see kx (ODF σ see) ∧ F 23 j 5 = b2i (dbF σ see kx)
/-- what drawing leaves as it was -/
def FD (F : CF) (B : CB) (C : CC) (E : Nat → Nat → Bool) (F' : CF) (B' : CB) (C' : CC) (E' : Nat → Nat → Bool) : Prop := (∀ a i k, a ≠ 20 → a ≠ 23 → ¬ (a = 5 ∧ (k = 4 ∨ k = 7 ∨ k = 10)) → F' a i k = F a i k) ∧ (∀ a i, a ≠ 6 → a ≠ 7 → a ≠ 21 → a ≠ 22 → a ≠ 24 → B' a i = B a i) ∧ (∀ a, a ≠ 8 → a ≠ 9 → a ≠ 12 → a ≠ 13 → a ≠ 14 → C' a = C a) ∧ (∀ a i, a ≠ 20 → a ≠ 21 → a ≠ 22 → a ≠ 23 → a ≠ 24 → E' a i = E a i)
theorem FD.rfl {F : CF} {B : CB} {C : CC} {E : Nat → Nat → Bool} : FD F B C E F B C E := ⟨fun _ _ _ _ _ _ => Eq.refl _, fun _ _ _ _ _ _ _ => Eq.refl _, fun _ _ _ _ _ _ => Eq.refl _, fun _ _ _ _ _ _ _ => Eq.refl _⟩
theorem FD.trans {F F' F'' : CF} {B B' B'' : CB} {C C' C'' : CC} {E E' E'' : Nat → Nat → Bool} (h : FD F B C E F' B' C' E') (g : FD F' B' C' E' F'' B'' C'' E'') : FD F B C E F'' B'' C'' E'' :=
  ⟨fun a i k h1 h2 h3 => (g.1 a i k h1 h2 h3).trans (h.1 a i k h1 h2 h3), fun a i h1 h2 h3 h4 h5 => (g.2.1 a i h1 h2 h3 h4 h5).trans (h.2.1 a i h1 h2 h3 h4 h5), fun a h1 h2 h3 h4 h5 => (g.2.2.1 a h1 h2 h3 h4 h5).trans (h.2.2.1 a h1 h2 h3 h4 h5), fun a i h1 h2 h3 h4 h5 => (g.2.2.2 a i h1 h2 h3 h4 h5).trans (h.2.2.2 a i h1 h2 h3 h4 h5)⟩
theorem FL.fd {F F' : CF} {B B' : CB} {C C' : CC} {E E' : Nat → Nat → Bool} (h : FL F B C E F' B' C' E') : FD F B C E F' B' C' E' :=
  ⟨fun a i k h1 h2 h3 => h.1 a i k h1 (by omega), fun a i h1 h2 h3 h4 h5 => h.2.1 a i h3 h4, fun a h1 h2 h3 h4 h5 => h.2.2.1 a h2 h3, fun a i h1 h2 h3 h4 h5 => h.2.2.2.1 a i h1 h2 h3⟩
theorem FG.fd {F F' : CF} {B B' : CB} {C C' : CC} {E E' : Nat → Nat → Bool} (h : FG F B C E F' B' C' E') : FD F B C E F' B' C' E' :=
  ⟨fun a i k h1 h2 h3 => h.1 a i k h2 (by omega), fun a i h1 h2 h3 h4 h5 => h.2.1 a i h5, fun a h1 h2 h3 h4 h5 => h.2.2.1 a h5, fun a i h1 h2 h3 h4 h5 => h.2.2.2 a i h4 h5⟩
theorem DE.fd {σ : Sg} {F F' : CF} {B B' : CB} {C C' : CC} {E E' : Nat → Nat → Bool} {x : Nat} (h : DE σ F B E x) (g : FD F B C E F' B' C' E') : DE σ F' B' E' x := by
  obtain ⟨a1, a2, a3, a4⟩ := h
  obtain ⟨g1, g2, g3, g4⟩ := g
  refine ⟨a1, by rw [g4 18 x (by decide) (by decide) (by decide) (by decide) (by decide)]; exact a2, by rw [g4 19 x (by decide) (by decide) (by decide) (by decide) (by decide)]; exact a3, ?_⟩
  have f : ∀ k, F' 18 x k = F 18 x k := fun k => g1 18 x k (by decide) (by decide) (by omega)
  rw [f, f, f, f, f, f, f, g2 19 x (by decide) (by decide) (by decide) (by decide) (by decide)]
  exact a4
theorem PE.fd {F F' : CF} {B B' : CB} {C C' : CC} {E E' : Nat → Nat → Bool} (h : PE E) (g : FD F B C E F' B' C' E') : PE E' := h.of (fun a i h1 h2 h3 h4 h5 => g.2.2.2 a i h1 h2 h3 h4 h5)
theorem LG.fd {σ : Sg} {F F' : CF} {B B' : CB} {C C' : CC} {E E' : Nat → Nat → Bool} (h : LG σ F B C E) (g : FD F B C E F' B' C' E') : LG σ F' B' C' E' := by
  obtain ⟨a1, a2, a3, a4, a5, a6, a7, a8, a9⟩ := h
  have g' := g
  obtain ⟨g1, g2, g3, g4⟩ := g
  have e : ∀ a i, a = 2 ∨ a = 3 ∨ a = 4 ∨ a = 18 ∨ a = 19 → E' a i = E a i := fun a i ha => g4 a i (by omega) (by omega) (by omega) (by omega) (by omega)
  refine ⟨by rw [e 2 0 (by omega)]; exact a1, fun i => by rw [e 3 i (by omega)]; exact a2 i, fun i => by rw [e 4 i (by omega)]; exact a3 i, by rw [g1 2 0 2 (by omega) (by omega) (by omega)]; exact a4, a5, fun k x hk => by rw [g3 4 (by omega) (by omega) (by omega) (by omega) (by omega)]; exact a6 k x hk, fun x hx => by rw [g3 3 (by omega) (by omega) (by omega) (by omega) (by omega)]; exact a7 x hx, fun x hx => (a8 x hx).fd g', fun x hx hn => by rw [e 18 x (by omega), e 19 x (by omega)]; exact a9 x hx hn⟩
theorem okS_lt {σ : Sg} (h : WF σ) {see : Nat → Nat} (hs : okS σ see) (e : Nat) : see e < 1000 := by
  have h1 := hs e
  have h2 := h.1.2.1 e e e
  unfold mny at h1
  omega
theorem okS_ext {σ : Sg} (h : WF σ) {m see : Nat → Nat} (hm : okS σ m) (hs : okS σ see) (he : ∀ e, e < 4 → m e = see e) : m = see := by
  funext e
  by_cases q : e < 4
  · exact he e q
  · have h1 := hm e
    have h2 := hs e
    have h4 := h.1.1
    have := (h.p12 e e e).2.2 (Or.inl (by omega))
    unfold mny at h1 h2
    omega
section
variable {F : CF} {B : CB} {C : CC} {Wr : Nat → Option Nd} {E : Nat → Nat → Bool} {r : AH} {Q : Option AV → AH → Prop} {h : AH} {σ : Sg} {see m : Nat → Nat}
/-- it is drawn already -/
theorem c_Pi_draw0 {a i : Nat} (hW : WF σ) (hP : PE E) (hk : rKd a = 1 ∧ rTg a = 0 ∧ rLn a = 4) (hE : E a i = true) (hm : ∀ e, e < 4 → B a i e = nI (see e)) (hpic : PIC σ see F B C E) (hsS : okS σ see) (hq : Q none (cH F B C Wr E r)) : X M_Pi_draw (rmo M_Pi_draw 0 0) (Zm Q 0 0) 0 (ini M_Pi_draw [.inr (some (5, 0)), .inr (some (2, 0)), .inr (some (a, i))]) [] (cH F B C Wr E r) 0 0 := by
  show X M_Pi_draw _ _ 0 [some (.inr (some (5, 0))), some (.inr (some (2, 0))), some (.inr (some (a, i)))] [] (cH F B C Wr E r) 0 0
  have h5 := hP.1
  refine X_run 2 (pc' := 2) (L' := [some (.inr (some (5, 0))), some (.inr (some (2, 0))), some (.inr (some (a, i)))]) (st' := [.inr (some (a, i)), .inr (some (5, 0))]) rfl ?_
  refine X_callV (vs := [.inr (some (a, i))]) (st := []) (mc := 0) (ms := 0) rfl ok_Pi_isDrawn v_Pi_57 (cH_obj rfl (by assumption)) rfl rfl (Nat.le_of_ble_eq_true rfl) (Nat.le_of_ble_eq_true rfl) (Nat.le_of_ble_eq_true rfl) (Nat.le_of_ble_eq_true rfl) (Nat.le_of_ble_eq_true rfl) (Nat.le_of_ble_eq_true rfl) rfl ?_
  refine c_Pi_isDrawn (see := see) (m := see) hP ⟨hk.1, hk.2.1⟩ hE hk.2.2 (fun e he => ⟨hm e he, okS_lt hW hsS e⟩) (fun e he => ⟨hpic.1 e he, okS_lt hW hsS e⟩) (fun b hb => ?_)
  show X M_Pi_draw _ _ 5 [some (.inr (some (5, 0))), some (.inr (some (2, 0))), some (.inr (some (a, i)))] [.inl (b2i b)] (cH F B C Wr E r) 0 0
  refine X_if_eq (tgt := 9) (nx := 8) rfl rfl rfl (fun n1 => ?_) (fun n1 => ?_)
  · rw [b2i_0] at n1
    rw [hb.mpr (fun e he => rfl)] at n1
    cases n1
  · exact X_vret rfl rfl (Nat.le_refl _) (Nat.le_refl _) hq
theorem c_Pi_draw {a i : Nat} (hW : W2 σ) (hP : PE E) (hL : LG σ F B C E) (hwn : F 5 0 0 = b2i (wn σ)) (hk : rKd a = 1 ∧ rTg a = 0 ∧ rLn a = 4) (hE : E a i = true) (hm : ∀ e, e < 4 → B a i e = nI (m e)) (hmS : okS σ m) (hmC : CL σ m) (hpic : PIC σ see F B C E) (hsS : okS σ see) (hq : ∀ (F' : CF) (B' : CB) (C' : CC) (Wr' : Nat → Option Nd) (E' : Nat → Nat → Bool), FD F B C E F' B' C' E' → PIC σ m F' B' C' E' → Q none (cH F' B' C' Wr' E' r)) : X M_Pi_draw (rmo M_Pi_draw 800 4640) (Zm Q 800 4640) 0 (ini M_Pi_draw [.inr (some (5, 0)), .inr (some (2, 0)), .inr (some (a, i))]) [] (cH F B C Wr E r) 0 0 := by
  have hw := hW.1
  have h5 := hP.1
  have h6 := hP.2.1
  show X M_Pi_draw _ _ 0 [some (.inr (some (5, 0))), some (.inr (some (2, 0))), some (.inr (some (a, i)))] [] (cH F B C Wr E r) 0 0
  refine X_run 2 (pc' := 2) (L' := [some (.inr (some (5, 0))), some (.inr (some (2, 0))), some (.inr (some (a, i)))]) (st' := [.inr (some (a, i)), .inr (some (5, 0))]) rfl ?_
  refine X_callV (vs := [.inr (some (a, i))]) (st := []) (mc := 0) (ms := 0) rfl ok_Pi_isDrawn v_Pi_57 (cH_obj rfl (by assumption)) rfl rfl (Nat.le_of_ble_eq_true rfl) (Nat.le_of_ble_eq_true rfl) (Nat.le_of_ble_eq_true rfl) (Nat.le_of_ble_eq_true rfl) (Nat.le_of_ble_eq_true rfl) (Nat.le_of_ble_eq_true rfl) rfl ?_
  refine c_Pi_isDrawn (see := see) (m := m) hP ⟨hk.1, hk.2.1⟩ hE hk.2.2 (fun e he => ⟨hm e he, okS_lt hw hmS e⟩) (fun e he => ⟨hpic.1 e he, okS_lt hw hsS e⟩) (fun b hb => ?_)
  show X M_Pi_draw _ _ 5 [some (.inr (some (5, 0))), some (.inr (some (2, 0))), some (.inr (some (a, i)))] [.inl (b2i b)] (cH F B C Wr E r) 0 0
  refine X_if_eq (tgt := 9) (nx := 8) rfl rfl rfl (fun n1 => ?_) (fun n1 => ?_)
  rotate_left
  · have n1 : b = true := by
      cases b
      · exact absurd rfl n1
      · rfl
    have e := okS_ext hw hmS hsS (hb.mp n1)
    rw [← e] at hpic
    exact X_vret rfl rfl (Nat.zero_le _) (Nat.zero_le _) (hq _ _ _ _ _ FD.rfl hpic)
  refine X_run 3 (pc' := 12) (L' := [some (.inr (some (5, 0))), some (.inr (some (2, 0))), some (.inr (some (a, i)))]) (st' := [.inr (some (5, 0)), .inl (0), .inr (some (a, i))]) rfl ?_
  refine XC_get (a := 5) (i := 0) (v := .inr (some (6, 0))) rfl f_Pi_9 ⟨rfl, rfl⟩ (by assumption) rfl rfl ?_
  refine X_run 2 (pc' := 17) (L' := [some (.inr (some (5, 0))), some (.inr (some (2, 0))), some (.inr (some (a, i)))]) (st' := [.inl (4), .inl (0), .inr (some (6, 0)), .inl (0), .inr (some (a, i))]) rfl ?_
  refine XC_cpy (a := a) (i := i) (a2 := 6) (j := 0) rfl x_Pi_61 hk hE ⟨rfl, rfl, rfl⟩ h6 (Nat.le_of_ble_eq_true rfl) (Nat.le_of_ble_eq_true rfl) (Nat.le_of_ble_eq_true rfl) rfl (fun f hf => ?_)
  have hL1 : LG σ F (uR B 6 0 f) C E := hL
  have hs1 : ∀ e, e < 4 → (uR B 6 0 f) 6 0 e = nI (m e) ∧ m e < 1000 := fun e he => ⟨by rw [uR_eq, hf e he]; exact hm e he, okS_lt hw hmS e⟩
  refine X_run 2 (pc' := 22) (L' := [some (.inr (some (5, 0))), some (.inr (some (2, 0))), some (.inr (some (a, i)))]) (st' := [.inr (some (2, 0)), .inr (some (5, 0))]) rfl ?_
  refine X_callV (vs := [.inr (some (2, 0))]) (st := []) (mc := 0) (ms := 0) rfl ok_Pi_markUndone v_Pi_67 (cH_obj rfl (by assumption)) rfl rfl (Nat.le_of_ble_eq_true rfl) (Nat.le_of_ble_eq_true rfl) (Nat.le_of_ble_eq_true rfl) (Nat.le_of_ble_eq_true rfl) (Nat.le_of_ble_eq_true rfl) (Nat.le_of_ble_eq_true rfl) rfl ?_
  refine c_Pi_markUndone hP hL1 hs1 (fun x hx h7 => by have := hw.p6 x hx h7; omega) (fun g hg => ?_)
  show X M_Pi_draw _ _ 25 [some (.inr (some (5, 0))), some (.inr (some (2, 0))), some (.inr (some (a, i)))] [] (cH F (uR (uR B 6 0 f) 7 0 g) C Wr E r) 0 0
  rw [unP_eq hw hmS] at hg
  have hL2 : LG σ F (uR (uR B 6 0 f) 7 0 g) C E := hL
  have hs2 : ∀ e, e < 4 → (uR (uR B 6 0 f) 7 0 g) 6 0 e = nI (m e) ∧ m e < 1000 := fun e he => by rw [uR_ne (by omega)]; exact hs1 e he
  refine X_run 2 (pc' := 27) (L' := [some (.inr (some (5, 0))), some (.inr (some (2, 0))), some (.inr (some (a, i)))]) (st' := [.inr (some (2, 0)), .inr (some (5, 0))]) rfl ?_
  refine X_callV (vs := [.inr (some (2, 0))]) (st := []) (mc := 0) (ms := 0) rfl ok_Pi_pickLooked v_Pi_71 (cH_obj rfl (by assumption)) rfl rfl (Nat.le_of_ble_eq_true rfl) (Nat.le_of_ble_eq_true rfl) (Nat.le_of_ble_eq_true rfl) (Nat.le_of_ble_eq_true rfl) (Nat.le_of_ble_eq_true rfl) (Nat.le_of_ble_eq_true rfl) rfl ?_
  refine c_Pi_pickLooked (u := unF σ m) hP hL2 hs2 (fun x hx => by rw [uR_eq]; exact hg x hx) (fun C1 c1 c2 => ?_)
  rw [KF_pk hw hmC] at c2 ⊢
  obtain ⟨K, eK⟩ : ∃ K, K = KF σ m := ⟨_, rfl⟩
  have hKL : KL σ K := by rw [eK]; exact KL_KF hW hmS
  have eth : thP σ K = thF σ m := by rw [eK]; exact thP_KF hw hmS
  rw [← eK] at c2 ⊢
  obtain ⟨F1, eF1⟩ : ∃ F1, F1 = u3 F 5 0 4 (nI K.length) := ⟨_, rfl⟩
  obtain ⟨B1, eB1⟩ : ∃ B1, B1 = uR (uR B 6 0 f) 7 0 g := ⟨_, rfl⟩
  have fd1 : FD F B C E F1 B1 C1 E := ⟨fun a i k h1 h2 h3 => by rw [eF1, u3_ne (by omega)], fun a i h1 h2 h3 h4 h5 => by rw [eB1, uR_ne (by omega), uR_ne (by omega)], fun a h1 h2 h3 h4 h5 => c1 a h1, fun _ _ _ _ _ _ _ => rfl⟩
  have hT1 : TX (thF σ see) F1 C1 E := fun t ht => by
    rw [c1 9 (by decide), eF1, u3_ne (by omega), u3_ne (by omega)]
    exact hpic.2.1 t ht
  have hLK1 : LK K F1 C1 := ⟨by rw [eF1, u3_eq], c2⟩
  have hs3 : ∀ e, e < 4 → B1 6 0 e = nI (m e) := fun e he => by rw [eB1]; exact (hs2 e he).1
  rw [← eF1, ← eB1]
  show X M_Pi_draw _ _ 30 [some (.inr (some (5, 0))), some (.inr (some (2, 0))), some (.inr (some (a, i)))] [] (cH F1 B1 C1 Wr E r) 0 0
  refine X_run 1 (pc' := 31) (L' := [some (.inr (some (5, 0))), some (.inr (some (2, 0))), some (.inr (some (a, i)))]) (st' := [.inr (some (5, 0))]) rfl ?_
  have hDE1 : ∀ x, x ∈ K → DE σ F1 B1 E x := fun x hx => by
    rw [eK] at hx
    exact (hL.2.2.2.2.2.2.2.1 x (List.mem_filter.mp hx).1).fd fd1
  refine X_callV (vs := []) (st := []) (mc := 480) (ms := 2880) rfl ok_Pi_layThings v_Pi_74 (cH_obj rfl (by assumption)) rfl rfl (Nat.le_of_ble_eq_true rfl) (Nat.le_of_ble_eq_true rfl) (Nat.le_of_ble_eq_true rfl) (Nat.le_of_ble_eq_true rfl) (Nat.le_of_ble_eq_true rfl) (Nat.le_of_ble_eq_true rfl) rfl ?_
  refine c_Pi_layThings (th := thF σ see) hP hT1 hKL hLK1 hDE1 (fun F2 B2 C2 W2 E2 hTR hFL => ?_)
  show X M_Pi_draw _ _ 34 [some (.inr (some (5, 0))), some (.inr (some (2, 0))), some (.inr (some (a, i)))] [] (cH F2 B2 C2 W2 E2 r) 480 2880
  have fd2 := fd1.trans hFL.fd
  have hLK2 : LK K F2 C2 := ⟨by rw [hFL.1 5 0 4 (by decide) (by decide)]; exact hLK1.1, by rw [hFL.2.2.1 8 (by decide) (by decide)]; exact hLK1.2⟩
  have hwn2 : F2 5 0 0 = b2i (wn σ) := by rw [fd2.1 5 0 0 (by decide) (by decide) (by decide)]; exact hwn
  have h52 := hTR.1.1
  refine X_run 1 (pc' := 35) (L' := [some (.inr (some (5, 0))), some (.inr (some (2, 0))), some (.inr (some (a, i)))]) (st' := [.inr (some (5, 0))]) rfl ?_
  refine X_callV (vs := []) (st := []) (mc := 0) (ms := 0) rfl ok_Pi_judgeStrikes v_Pi_77 (cH_obj rfl (by assumption)) rfl rfl (Nat.le_of_ble_eq_true rfl) (Nat.le_of_ble_eq_true rfl) (Nat.le_of_ble_eq_true rfl) (Nat.le_of_ble_eq_true rfl) (Nat.le_of_ble_eq_true rfl) (Nat.le_of_ble_eq_true rfl) rfl ?_
  refine c_Pi_judgeStrikes (K := K) (W := fun _ => none) ⟨hTR.1, hTR.2.1, hTR.2.2.1, hTR.2.2.2.1, hLK2, hwn2, fun x hx => (hDE1 x hx).fl hFL, fun t ht hh => hTR.2.2.2.2 t ht hh⟩ hKL (fun F3 g1 hJ => ?_)
  show X M_Pi_draw _ _ 38 [some (.inr (some (5, 0))), some (.inr (some (2, 0))), some (.inr (some (a, i)))] [] (cH F3 B2 C2 W2 E2 r) 480 2880
  have fd3 : FD F B C E F3 B2 C2 E2 := fd2.trans ⟨fun a i k h1 h2 h3 => g1 a i k (by omega), fun _ _ _ _ _ _ _ => rfl, fun _ _ _ _ _ _ => rfl, fun _ _ _ _ _ _ _ => rfl⟩
  have hth : ∀ t, t < 160 → thP σ K t = true → thF σ m t = true := fun t _ hh => by rw [← eth]; exact hh
  have hnm : ∀ t, t < 160 → thP σ K t = true → (tsP σ K t).1 = nI (nmN σ m t) ∧ nmN σ m t < 1000 := fun t ht hh => by
    have q := nm_rng hw hmS (hth t ht hh)
    rw [eK, ts1 hW hmS (hth t ht hh)]
    exact ⟨q.1, q.2.2⟩
  refine X_run 1 (pc' := 39) (L' := [some (.inr (some (5, 0))), some (.inr (some (2, 0))), some (.inr (some (a, i)))]) (st' := [.inr (some (5, 0))]) rfl ?_
  refine X_callV (vs := []) (st := []) (mc := 0) (ms := 0) rfl ok_Pi_chooseKeepers v_Pi_80 (cH_obj rfl (by assumption)) rfl rfl (Nat.le_of_ble_eq_true rfl) (Nat.le_of_ble_eq_true rfl) (Nat.le_of_ble_eq_true rfl) (Nat.le_of_ble_eq_true rfl) (Nat.le_of_ble_eq_true rfl) (Nat.le_of_ble_eq_true rfl) rfl ?_
  refine c_Pi_chooseKeepers (K := K) (nm := nmN σ m) hJ hKL hnm (fun C3 k1 k2 => ?_)
  show X M_Pi_draw _ _ 42 [some (.inr (some (5, 0))), some (.inr (some (2, 0))), some (.inr (some (a, i)))] [] (cH F3 B2 C3 W2 E2 r) 480 2880
  have fd4 : FD F B C E F3 B2 C3 E2 := fd3.trans ⟨fun _ _ _ _ _ _ => rfl, fun _ _ _ _ _ _ _ => rfl, fun a h1 h2 h3 h4 h5 => k1 a h4, fun _ _ _ _ _ _ _ => rfl⟩
  obtain ⟨j1, j2, j3, j4, j5, j6, j7, j8⟩ := hJ
  have hRX : RX C3 E2 := fun i hi => by
    rw [k1 14 (by decide), hFL.2.2.1 14 (by decide) (by decide), c1 14 (by decide), hFL.2.2.2.1 23 i (by decide) (by decide) (by decide), hFL.2.2.2.1 24 i (by decide) (by decide) (by decide)]
    exact hpic.2.2.1 i hi
  have hG : GJ σ K (skP σ K K) (nmN σ m) F3 B2 C3 E2 := by
    refine ⟨j1, fun t ht => by rw [k1 9 (by decide)]; exact j2 t ht, ⟨j3.1, j3.2.1, j3.2.2.1, fun k t hk => by rw [k1 12 (by decide)]; exact j3.2.2.2 k t hk⟩, j4, ⟨j5.1, by rw [k1 8 (by decide)]; exact j5.2⟩, j7, fun t ht hh => ?_, fun v x hv hx => by rw [k2 v hv, hx], hRX⟩
    obtain ⟨v1, v2, v3⟩ := j8 t ht hh
    exact ⟨v1, v3, by rw [v3.1]; exact (hnm t ht hh).1, (hnm t ht hh).2⟩
  refine X_run 1 (pc' := 43) (L' := [some (.inr (some (5, 0))), some (.inr (some (2, 0))), some (.inr (some (a, i)))]) (st' := [.inr (some (5, 0))]) rfl ?_
  refine X_callV (vs := []) (st := []) (mc := 320) (ms := 1760) rfl ok_Pi_gatherRows v_Pi_83 (cH_obj rfl (by assumption)) rfl rfl (Nat.le_of_ble_eq_true rfl) (Nat.le_of_ble_eq_true rfl) (Nat.le_of_ble_eq_true rfl) (Nat.le_of_ble_eq_true rfl) (Nat.le_of_ble_eq_true rfl) (Nat.le_of_ble_eq_true rfl) rfl ?_
  refine c_Pi_gatherRows (K := K) hG hKL (fun t ht hh => (j8 t ht hh).2.1) (fun F4 B4 C4 W4 E4 hFG hRX4 hn4 hrow => ?_)
  show X M_Pi_draw _ _ 46 [some (.inr (some (5, 0))), some (.inr (some (2, 0))), some (.inr (some (a, i)))] [] (cH F4 B4 C4 W4 E4 r) 800 4640
  obtain ⟨-, i2, i3, i4, -, -, i7, -, -⟩ := hG.fg hFG hRX4
  have eR : (odP σ K).filter (kpQ σ K (skP σ K K) (nmN σ m)) = KPF σ m := by rw [eK]; exact R_KPF hW hmS
  rw [eR] at hn4 hrow
  refine X_vret rfl rfl (Nat.le_refl _) (Nat.le_refl _) (hq _ _ _ _ _ (fd4.trans hFG.fd) ⟨fun e he => ?_, ?_, hRX4, fun t ht hh => ?_, hn4, ?_, fun j kx hj => ?_⟩)
  · rw [hFG.2.1 6 0 (by decide), hFL.2.1 6 0 (by decide) (by decide)]
    exact hs3 e he
  · rw [← eth]
    exact i2
  · have hh' : thP σ K t = true := by rw [eth]; exact hh
    obtain ⟨v1, ⟨w1, w2, w3, -⟩, -, -⟩ := i7 t ht hh'
    obtain ⟨k, hk'⟩ := mem_idx ((i4 t ht).mp hh')
    have p6 := (i3.2.2.2 k t hk').2.1
    rw [eK, odP_KF] at hk'
    rw [eK, sk_stk hW hmS hh] at v1
    rw [eK, ts1 hW hmS hh] at w1
    rw [eK, ts2 hW hmS hh] at w2
    rw [eK, ts3 hW hmS hh] at w3
    exact ⟨v1, w1, w2, w3, by rw [p6, idx_of (OD_nodup hw hmS) hk']⟩
  · refine Nat.le_trans (List.length_filter_le _ _) ?_
    rw [← odP_KF, ← eK]
    exact i3.2.1
  · have kth := (KPF_th hw hmS (List.mem_of_getElem? hj)).1
    obtain ⟨r1, r2, r3, r4, r5, r6, r7, r8⟩ := hrow j kx hj
    rw [eK, rc_rs1 hW hmS kth] at r5
    rw [eK, rc_rs2 hW hmS kth] at r6
    rw [eK, rc_rn hW hmS kth] at r7
    rw [eK, rb_db hW hmS kth] at r8
    exact ⟨r1, r2, r3, by rw [r4, (nm_rng hw hmS kth).1], r5, r6, r7, r8⟩
end

