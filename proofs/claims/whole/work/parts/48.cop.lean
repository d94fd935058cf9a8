/-! the component: a deed is done -/
/-- what doing a deed leaves as it was -/
def FP (F : CF) (B : CB) (C : CC) (E : Nat → Nat → Bool) (F' : CF) (B' : CB) (C' : CC) (E' : Nat → Nat → Bool) : Prop := (∀ a i k, a ≠ 2 → a ≠ 18 → F' a i k = F a i k) ∧ (∀ a i, a ≠ 17 → a ≠ 19 → B' a i = B a i) ∧ (∀ a, a ≠ 3 → a ≠ 4 → C' a = C a) ∧ (∀ a i, a ≠ 18 → a ≠ 19 → E' a i = E a i)
section
variable {F : CF} {B : CB} {C : CC} {Wr : Nat → Option Nd} {E : Nat → Nat → Bool} {r : AH} {Q : Option AV → AH → Prop} {h : AH} {σ : Sg} {see m : Nat → Nat}
theorem c_Pl_perform {d w t : Nat} {am nm v n : Int32} (hW : W2 σ) (hI : BI σ F B C E) (ok : okD σ d w t v n) (hv : (w = 0 ∨ w = 1 ∨ w = 2 ∨ w = 5) → am = v) (hn0 : w = 0 → nm = n) (hn6 : w = 6 → nm = v) (hq : ∀ (F' : CF) (B' : CB) (C' : CC) (E' : Nat → Nat → Bool), BI (doS σ d w t v n) F' B' C' E' → FP F B C E F' B' C' E' → Q none (cH F' B' C' Wr E' r)) : X M_Pl_perform (rmo M_Pl_perform 2 12) (Zm Q 2 12) 0 (ini M_Pl_perform [.inr (some (0, 0)), .inr (some (15, d)), .inl (nI w), .inl (nI t), .inl am, .inl nm]) [] (cH F B C Wr E r) 0 0 := by
  have hw := hW.1
  have hW' := doS_W2 hW ok
  obtain ⟨o1, o2, o3, o4, -⟩ := ok
  obtain ⟨i1, i2, i3, i4, i5, i6, i7, i8, i9, i10, i11, i12⟩ := hI
  obtain ⟨d4, h15, h16, hn15, hr⟩ := i11 d o1
  have h17 := (hr d d4).1
  obtain ⟨x, ex⟩ : ∃ x, x = 40 * d + mny σ d := ⟨_, rfl⟩
  have xm : x % 40 = mny σ d := by omega
  have xd : x / 40 = d := by omega
  have x160 : x < 160 := by omega
  have xn : x ∉ ln σ := fun z => by
    have := ((hw.p2 x).mp z).2
    rw [xm, xd] at this
    omega
  obtain ⟨l1, l2, l3, l4, l5, l6, l7, l8, l9⟩ := i4
  obtain ⟨e18, e19⟩ := l9 x x160 xn
  have hm : ∀ e, e < 4 → B 17 (4 * d + d) e = nI (rk σ d d e) ∧ rk σ d d e ≤ 40 ∧ (rk σ d d e ≠ 0 → 40 * e + (rk σ d d e - 1) ∈ ln σ) := fun e he => ⟨((hr d d4).2 e he).1, ((hr d d4).2 e he).2, fun z => hw.known (d := d) he (by omega)⟩
  show X M_Pl_perform _ _ 0 [some (.inr (some (0, 0))), some (.inr (some (15, d))), some (.inl (nI w)), some (.inl (nI t)), some (.inl (am)), some (.inl (nm)), none] [] (cH F B C Wr E r) 0 0
  refine X_run 1 (pc' := 1) (L' := [some (.inr (some (0, 0))), some (.inr (some (15, d))), some (.inl (nI w)), some (.inl (nI t)), some (.inl (am)), some (.inl (nm)), none]) (st' := [.inr (some (0, 0))]) rfl ?_
  refine XC_get (a := 0) (i := 0) (v := .inr (some (2, 0))) rfl f_Pl_22 ⟨rfl, rfl⟩ (by assumption) rfl rfl ?_
  refine X_run 1 (pc' := 5) (L' := [some (.inr (some (0, 0))), some (.inr (some (15, d))), some (.inl (nI w)), some (.inl (nI t)), some (.inl (am)), some (.inl (nm)), none]) (st' := [.inr (some (15, d)), .inr (some (2, 0))]) rfl ?_
  refine X_callV (vs := []) (st := [.inr (some (2, 0))]) (mc := 0) (ms := 0) rfl ok_Dv_known v_Pl_59 (cH_obj rfl (by assumption)) rfl rfl (Nat.le_of_ble_eq_true rfl) (Nat.le_of_ble_eq_true rfl) (Nat.le_of_ble_eq_true rfl) (Nat.le_of_ble_eq_true rfl) (Nat.le_of_ble_eq_true rfl) (Nat.le_of_ble_eq_true rfl) rfl ?_
  refine c_Dv_known d4 h15 h16 hn15 ?_
  show X M_Pl_perform _ _ 8 [some (.inr (some (0, 0))), some (.inr (some (15, d))), some (.inl (nI w)), some (.inl (nI t)), some (.inl (am)), some (.inl (nm)), none] [.inr (some (17, 4 * d + d)), .inr (some (2, 0))] (cH F B C Wr E r) 0 0
  refine X_callV (vs := [.inr (some (17, 4 * d + d))]) (st := []) (mc := 0) (ms := 0) rfl ok_Lg_stampAfter v_Pl_144 (cH_obj rfl (by assumption)) rfl rfl (Nat.le_of_ble_eq_true rfl) (Nat.le_of_ble_eq_true rfl) (Nat.le_of_ble_eq_true rfl) (Nat.le_of_ble_eq_true rfl) (Nat.le_of_ble_eq_true rfl) (Nat.le_of_ble_eq_true rfl) rfl ?_
  refine c_Lg_stampAfter (m := rk σ d d) ⟨l1, l2, l3, l4, l5, l6, l7, l8, l9⟩ h17 hm ?_
  show X M_Pl_perform _ _ 11 [some (.inr (some (0, 0))), some (.inr (some (15, d))), some (.inl (nI w)), some (.inl (nI t)), some (.inl (am)), some (.inl (nm)), none] [.inl (nI (saF σ (rk σ d d) 4 + 1))] (cH F B C Wr E r) 0 0
  refine X_eq (st' := [.inl (nI (stpF σ d))]) rfl (congrArg (fun zz9 => Sum.inl zz9 :: _) ((by rw [sa_stp hw]))) rfl ?_
  refine X_run 2 (pc' := 14) (L' := [some (.inr (some (0, 0))), some (.inr (some (15, d))), some (.inl (nI w)), some (.inl (nI t)), some (.inl (am)), some (.inl (nm)), some (.inl (nI (stpF σ d)))]) (st' := [.inr (some (15, d))]) rfl ?_
  refine X_callV (vs := []) (st := []) (mc := 0) (ms := 0) rfl ok_Dv_noteOwnDeed v_Pl_147 (cH_obj rfl (by assumption)) rfl rfl (Nat.le_of_ble_eq_true rfl) (Nat.le_of_ble_eq_true rfl) (Nat.le_of_ble_eq_true rfl) (Nat.le_of_ble_eq_true rfl) (Nat.le_of_ble_eq_true rfl) (Nat.le_of_ble_eq_true rfl) rfl ?_
  refine c_Dv_noteOwnDeed (m := mny σ d) d4 h15 h16 h17 hn15 (hm d d4).1 ?_
  obtain ⟨B1, eB1⟩ : ∃ B1, B1 = u3 B 17 (4 * d + d) d (nI (mny σ d + 1)) := ⟨_, rfl⟩
  rw [← eB1]
  show X M_Pl_perform _ _ 17 [some (.inr (some (0, 0))), some (.inr (some (15, d))), some (.inl (nI w)), some (.inl (nI t)), some (.inl (am)), some (.inl (nm)), some (.inl (nI (stpF σ d)))] [] (cH F B1 C Wr E r) 0 0
  refine X_run 1 (pc' := 18) (L' := [some (.inr (some (0, 0))), some (.inr (some (15, d))), some (.inl (nI w)), some (.inl (nI t)), some (.inl (am)), some (.inl (nm)), some (.inl (nI (stpF σ d)))]) (st' := [.inr (some (0, 0))]) rfl ?_
  refine XC_get (a := 0) (i := 0) (v := .inr (some (2, 0))) rfl f_Pl_22 ⟨rfl, rfl⟩ (by assumption) rfl rfl ?_
  refine X_new (n := (18, x)) (ci := 0) (q := (R_De, T_De, 8)) (t := t_De) (nx := 24) rfl rfl rfl c_Pl_132 (cH_none (by decide) e18) (Nat.le_of_ble_eq_true rfl) (Nat.le_of_ble_eq_true rfl) rfl ?_
  refine X_run 2 (pc' := 26) (L' := [some (.inr (some (0, 0))), some (.inr (some (15, d))), some (.inl (nI w)), some (.inl (nI t)), some (.inl (am)), some (.inl (nm)), some (.inl (nI (stpF σ d)))]) (st' := [.inr (some (15, d)), .inr (some (18, x)), .inr (some (18, x)), .inr (some (2, 0))]) rfl ?_
  have q15 : hset (cH F B1 C Wr E r) (18, x) (.inr (.inr (0, fun k => df (t_De k)))) (15, d) = some (.inr (.inr (1, cV F Wr 15 d))) := by
    rw [hset_ne _ _ (by simp)]
    exact cH_obj rfl h15
  have q16 : hset (cH F B1 C Wr E r) (18, x) (.inr (.inr (0, fun k => df (t_De k)))) (16, d) = some (.inr (.inl (6, 4, cR C 16 d))) := by
    rw [hset_ne _ _ (by simp)]
    exact cH_ref rfl h16
  have q17 : hset (cH F B1 C Wr E r) (18, x) (.inr (.inr (0, fun k => df (t_De k)))) (17, 4 * d + d) = some (.inl (0, 4, B1 17 (4 * d + d))) := by
    rw [hset_ne _ _ (by simp)]
    exact cH_int rfl h17
  have q19 : hset (cH F B1 C Wr E r) (18, x) (.inr (.inr (0, fun k => df (t_De k)))) (19, x) = none := by
    rw [hset_ne _ _ (by simp)]
    exact cH_none (by decide) e19
  refine X_get (v := .inl (F 15 d 0)) rfl f_Pl_56 q15 rfl rfl ?_
  refine X_eq (st' := [.inl (nI d), .inr (some (18, x)), .inr (some (18, x)), .inr (some (2, 0))]) rfl (congrArg (fun zz9 => Sum.inl zz9 :: _) (hn15)) rfl ?_
  refine X_run 6 (pc' := 38) (L' := [some (.inr (some (0, 0))), some (.inr (some (15, d))), some (.inl (nI w)), some (.inl (nI t)), some (.inl (am)), some (.inl (nm)), some (.inl (nI (stpF σ d)))]) (st' := [.inr (some (15, d)), .inl (nm), .inl (am), .inl (nI t), .inl (nI (stpF σ d)), .inl (nI w), .inl (nI d), .inr (some (18, x)), .inr (some (18, x)), .inr (some (2, 0))]) rfl ?_
  refine X_callVw (vs := []) (st := [.inl nm, .inl am, .inl (nI t), .inl (nI (stpF σ d)), .inl (nI w), .inl (nI d), .inr (some (18, x)), .inr (some (18, x)), .inr (some (2, 0))]) (mc := 0) (ms := 0) rfl ok_Dv_known v_Pl_59 q15 rfl rfl (Nat.le_of_ble_eq_true rfl) (Nat.le_of_ble_eq_true rfl) (Nat.le_of_ble_eq_true rfl) (Nat.le_of_ble_eq_true rfl) (Nat.le_of_ble_eq_true rfl) (Nat.le_of_ble_eq_true rfl) rfl ?_
  refine c_Dv_knownG d4 q15 (congrArg Sum.inl hn15) rfl q16 (if_pos d4) ?_
  show X M_Pl_perform _ _ 41 [some (.inr (some (0, 0))), some (.inr (some (15, d))), some (.inl (nI w)), some (.inl (nI t)), some (.inl (am)), some (.inl (nm)), some (.inl (nI (stpF σ d)))] [.inr (some (17, 4 * d + d)), .inl (nm), .inl (am), .inl (nI t), .inl (nI (stpF σ d)), .inl (nI w), .inl (nI d), .inr (some (18, x)), .inr (some (18, x)), .inr (some (2, 0))] (hset (cH F B1 C Wr E r) (18, x) (.inr (.inr (0, fun k => df (t_De k))))) (0 + 1) (0 + 8)
  refine X_cloneW (n := (17, 4 * d + d)) (n1 := (19, x)) (len := 4) (f := B1 17 (4 * d + d)) (nx := 44) rfl x_Pl_150 q17 q19 (Nat.le_of_ble_eq_true rfl) (Nat.le_of_ble_eq_true rfl) (Nat.le_of_ble_eq_true rfl) (Nat.le_of_ble_eq_true rfl) (Nat.le_of_ble_eq_true rfl) rfl ?_
  obtain ⟨B2, eB2⟩ : ∃ B2, B2 = uR B1 19 x (B1 17 (4 * d + d)) := ⟨_, rfl⟩
  have eH : hset (hset (cH F B1 C Wr E r) (18, x) (.inr (.inr (0, fun k => df (t_De k))))) (19, x) (.inl (0, 4, B1 17 (4 * d + d))) = hset (cH F B2 C Wr (e2 E 19 x) r) (18, x) (.inr (.inr (0, fun k => df (t_De k)))) := by
    rw [hset_sw _ _ _ (by simp), eB2]
    exact congrArg (fun z => hset z (18, x) (.inr (.inr (0, fun k => df (t_De k))))) (cH_alI (a := 19) (i := x) rfl (B1 17 (4 * d + d)))
  rw [eH]
  have p19 : hset (cH F B2 C Wr (e2 E 19 x) r) (18, x) (.inr (.inr (0, fun k => df (t_De k)))) (19, x) = some (.inl (0, 4, B2 19 x)) := by
    rw [hset_ne _ _ (by simp)]
    exact cH_int rfl (e2_eq _ _ _)
  refine X_castI (nx := 47) (len := 4) (f := B2 19 x) rfl c_Pl_151 p19 rfl ?_
  refine X_callI (vs := [.inl (nI d), .inl (nI w), .inl (nI (stpF σ d)), .inl (nI t), .inl (am), .inl (nm), .inr (some (19, x))]) (st := [.inr (some (18, x)), .inr (some (2, 0))]) (mc := 0) (ms := 0) rfl ok_De_init i_Pl_156 rfl rfl (Nat.le_of_ble_eq_true rfl) (Nat.le_of_ble_eq_true rfl) (Nat.le_of_ble_eq_true rfl) (Nat.le_of_ble_eq_true rfl) (Nat.le_of_ble_eq_true rfl) (Nat.le_of_ble_eq_true rfl) rfl ?_
  have b1d : ∀ e, e < 4 → B1 17 (4 * d + d) e = nI (if e = d then mny σ d + 1 else rk σ d d e) := fun e he => by
    rw [eB1]
    by_cases q : e = d
    · rw [q, u3_eq, if_pos rfl]
    · rw [u3_ne (by rintro ⟨-, -, z⟩; exact q z), if_neg q]
      exact (hm e he).1
  have b2x : ∀ e, e < 4 → B2 19 x e = nI (if e = d then mny σ d + 1 else rk σ d d e) := fun e he => by
    rw [eB2, uR_eq]
    exact b1d e he
  refine c_De_init (m := mny σ d) d4 (e2_eq _ _ _) (by rw [b2x d d4, if_pos rfl]) (fun f f0 f1 f2 f3 f4 f5 f6 => ?_)
  show X M_Pl_perform _ _ 50 [some (.inr (some (0, 0))), some (.inr (some (15, d))), some (.inl (nI w)), some (.inl (nI t)), some (.inl (am)), some (.inl (nm)), some (.inl (nI (stpF σ d)))] [.inr (some (18, x)), .inr (some (2, 0))] (cH (uR F 18 x f) B2 C Wr (e2 (e2 E 19 x) 18 x) r) 2 12
  obtain ⟨F3, eF3⟩ : ∃ F3, F3 = uR F 18 x f := ⟨_, rfl⟩
  obtain ⟨E3, eE3⟩ : ∃ E3, E3 = e2 (e2 E 19 x) 18 x := ⟨_, rfl⟩
  rw [← eF3, ← eE3]
  have hF3 : ∀ a i k, ¬ (a = 18 ∧ i = x) → F3 a i k = F a i k := fun a i k hh => by rw [eF3, uR_ne hh]
  have hE3 : ∀ a i, ¬ ((a = 18 ∨ a = 19) ∧ i = x) → E3 a i = E a i := fun a i hh => by rw [eE3, e2_ne (by omega), e2_ne (by omega)]
  have hB2 : ∀ a i, ¬ (a = 19 ∧ i = x) → ¬ (a = 17 ∧ i = 4 * d + d) → B2 a i = B a i := fun a i h1 h2 => by
    rw [eB2, uR_ne h1, eB1]
    funext k
    rw [u3_ne (by rintro ⟨z1, z2, -⟩; exact h2 ⟨z1, z2⟩)]
  have hE18 : E3 18 x = true := by rw [eE3]; exact e2_eq _ _ _
  have hE19 : E3 19 x = true := by rw [eE3]; exact e2_mono (e2_eq _ _ _)
  obtain ⟨τ, eτ⟩ : ∃ τ, τ = doS σ d w t v n := ⟨_, rfl⟩
  have t1 : ∀ y, so τ y = if y = x then w else so σ y := fun y => by rw [eτ, ex]; rfl
  have t2 : ∀ y, sp τ y = if y = x then stpF σ d else sp σ y := fun y => by rw [eτ, ex]; rfl
  have t3 : ∀ y, tg τ y = if y = x then t else tg σ y := fun y => by rw [eτ, ex]; rfl
  have t4 : ∀ y, vl τ y = if y = x then v else vl σ y := fun y => by rw [eτ, ex]; rfl
  have t5 : ∀ y, nu τ y = if y = x then n else nu σ y := fun y => by rw [eτ, ex]; rfl
  have t6 : ∀ y, kn τ y = if y = x then rk σ d d else kn σ y := fun y => by rw [eτ, ex]; rfl
  have t7 : ∀ a b c, rk τ a b c = if a = d ∧ b = d ∧ c = d then mny σ d + 1 else rk σ a b c := fun a b c => by rw [eτ]; rfl
  have kwx : ∀ e, e < 4 → kw τ x e = if e = d then mny σ d + 1 else rk σ d d e := fun e he => by
    unfold kw
    rw [t6, if_pos rfl, xd]
    by_cases q : e = d
    · rw [if_pos q, if_pos q, q]
      rfl
    · rw [if_neg q, if_neg q]
      rfl
  have hDx : DE τ F3 B2 E3 x := by
    refine ⟨x160, hE18, hE19, ?_⟩
    rw [eF3, uR_eq, t1, t2, t3, t4, t5, if_pos rfl, if_pos rfl, if_pos rfl, if_pos rfl, if_pos rfl, xd, xm]
    refine ⟨f0, f1, f2, f3, f4, fun z => by rw [f5]; exact hv z, fun z => by rw [f6]; exact hn0 z, fun z => by rw [f6]; exact hn6 z, fun e he => ?_, o3, ?_, o4⟩
    · rw [b2x e he, kwx e he]
      refine ⟨rfl, ?_⟩
      have := (hm e he).2.1
      split <;> omega
    · have h1 := hw.stp d
      have h2 := hw.len
      omega
  have hDl : ∀ y, y ∈ ln σ → DE τ F3 B2 E3 y := fun y hy => by
    have yx : y ≠ x := fun z => xn (z ▸ hy)
    obtain ⟨a1, a2, a3, a4⟩ := l8 y hy
    refine ⟨a1, by rw [hE3 18 y (by omega)]; exact a2, by rw [hE3 19 y (by omega)]; exact a3, ?_⟩
    have ek : ∀ e, kw τ y e = kw σ y e := fun e => by
      unfold kw
      rw [t6, if_neg yx]
    simp only [ek]
    rw [hF3 18 y 0 (by omega), hF3 18 y 1 (by omega), hF3 18 y 2 (by omega), hF3 18 y 3 (by omega), hF3 18 y 4 (by omega), hF3 18 y 5 (by omega), hF3 18 y 6 (by omega), hB2 19 y (by omega) (by omega), t1, t2, t3, t4, t5, if_neg yx, if_neg yx, if_neg yx, if_neg yx, if_neg yx]
    exact a4
  refine X_callV (vs := [.inr (some (18, x))]) (st := []) (mc := 0) (ms := 0) rfl ok_Lg_add v_Pl_159 (cH_obj rfl (by rw [hE3 2 0 (by omega)]; exact l1)) rfl rfl (Nat.le_of_ble_eq_true rfl) (Nat.le_of_ble_eq_true rfl) (Nat.le_of_ble_eq_true rfl) (Nat.le_of_ble_eq_true rfl) (Nat.le_of_ble_eq_true rfl) (Nat.le_of_ble_eq_true rfl) rfl ?_
  refine c_Lg_add (τ := τ) (l := ln σ) (by rw [hE3 2 0 (by omega)]; exact l1) (fun i => by rw [hE3 3 i (by omega)]; exact l2 i) (fun i => by rw [hE3 4 i (by omega)]; exact l3 i) (by rw [hF3 2 0 2 (by omega)]; exact l4) ?_ l6 hDl hDx (fun C' k k1 k2 k3 k4 k5 k6 => ?_)
  · have h13 := hw.p13
    have b0 := hw.1.2.1 0 0 0
    have b1 := hw.1.2.1 1 1 1
    have b2 := hw.1.2.1 2 2 2
    have b3 := hw.1.2.1 3 3 3
    unfold mny at h13 o2
    rcases (show d = 0 ∨ d = 1 ∨ d = 2 ∨ d = 3 by omega) with q | q | q | q <;> rw [q] at o2 <;> omega
  show X M_Pl_perform _ _ 53 [some (.inr (some (0, 0))), some (.inr (some (15, d))), some (.inl (nI w)), some (.inl (nI t)), some (.inl (am)), some (.inl (nm)), some (.inl (nI (stpF σ d)))] [] (cH (u3 F3 2 0 2 (nI ((ln σ).length + 1))) B2 C' Wr E3 r) 2 12
  have hah : ∀ y, y ∈ ln σ → ahd τ x y = aft σ d y := fun y hy => by
    have yx : y ≠ x := fun z => xn (z ▸ hy)
    unfold ahd aft
    rw [t2, t2, if_pos rfl, if_neg yx, xd]
  obtain ⟨c1, c2⟩ := cut_eq (σ := σ) (a := aft σ d) hw.p3 (aft_up d) k1 (fun j y hj hy => by rw [← hah y (List.mem_of_getElem? hy)]; exact k2 j y hj hy) (by
    rcases k3 with k3 | ⟨y, y1, y2⟩
    · exact Or.inl k3
    · exact Or.inr ⟨y, y1, by rw [← hah y (List.mem_of_getElem? y1)]; exact y2⟩)
  have eln : ln τ = (ln σ).take k ++ x :: (ln σ).drop k := by rw [c1, c2, eτ, ex]; rfl
  have elen : (ln τ).length = (ln σ).length + 1 := by
    have := congrArg List.length (List.take_append_drop k (ln σ))
    rw [List.length_append] at this
    rw [eln, List.length_append, List.length_cons]
    omega
  have emem : ∀ y, y ∈ ln τ ↔ y ∈ ln σ ∨ y = x := fun y => by
    rw [eln, List.mem_append, List.mem_cons]
    have h1 : y ∈ ln σ ↔ y ∈ (ln σ).take k ∨ y ∈ (ln σ).drop k := by
      rw [← List.mem_append, List.take_append_drop]
    rw [h1]
    constructor
    · rintro (q | q | q)
      · exact Or.inl (Or.inl q)
      · exact Or.inr q
      · exact Or.inl (Or.inr q)
    · rintro ((q | q) | q)
      · exact Or.inl q
      · exact Or.inr (Or.inr q)
      · exact Or.inr (Or.inl q)
  rw [← eτ] at hq hW'
  refine X_vret rfl rfl (Nat.le_refl _) (Nat.le_refl _) (hq _ _ _ _ ⟨?_, fun i => ?_, ?_, ⟨?_, fun i => ?_, fun i => ?_, ?_, ?_, ?_, fun y hy => ?_, fun y hy => ?_, fun y hy hny => ?_⟩, ?_, ?_, ?_, ?_, ?_, fun a ha => ?_, fun a ha => ?_, fun a ha hna => ?_⟩ ⟨fun a i k h1 h2 => ?_, fun a i h1 h2 => ?_, fun a h1 h2 => ?_, fun a i h1 h2 => ?_⟩)
  · rw [hE3 0 0 (by omega)]
    exact i1
  · rw [hE3 1 i (by omega)]
    exact i2 i
  · obtain ⟨pa, pb, pc, pd⟩ := i3
    refine ⟨by rw [hE3 5 0 (by omega)]; exact pa, by rw [hE3 6 0 (by omega)]; exact pb, by rw [hE3 7 0 (by omega)]; exact pc, fun a ha i => ?_⟩
    rw [hE3 a i (by omega)]
    exact pd a ha i
  · rw [hE3 2 0 (by omega)]
    exact l1
  · rw [hE3 3 i (by omega)]
    exact l2 i
  · rw [hE3 4 i (by omega)]
    exact l3 i
  · rw [u3_eq, elen]
  · exact hW'.1.len
  · rw [eln]
    exact k6
  · rw [k5 y]
    by_cases q : y = x
    · rw [if_pos q, if_pos ((emem y).mpr (Or.inr q)), q]
    · rw [if_neg q, l7 y hy]
      by_cases q2 : y ∈ ln σ
      · rw [if_pos q2, if_pos ((emem y).mpr (Or.inl q2))]
      · rw [if_neg q2, if_neg (fun z => ((emem y).mp z).elim q2 q)]
  · rcases (emem y).mp hy with q | q
    · exact hDl y q
    · rw [q]
      exact hDx
  · have q1 : y ∉ ln σ := fun z => hny ((emem y).mpr (Or.inl z))
    have q2 : y ≠ x := fun z => hny ((emem y).mpr (Or.inr z))
    rw [hE3 18 y (by omega), hE3 19 y (by omega)]
    exact l9 y hy q1
  · rw [u3_ne (by omega), hF3 _ _ _ (by omega), i5, eτ]
    rfl
  · rw [u3_ne (by omega), hF3 _ _ _ (by omega), i6, eτ]
    rfl
  · rw [u3_ne (by omega), hF3 _ _ _ (by omega), i7, eτ]
    rfl
  · rw [u3_ne (by omega), hF3 _ _ _ (by omega), i8, eτ]
    rfl
  · rw [u3_ne (by omega), hF3 _ _ _ (by omega), i9, eτ]
    rfl
  · rw [k4 1 (by omega) (by omega), i10 a ha, eτ]
    rfl
  · have ha' : a < nd σ := by rw [eτ] at ha; exact ha
    obtain ⟨a4, b15, b16, bn, br⟩ := i11 a ha'
    refine ⟨a4, by rw [hE3 15 a (by omega)]; exact b15, by rw [hE3 16 a (by omega)]; exact b16, by rw [u3_ne (by omega), hF3 15 a 0 (by omega)]; exact bn, fun f hf => ⟨by rw [hE3 17 _ (by omega)]; exact (br f hf).1, fun e he => ?_⟩⟩
    have old := (br f hf).2 e he
    rw [t7]
    by_cases q : a = d ∧ f = d
    · rw [eB2, uR_ne (by omega), q.1, q.2, b1d e he]
      rw [q.1, q.2] at old
      by_cases q2 : e = d
      · rw [if_pos q2, if_pos ⟨rfl, rfl, q2⟩]
        exact ⟨rfl, by omega⟩
      · rw [if_neg q2, if_neg (fun z => q2 z.2.2)]
        exact ⟨rfl, old.2⟩
    · rw [hB2 17 _ (by omega) (by omega), if_neg (fun z => q ⟨z.1, z.2.1⟩)]
      exact old
  · have hna' : nd σ ≤ a := by rw [eτ] at hna; exact hna
    rw [hE3 15 a (by omega), hE3 16 a (by omega)]
    refine ⟨(i12 a ha hna').1, (i12 a ha hna').2.1, fun f hf => ?_⟩
    rw [hE3 17 _ (by omega)]
    exact (i12 a ha hna').2.2 f hf
  · rw [u3_ne (by omega), hF3 a i k (by omega)]
  · exact hB2 a i (by omega) (by omega)
  · exact k4 a h1 h2
  · exact hE3 a i (by omega)
end

