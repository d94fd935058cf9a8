/-! the component is made -/
def sg0 (w : Int32) : Sg := (decide (w ≠ 0), 0, (fun _ _ _ => 0), ((fun _ => 0), (fun _ => 0), (fun _ => 0), (fun _ => 0), (fun _ => 0), fun _ _ => 0), [], -1, -1)
theorem sg0_W2 (w : Int32) : W2 (sg0 w) := by
  have nn : ∀ x, x ∈ ln (sg0 w) → False := fun x hx => by
    have : x ∈ ([] : List Nat) := hx
    cases this
  refine ⟨⟨⟨Nat.zero_le 4, fun _ _ _ => Nat.zero_le 40, fun x => ⟨Nat.zero_le 7, by show 0 < 1000; decide, by show 0 < 160; decide, fun _ => Nat.zero_le 40⟩⟩, fun x => ⟨fun z => (nn x z).elim, fun z => absurd z.2 (Nat.not_lt_zero _)⟩, List.Pairwise.nil, fun x hx => (nn x hx).elim, fun x hx => (nn x hx).elim, fun x hx => (nn x hx).elim, fun x hx => (nn x hx).elim, fun x hx => (nn x hx).elim, fun x hx => (nn x hx).elim, fun x y hx => (nn x hx).elim, fun x hx => (nn x hx).elim, fun _ _ _ => ⟨Nat.le_refl 0, Nat.le_refl 0, fun _ => rfl⟩, rfl, fun x hx => (nn x hx).elim, Or.inl ⟨rfl, rfl⟩⟩, fun x hx => (nn x hx).elim, fun x y hx => (nn x hx).elim, fun d y hy => (nn y hy).elim, fun x hx => (nn x hx).elim⟩
theorem sg0_MB (w : Int32) : MB (sg0 w) (I0 w) A0 := by
  refine ⟨⟨(sg0_W2 w).1.1, fun x hx => ⟨rfl, rfl, rfl, rfl, rfl, fun e he => rfl⟩⟩, rfl, rfl, fun d hd => rfl, fun d f e a b c => rfl, rfl, rfl⟩
theorem cH_nil {h : AH} (hh : ∀ n : Nd, rKd n.1 ≠ 3 → h n = none) : h = cH (fun _ _ _ => 0) (fun _ _ _ => 0) (fun _ _ => none) (fun _ => none) (fun _ _ => false) h := by
  funext n
  unfold cH
  by_cases q : rKd n.1 = 3
  · rw [if_pos q]
  · rw [if_neg q, hh n q]
    rfl
def E0 : Nat → Nat → Bool := fun a i => i == 0 && (a == 0 || a == 1 || a == 2 || a == 3 || a == 4 || a == 5 || a == 6 || a == 7 || a == 8 || a == 9 || a == 12 || a == 13 || a == 14)
theorem CI_0 {w : Int32} {F : CF} {B : CB} (f0 : F 0 0 0 = b2i (decide (w ≠ 0))) (f2 : F 0 0 2 = 0) (f5 : F 0 0 5 = -1) (f6 : F 0 0 6 = -1) (g2 : F 2 0 2 = 0) (p0 : F 5 0 0 = b2i (decide (w ≠ 0))) (p10 : F 5 0 10 = 0) (b6 : ∀ e, B 6 0 e = 0) : CI (sg0 w) F B (fun _ _ => none) E0 := by
  have hE : ∀ a i, E0 a i = true ↔ i = 0 ∧ (a = 0 ∨ a = 1 ∨ a = 2 ∨ a = 3 ∨ a = 4 ∨ a = 5 ∨ a = 6 ∨ a = 7 ∨ a = 8 ∨ a = 9 ∨ a = 12 ∨ a = 13 ∨ a = 14) := fun a i => by
    unfold E0
    simp only [Bool.and_eq_true, Bool.or_eq_true, beq_iff_eq]
    omega
  have hE0 : ∀ a i, 15 ≤ a → E0 a i = false := fun a i ha => by
    cases q : E0 a i with
    | false => rfl
    | true =>
      have := (hE a i).mp q
      omega
  have th0 : ∀ t, thF (sg0 w) (fun _ => 0) t = false := fun t => by
    unfold thF inV
    simp
  refine ⟨fun _ => 0, ⟨(hE 0 0).mpr (by omega), fun i => by rw [hE]; omega, ⟨(hE 5 0).mpr (by omega), (hE 6 0).mpr (by omega), (hE 7 0).mpr (by omega), fun a ha i => by rw [hE]; omega⟩, ⟨(hE 2 0).mpr (by omega), fun i => by rw [hE]; omega, fun i => by rw [hE]; omega, g2, Nat.zero_le _, fun k x hk => (by cases hk), fun x hx => rfl, fun x hx => (by cases hx), fun x hx _ => ⟨hE0 18 x (by omega), hE0 19 x (by omega)⟩⟩, f0, f2, f5, f6, p0, fun d hd => rfl, fun d hd => absurd hd (Nat.not_lt_zero d), fun d hd _ => ⟨hE0 15 d (by omega), hE0 16 d (by omega), fun f hf => hE0 17 _ (by omega)⟩⟩, fun e => Nat.zero_le _, ⟨fun e he => b6 e, fun t ht => Or.inl ⟨rfl, th0 t, hE0 20 t (by omega), hE0 21 t (by omega), hE0 22 t (by omega)⟩, fun i hi => Or.inl ⟨rfl, hE0 23 i (by omega), hE0 24 i (by omega)⟩, fun t ht hh => (by rw [th0 t] at hh; cases hh), p10, Nat.zero_le _, fun j kx hj => (by cases hj)⟩⟩
section
variable {h : AH} {Q : Option AV → AH → Prop}
theorem c_Pl_init {w : Int32} (hh : ∀ n : Nd, rKd n.1 ≠ 3 → h n = none) (hq : ∀ (F : CF) (B : CB) (C : CC) (Wr : Nat → Option Nd) (E : Nat → Nat → Bool), CI (sg0 w) F B C E → Q none (cH F B C Wr E h)) : X M_Pl_init (rmo M_Pl_init 12 2142) (Zm Q 12 2142) 0 (ini M_Pl_init [.inr (some (0, 0)), .inl w]) [] (hset h (0, 0) (.inr (.inr (6, fun k => df (t_Pl k))))) 0 0 := by
  have hz := cH_nil hh
  show X M_Pl_init _ _ 0 [some (.inr (some (0, 0))), some (.inl (w))] [] (hset h (0, 0) (.inr (.inr (6, (fun k => df (t_Pl k)))))) 0 0
  refine X_run 1 (pc' := 1) (L' := [some (.inr (some (0, 0))), some (.inl (w))]) (st' := [.inr (some (0, 0))]) rfl ?_
  refine X_obj rfl o_Pl_3 (Nat.le_of_ble_eq_true rfl) (Nat.le_of_ble_eq_true rfl) (Nat.le_of_ble_eq_true rfl) rfl ?_
  refine X_run 2 (pc' := 6) (L' := [some (.inr (some (0, 0))), some (.inl (w))]) (st' := [.inl (4), .inr (some (0, 0))]) rfl ?_
  refine XN_newQ (m := (1, 0)) (N := 4) (t := 3) rfl rfl c_Pl_9 ao_Dv (by decide) (by decide) (by decide) (hh (1, 0) (by decide)) (by decide) (Nat.le_of_ble_eq_true rfl) (Nat.le_of_ble_eq_true rfl) rfl ?_
  refine XN_put (k := 1) (v := .inr (some (1, 0))) rfl f_Pl_11 rfl rfl (Or.inr ⟨rfl, rfl, rfl⟩) (fun _ => ⟨rfl, rfl⟩) rfl ?_
  refine X_run 2 (pc' := 14) (L' := [some (.inr (some (0, 0))), some (.inl (w))]) (st' := [.inl (0), .inr (some (0, 0))]) rfl ?_
  refine XN_put (k := 2) (v := .inl (0)) rfl f_Pl_15 rfl rfl (Or.inl rfl) (fun _ => ⟨rfl, rfl⟩) rfl ?_
  refine X_run 1 (pc' := 18) (L' := [some (.inr (some (0, 0))), some (.inl (w))]) (st' := [.inr (some (0, 0))]) rfl ?_
  have z1 : hset h (1, 0) (.inr (.inl (3, 4, fun _ => none))) = cH (fun _ _ _ => 0) (fun _ _ _ => 0) (fun _ _ => none) (fun _ => none) (e2 (fun _ _ => false) 1 0) h := by
    exact (congrArg (fun z => hset z (1, 0) (.inr (.inl (3, 4, fun _ => none)))) hz).trans (cH_alQ (a := 1) (i := 0) rfl rfl)
  rw [z1]
  obtain ⟨V1, eV1⟩ : ∃ V1, V1 = (va_up (va_up (fun k => df (t_Pl k)) 1 (.inr (some (1, 0)))) 2 (.inl 0)) := ⟨_, rfl⟩
  rw [← eV1]
  refine X_new (n := (2, 0)) (ci := 2) (q := (R_Lg, T_Lg, 3)) (t := t_Lg) (nx := 21) rfl rfl rfl c_Pl_19 (by rw [hset_ne _ _ (by decide)]; exact cH_none (by decide) rfl) (Nat.le_of_ble_eq_true rfl) (Nat.le_of_ble_eq_true rfl) rfl ?_
  refine X_run 1 (pc' := 22) (L' := [some (.inr (some (0, 0))), some (.inl (w))]) (st' := [.inr (some (2, 0)), .inr (some (2, 0)), .inr (some (0, 0))]) rfl ?_
  refine X_callI (vs := []) (st := [.inr (some (2, 0)), .inr (some (0, 0))]) (mc := 2) (ms := 320) rfl ok_Lg_init i_Pl_21 rfl rfl (Nat.le_of_ble_eq_true rfl) (Nat.le_of_ble_eq_true rfl) (Nat.le_of_ble_eq_true rfl) (Nat.le_of_ble_eq_true rfl) (Nat.le_of_ble_eq_true rfl) (Nat.le_of_ble_eq_true rfl) rfl ?_
  refine c_Lg_init (by rw [hset_ne _ _ (by decide)]; exact cH_none (by decide) rfl) (by rw [hset_ne _ _ (by decide)]; exact cH_none (by decide) rfl) ?_
  obtain ⟨F1, eF1⟩ : ∃ F1 : CF, F1 = uR (fun _ _ _ => 0) 2 0 (fun _ => 0) := ⟨_, rfl⟩
  have z2 : ∀ o : AE, hset (hset (hset (hset (cH (fun _ _ _ => 0) (fun _ _ _ => 0) (fun _ _ => none) (fun _ => none) (e2 (fun _ _ => false) 1 0) h) (0, 0) o) (3, 0) (.inr (.inl (2, 160, fun _ => none)))) (4, 0) (.inr (.inl (2, 160, fun _ => none)))) (2, 0) (.inr (.inr (2, VLg))) = hset (cH F1 (fun _ _ _ => 0) (fun _ _ => none) (fun _ => none) (e2 (e2 (e2 (e2 (fun _ _ => false) 1 0) 3 0) 4 0) 2 0) h) (0, 0) o := fun o => by
    rw [hset_sw _ o _ (show ((3, 0) : Nd) ≠ (0, 0) by decide), hset_sw _ o _ (show ((4, 0) : Nd) ≠ (0, 0) by decide), hset_sw _ o _ (show ((2, 0) : Nd) ≠ (0, 0) by decide), eF1]
    refine congrArg (fun z => hset z (0, 0) o) ?_
    rw [show hset (cH (fun _ _ _ => 0) (fun _ _ _ => 0) (fun _ _ => none) (fun _ => none) (e2 (fun _ _ => false) 1 0) h) (3, 0) (.inr (.inl (2, 160, fun _ => none))) = _ from cH_alQ (a := 3) (i := 0) rfl rfl]
    rw [show hset (cH (fun _ _ _ => 0) (fun _ _ _ => 0) (fun _ _ => none) (fun _ => none) (e2 (e2 (fun _ _ => false) 1 0) 3 0) h) (4, 0) (.inr (.inl (2, 160, fun _ => none))) = _ from cH_alQ (a := 4) (i := 0) rfl rfl]
    refine cH_mk (a := 2) (i := 0) rfl (by decide) (fun _ => 0) ?_
    unfold VLg
    funext k
    revert k
    refine k11 _ rfl rfl rfl rfl rfl rfl rfl rfl rfl rfl rfl (fun k hk => ?_)
    rw [cVf_ge _ _ _ _ _ hk]
    repeat rw [vu_ne (by omega)]
    rw [t_Lg_ge k hk]
    rfl
  rw [z2]
  show X M_Pl_init _ _ 25 [some (.inr (some (0, 0))), some (.inl (w))] [.inr (some (2, 0)), .inr (some (0, 0))] (hset (cH F1 (fun _ _ _ => 0) (fun _ _ => none) (fun _ => none) (e2 (e2 (e2 (e2 (fun _ _ => false) 1 0) 3 0) 4 0) 2 0) h) (0, 0) (.inr (.inr (6, V1)))) 4 327
  refine XN_put (k := 3) (v := .inr (some (2, 0))) rfl f_Pl_22 rfl rfl (Or.inr ⟨rfl, rfl, rfl⟩) (fun _ => ⟨rfl, rfl⟩) rfl ?_
  refine X_run 2 (pc' := 30) (L' := [some (.inr (some (0, 0))), some (.inl (w))]) (st' := [.inl (-1), .inr (some (0, 0))]) rfl ?_
  refine XN_put (k := 5) (v := .inl (-1)) rfl f_Pl_26 rfl rfl (Or.inl rfl) (fun _ => ⟨rfl, rfl⟩) rfl ?_
  refine X_run 2 (pc' := 35) (L' := [some (.inr (some (0, 0))), some (.inl (w))]) (st' := [.inl (-1), .inr (some (0, 0))]) rfl ?_
  refine XN_put (k := 6) (v := .inl (-1)) rfl f_Pl_29 rfl rfl (Or.inl rfl) (fun _ => ⟨rfl, rfl⟩) rfl ?_
  obtain ⟨V2, eV2⟩ : ∃ V2, V2 = (va_up (va_up (va_up V1 3 (.inr (some (2, 0)))) 5 (.inl (-1))) 6 (.inl (-1))) := ⟨_, rfl⟩
  rw [← eV2]
  have fin : ∀ b : Bool, decide (w ≠ 0) = b → X M_Pl_init (rmo M_Pl_init 12 2142) (Zm Q 12 2142) 48 [some (.inr (some (0, 0))), some (.inl w)] [.inl (b2i b), .inr (some (0, 0))] (hset (cH F1 (fun _ _ _ => 0) (fun _ _ => none) (fun _ => none) (e2 (e2 (e2 (e2 (fun _ _ => false) 1 0) 3 0) 4 0) 2 0) h) (0, 0) (.inr (.inr (6, V2)))) 4 327 := by
    intro b hb
    refine XN_put (k := 0) (v := .inl (b2i b)) rfl f_Pl_32 rfl rfl (Or.inr ⟨rfl, rfl, rfl⟩) (fun _ => by cases b <;> exact ⟨rfl, rfl⟩) rfl ?_
    refine X_run 1 (pc' := 52) (L' := [some (.inr (some (0, 0))), some (.inl (w))]) (st' := [.inr (some (0, 0))]) rfl ?_
    refine X_new (n := (5, 0)) (ci := 3) (q := (R_Pi, T_Pi, 11)) (t := t_Pi) (nx := 55) rfl rfl rfl c_Pl_36 (by rw [hset_ne _ _ (by decide)]; exact cH_none (by decide) rfl) (Nat.le_of_ble_eq_true rfl) (Nat.le_of_ble_eq_true rfl) rfl ?_
    refine X_run 2 (pc' := 57) (L' := [some (.inr (some (0, 0))), some (.inl (w))]) (st' := [.inr (some (0, 0)), .inr (some (5, 0)), .inr (some (5, 0)), .inr (some (0, 0))]) rfl ?_
    refine X_get (v := .inl (b2i b)) rfl f_Pl_32 (by rw [hset_ne _ _ (by decide), hset_eq]) rfl rfl ?_
    refine X_callI (vs := [.inl (b2i b)]) (st := [.inr (some (5, 0)), .inr (some (0, 0))]) (mc := 7) (ms := 1804) rfl ok_Pi_init i_Pl_38 rfl rfl (Nat.le_of_ble_eq_true rfl) (Nat.le_of_ble_eq_true rfl) (Nat.le_of_ble_eq_true rfl) (Nat.le_of_ble_eq_true rfl) (Nat.le_of_ble_eq_true rfl) (Nat.le_of_ble_eq_true rfl) rfl ?_
    refine c_Pi_init (fun a ha => ?_) ?_
    · rcases ha with rfl | rfl | rfl | rfl | rfl | rfl | rfl <;> (rw [hset_ne _ _ (by decide)]; exact cH_none (by decide) rfl)
    obtain ⟨F2, eF2⟩ : ∃ F2 : CF, F2 = uR F1 5 0 (fun k => if k = 0 then b2i b else 0) := ⟨_, rfl⟩
    obtain ⟨B2, eB2⟩ : ∃ B2 : CB, B2 = uR (uR (fun _ _ _ => 0) 6 0 (fun _ => 0)) 7 0 (fun _ => 0) := ⟨_, rfl⟩
    have z3 : ∀ o : AE, hset (hset (hset (hset (hset (hset (hset (hset (hset (cH F1 (fun _ _ _ => 0) (fun _ _ => none) (fun _ => none) (e2 (e2 (e2 (e2 (fun _ _ => false) 1 0) 3 0) 4 0) 2 0) h) (0, 0) o) (6, 0) (.inl (0, 4, fun _ => 0))) (7, 0) (.inl (1, 160, fun _ => 0))) (8, 0) (.inr (.inl (2, 160, fun _ => none)))) (9, 0) (.inr (.inl (4, 160, fun _ => none)))) (12, 0) (.inr (.inl (4, 160, fun _ => none)))) (13, 0) (.inr (.inl (4, 1000, fun _ => none)))) (14, 0) (.inr (.inl (5, 160, fun _ => none)))) (5, 0) (.inr (.inr (3, VPi b))) = hset (cH F2 B2 (fun _ _ => none) (fun _ => none) (e2 (e2 (e2 (e2 (e2 (e2 (e2 (e2 (e2 (e2 (e2 (e2 (fun _ _ => false) 1 0) 3 0) 4 0) 2 0) 6 0) 7 0) 8 0) 9 0) 12 0) 13 0) 14 0) 5 0) h) (0, 0) o := fun o => by
      rw [hset_sw _ o _ (show ((6, 0) : Nd) ≠ (0, 0) by decide), hset_sw _ o _ (show ((7, 0) : Nd) ≠ (0, 0) by decide), hset_sw _ o _ (show ((8, 0) : Nd) ≠ (0, 0) by decide), hset_sw _ o _ (show ((9, 0) : Nd) ≠ (0, 0) by decide), hset_sw _ o _ (show ((12, 0) : Nd) ≠ (0, 0) by decide), hset_sw _ o _ (show ((13, 0) : Nd) ≠ (0, 0) by decide), hset_sw _ o _ (show ((14, 0) : Nd) ≠ (0, 0) by decide), hset_sw _ o _ (show ((5, 0) : Nd) ≠ (0, 0) by decide), eF2, eB2]
      refine congrArg (fun z => hset z (0, 0) o) ?_
      have al : ∀ (F : CF) (B : CB) (C : CC) (W : Nat → Option Nd) (E : Nat → Nat → Bool) (f : Nat → Int32), hset (cH F B C W E h) (6, 0) (.inl (0, 4, f)) = cH F (uR B 6 0 f) C W (e2 E 6 0) h := fun F B C W E f => cH_alI (a := 6) (i := 0) rfl f
      have al7 : ∀ (F : CF) (B : CB) (C : CC) (W : Nat → Option Nd) (E : Nat → Nat → Bool) (f : Nat → Int32), hset (cH F B C W E h) (7, 0) (.inl (1, 160, f)) = cH F (uR B 7 0 f) C W (e2 E 7 0) h := fun F B C W E f => cH_alI (a := 7) (i := 0) rfl f
      have aq8 : ∀ (F : CF) (B : CB) (W : Nat → Option Nd) (E : Nat → Nat → Bool), hset (cH F B (fun _ _ => none) W E h) (8, 0) (.inr (.inl (2, 160, fun _ => none))) = cH F B (fun _ _ => none) W (e2 E 8 0) h := fun F B W E => cH_alQ (a := 8) (i := 0) rfl rfl
      have aq9 : ∀ (F : CF) (B : CB) (W : Nat → Option Nd) (E : Nat → Nat → Bool), hset (cH F B (fun _ _ => none) W E h) (9, 0) (.inr (.inl (4, 160, fun _ => none))) = cH F B (fun _ _ => none) W (e2 E 9 0) h := fun F B W E => cH_alQ (a := 9) (i := 0) rfl rfl
      have aq12 : ∀ (F : CF) (B : CB) (W : Nat → Option Nd) (E : Nat → Nat → Bool), hset (cH F B (fun _ _ => none) W E h) (12, 0) (.inr (.inl (4, 160, fun _ => none))) = cH F B (fun _ _ => none) W (e2 E 12 0) h := fun F B W E => cH_alQ (a := 12) (i := 0) rfl rfl
      have aq13 : ∀ (F : CF) (B : CB) (W : Nat → Option Nd) (E : Nat → Nat → Bool), hset (cH F B (fun _ _ => none) W E h) (13, 0) (.inr (.inl (4, 1000, fun _ => none))) = cH F B (fun _ _ => none) W (e2 E 13 0) h := fun F B W E => cH_alQ (a := 13) (i := 0) rfl rfl
      have aq14 : ∀ (F : CF) (B : CB) (W : Nat → Option Nd) (E : Nat → Nat → Bool), hset (cH F B (fun _ _ => none) W E h) (14, 0) (.inr (.inl (5, 160, fun _ => none))) = cH F B (fun _ _ => none) W (e2 E 14 0) h := fun F B W E => cH_alQ (a := 14) (i := 0) rfl rfl
      rw [al, al7, aq8, aq9, aq12, aq13, aq14]
      refine cH_mk (a := 5) (i := 0) rfl (by decide) (fun k => if k = 0 then b2i b else 0) ?_
      unfold VPi
      funext k
      revert k
      refine k11 _ rfl rfl rfl rfl rfl rfl rfl rfl rfl rfl rfl (fun k hk => ?_)
      rw [cVf_ge _ _ _ _ _ hk]
      repeat rw [vu_ne (by omega)]
      rw [t_Pi_ge k hk, if_neg (by omega)]
      rfl
    rw [z3]
    show X M_Pl_init _ _ 63 [some (.inr (some (0, 0))), some (.inl (w))] [.inr (some (5, 0)), .inr (some (0, 0))] (hset (cH F2 B2 (fun _ _ => none) (fun _ => none) (e2 (e2 (e2 (e2 (e2 (e2 (e2 (e2 (e2 (e2 (e2 (e2 (fun _ _ => false) 1 0) 3 0) 4 0) 2 0) 6 0) 7 0) 8 0) 9 0) 12 0) 13 0) 14 0) 5 0) h) (0, 0) (.inr (.inr (6, (va_up V2 0 (.inl (b2i b))))))) 12 2142
    refine XN_put (k := 4) (v := .inr (some (5, 0))) rfl f_Pl_41 rfl rfl (Or.inr ⟨rfl, rfl, rfl⟩) (fun _ => ⟨rfl, rfl⟩) rfl ?_
    refine X_vret rfl rfl (Nat.le_refl _) (Nat.le_refl _) ?_
    have z4 := cH_mk (F := F2) (B := B2) (C := fun _ _ => none) (Wr := fun _ => none) (E := (e2 (e2 (e2 (e2 (e2 (e2 (e2 (e2 (e2 (e2 (e2 (e2 (fun _ _ => false) 1 0) 3 0) 4 0) 2 0) 6 0) 7 0) 8 0) 9 0) 12 0) 13 0) 14 0) 5 0)) (r := h) (a := 0) (i := 0) rfl (by decide) (fun k => if k = 0 then b2i b else if k = 5 then -1 else if k = 6 then -1 else 0) (V := va_up (va_up V2 0 (.inl (b2i b))) 4 (.inr (some (5, 0)))) ?_
    · rw [show hset (cH F2 B2 (fun _ _ => none) (fun _ => none) (e2 (e2 (e2 (e2 (e2 (e2 (e2 (e2 (e2 (e2 (e2 (e2 (fun _ _ => false) 1 0) 3 0) 4 0) 2 0) 6 0) 7 0) 8 0) 9 0) 12 0) 13 0) 14 0) 5 0) h) (0, 0) (.inr (.inr (6, va_up (va_up V2 0 (.inl (b2i b))) 4 (.inr (some (5, 0)))))) = _ from z4]
      have eE : e2 (e2 (e2 (e2 (e2 (e2 (e2 (e2 (e2 (e2 (e2 (e2 (e2 (fun _ _ => false) 1 0) 3 0) 4 0) 2 0) 6 0) 7 0) 8 0) 9 0) 12 0) 13 0) 14 0) 5 0) 0 0 = E0 := by
        funext a i
        rw [Bool.eq_iff_iff]
        unfold E0 e2
        simp only [Bool.or_eq_true, Bool.and_eq_true, beq_iff_eq, Bool.false_eq_true, or_false]
        omega
      rw [eE]
      refine hq _ _ _ _ _ (CI_0 ?_ ?_ ?_ ?_ ?_ ?_ ?_ (fun e => ?_))
      · rw [uR_eq, hb]
        rfl
      · rw [uR_eq]
        rfl
      · rw [uR_eq]
        rfl
      · rw [uR_eq]
        rfl
      · rw [uR_ne (by omega), eF2, uR_ne (by omega), eF1, uR_eq]
      · rw [uR_ne (by omega), eF2, uR_eq, hb]
        rfl
      · rw [uR_ne (by omega), eF2, uR_eq]
        rfl
      · rw [eB2, uR_ne (by omega), uR_eq]
    · rw [eV2, eV1]
      funext k
      revert k
      refine k11 _ rfl rfl rfl rfl rfl rfl rfl rfl rfl rfl rfl (fun k hk => ?_)
      rw [cVf_ge _ _ _ _ _ hk]
      repeat rw [vu_ne (by omega)]
      rw [t_Pl_ge k hk]
      repeat rw [if_neg (by omega)]
      rfl
  refine X_run 2 (pc' := 40) (L' := [some (.inr (some (0, 0))), some (.inl (w))]) (st' := [.inl (w), .inr (some (0, 0))]) rfl ?_
  refine X_if_eq (tgt := 47) (nx := 43) rfl rfl rfl (fun n1 => ?_) (fun n1 => ?_)
  · refine X_run 1 (pc' := 48) (L' := [some (.inr (some (0, 0))), some (.inl (w))]) (st' := [.inl (0), .inr (some (0, 0))]) rfl ?_
    exact fin false (decide_eq_false (fun z => z n1))
  · refine X_run 2 (pc' := 48) (L' := [some (.inr (some (0, 0))), some (.inl (w))]) (st' := [.inl (1), .inr (some (0, 0))]) rfl ?_
    exact fin true (decide_eq_true n1)
end

