/-! the component's picture: a thing comes, all are laid -/
section
variable {F : CF} {B : CB} {C : CC} {Wr : Nat → Option Nd} {E : Nat → Nat → Bool} {r : AH} {Q : Option AV → AH → Prop} {h : AH} {σ : Sg} {see : Nat → Nat}
theorem c_Pi_bring {P : List Nat} {x : Nat} (hR : TR σ P F B C Wr E) (hD : DE σ F B E x) (s0 : so σ x = 0) (tx : tg σ x = x) (nth : thP σ P x = false) (hl : (odP σ P).length < 160) (hq : ∀ (F' : CF) (B' : CB) (C' : CC) (Wr' : Nat → Option Nd) (E' : Nat → Nat → Bool), TR σ (P ++ [x]) F' B' C' Wr' E' → FL F B C E F' B' C' E' → Q none (cH F' B' C' Wr' E' r)) : X M_Pi_bring (rmo M_Pi_bring 3 18) (Zm Q 3 18) 0 (ini M_Pi_bring [.inr (some (5, 0)), .inr (some (18, x))]) [] (cH F B C Wr E r) 0 0 := by
  have hP := hR.1
  have h5 := hP.1
  have h90 : E 9 0 = true := hP.at (by omega)
  have hD' := hD
  obtain ⟨x0, x18, x19, xd, xn, xso, xsp, xtg, xam, xnu, -, xkw, xs7, -, xtl⟩ := hD
  rw [tx] at xtg
  have fin : ∀ (F1 : CF) (B1 : CB) (C1 : CC) (W1 : Nat → Option Nd) (E1 : Nat → Nat → Bool), (∀ a i k, ¬ (a = 20 ∧ i = x) → F1 a i k = F a i k) → F1 20 x 0 = nI x → (∀ a i, ¬ ((a = 21 ∨ a = 22) ∧ i = x) → B1 a i = B a i) → (∀ a k, ¬ (a = 9 ∧ k = x) → C1 a k = C a k) → C1 9 x = some (20, x) → (∀ t, t ≠ x → W1 t = Wr t) → (∀ a i, ¬ ((a = 20 ∨ a = 21 ∨ a = 22) ∧ i = x) → E1 a i = E a i) → E1 20 x = true → E1 21 x = true → E1 22 x = true → X M_Pi_bring (rmo M_Pi_bring 3 18) (Zm Q 3 18) 32 [some (.inr (some (5, 0))), some (.inr (some (18, x))), none] [] (cH F1 B1 C1 W1 E1 r) 3 18 := by
    intro F1 B1 C1 W1 E1 hF hF0 hB hC hC9 hW hE e20 e21 e22
    have P1 : PE E1 := hP.of (fun a i h1 h2 h3 _ _ => hE a i (by omega))
    have e5 := P1.1
    have e9 : E1 9 0 = true := P1.at (by omega)
    have e12 : E1 12 0 = true := P1.at (by omega)
    have e18 : E1 18 x = true := by rw [hE 18 x (by omega)]; exact x18
    refine X_run 1 (pc' := 33) (L' := [some (.inr (some (5, 0))), some (.inr (some (18, x))), none]) (st' := [.inr (some (5, 0))]) rfl ?_
    refine XC_get (a := 5) (i := 0) (v := .inr (some (9, 0))) rfl f_Pi_31 ⟨rfl, rfl⟩ (by assumption) rfl rfl ?_
    refine X_run 1 (pc' := 37) (L' := [some (.inr (some (5, 0))), some (.inr (some (18, x))), none]) (st' := [.inr (some (18, x)), .inr (some (9, 0))]) rfl ?_
    refine XC_get (a := 18) (i := x) (v := .inl (F1 18 x 4)) rfl f_Pi_110 ⟨rfl, rfl⟩ (by assumption) rfl rfl ?_
    refine X_eq (st' := [.inl (nI x), .inr (some (9, 0))]) rfl (congrArg (fun zz9 => Sum.inl zz9 :: _) ((by rw [hF 18 x 4 (by omega)]; exact xtg))) rfl ?_
    refine XC_ald (a := 9) (i := 0) (j := x) (v := (C1 9 x)) rfl ⟨rfl, by decide, by decide⟩ (by assumption) (by simp only [rLn]; omega) rfl rfl ?_
    rw [hC9]
    refine X_run 3 (pc' := 44) (L' := [some (.inr (some (5, 0))), some (.inr (some (18, x))), some (.inr (some (20, x)))]) (st' := [.inr (some (18, x)), .inr (some (20, x))]) rfl ?_
    refine XC_get (a := 18) (i := x) (v := .inl (F1 18 x 6)) rfl f_Pi_127 ⟨rfl, rfl⟩ (by assumption) rfl rfl ?_
    refine X_eq (st' := [.inl (nu σ x), .inr (some (20, x))]) rfl (congrArg (fun zz9 => Sum.inl zz9 :: _) ((by rw [hF 18 x 6 (by omega)]; exact xnu s0))) rfl ?_
    refine X_run 1 (pc' := 48) (L' := [some (.inr (some (5, 0))), some (.inr (some (18, x))), some (.inr (some (20, x)))]) (st' := [.inr (some (18, x)), .inl (nu σ x), .inr (some (20, x))]) rfl ?_
    refine XC_get (a := 18) (i := x) (v := .inl (F1 18 x 5)) rfl f_Pi_130 ⟨rfl, rfl⟩ (by assumption) rfl rfl ?_
    refine X_eq (st' := [.inl (vl σ x), .inl (nu σ x), .inr (some (20, x))]) rfl (congrArg (fun zz9 => Sum.inl zz9 :: _) ((by rw [hF 18 x 5 (by omega)]; exact xam (Or.inl s0)))) rfl ?_
    refine X_callV (vs := [.inl (nu σ x), .inl (vl σ x)]) (st := []) (mc := 0) (ms := 0) rfl ok_Th_begin v_Pi_133 (cH_obj rfl (by assumption)) rfl rfl (Nat.le_of_ble_eq_true rfl) (Nat.le_of_ble_eq_true rfl) (Nat.le_of_ble_eq_true rfl) (Nat.le_of_ble_eq_true rfl) (Nat.le_of_ble_eq_true rfl) (Nat.le_of_ble_eq_true rfl) rfl ?_
    refine c_Th_begin e20 e21 e22 (fun F2 B2 f1 f2 b1 b2 => ?_)
    show X M_Pi_bring _ _ 54 [some (.inr (some (5, 0))), some (.inr (some (18, x))), some (.inr (some (20, x)))] [] (cH F2 B2 C1 (up1 W1 x none) E1 r) 3 18
    have o7 : F2 5 0 7 = nI (odP σ P).length := by rw [f1 5 0 7 (by omega), hF 5 0 7 (by omega)]; exact hR.2.2.1.1
    refine X_run 2 (pc' := 56) (L' := [some (.inr (some (5, 0))), some (.inr (some (18, x))), some (.inr (some (20, x)))]) (st' := [.inr (some (5, 0)), .inr (some (20, x))]) rfl ?_
    refine XC_get (a := 5) (i := 0) (v := .inl (F2 5 0 7)) rfl f_Pi_38 ⟨rfl, rfl⟩ (by assumption) rfl rfl ?_
    refine X_eq (st' := [.inl (nI (odP σ P).length), .inr (some (20, x))]) rfl (congrArg (fun zz9 => Sum.inl zz9 :: _) (o7)) rfl ?_
    refine XC_put (k := 6) (a := 20) (i := x) rfl f_Pi_137 rfl rfl rfl ⟨rfl, rfl⟩ ⟨rfl, rfl⟩ (by assumption) (fun _ => ⟨rfl, rfl⟩) rfl ?_
    refine X_run 1 (pc' := 63) (L' := [some (.inr (some (5, 0))), some (.inr (some (18, x))), some (.inr (some (20, x)))]) (st' := [.inr (some (5, 0))]) rfl ?_
    refine XC_get (a := 5) (i := 0) (v := .inr (some (12, 0))) rfl f_Pi_35 ⟨rfl, rfl⟩ (by assumption) rfl rfl ?_
    refine X_run 1 (pc' := 67) (L' := [some (.inr (some (5, 0))), some (.inr (some (18, x))), some (.inr (some (20, x)))]) (st' := [.inr (some (5, 0)), .inr (some (12, 0))]) rfl ?_
    refine XC_get (a := 5) (i := 0) (v := .inl ((u3 F2 20 x 6 (nI (odP σ P).length)) 5 0 7)) rfl f_Pi_38 ⟨rfl, rfl⟩ (by assumption) rfl rfl ?_
    refine X_eq (st' := [.inl (nI (odP σ P).length), .inr (some (12, 0))]) rfl (congrArg (fun zz9 => Sum.inl zz9 :: _) ((by rw [u3_ne (by omega)]; exact o7))) rfl ?_
    refine X_run 1 (pc' := 71) (L' := [some (.inr (some (5, 0))), some (.inr (some (18, x))), some (.inr (some (20, x)))]) (st' := [.inr (some (20, x)), .inl (nI (odP σ P).length), .inr (some (12, 0))]) rfl ?_
    refine XC_ast (a := 12) (j := (odP σ P).length) (a2 := 20) (i2 := x) rfl ⟨rfl, by decide⟩ (P1.2.2.2 12 (by omega)) (by simp only [rLn]; omega) rfl (by assumption) rfl rfl rfl ?_
    refine X_run 2 (pc' := 74) (L' := [some (.inr (some (5, 0))), some (.inr (some (18, x))), some (.inr (some (20, x)))]) (st' := [.inr (some (5, 0)), .inr (some (5, 0))]) rfl ?_
    refine XC_get (a := 5) (i := 0) (v := .inl ((u3 F2 20 x 6 (nI (odP σ P).length)) 5 0 7)) rfl f_Pi_38 ⟨rfl, rfl⟩ (by assumption) rfl rfl ?_
    refine X_eq (st' := [.inl (nI (odP σ P).length), .inr (some (5, 0))]) rfl (congrArg (fun zz9 => Sum.inl zz9 :: _) ((by rw [u3_ne (by omega)]; exact o7))) rfl ?_
    refine X_run 2 (pc' := 79) (L' := [some (.inr (some (5, 0))), some (.inr (some (18, x))), some (.inr (some (20, x)))]) (st' := [.inl ((nI (odP σ P).length) + 1), .inr (some (5, 0))]) rfl ?_
    refine X_eq (st' := [.inl (nI ((odP σ P).length + 1)), .inr (some (5, 0))]) rfl (congrArg (fun zz9 => Sum.inl zz9 :: _) (by first | rfl | exact congrArg nI (by omega) | (simp only [il_0, il_1, il_2, il_3, il_4, il_5, il_6, il_7, il_16, il_20, il_40, il_160, pk_mul, nI_add]; done) | (simp only [il_0, il_1, il_2, il_3, il_4, il_5, il_6, il_7, il_16, il_20, il_40, il_160, pk_mul, nI_add]; exact congrArg nI (by omega)))) rfl ?_
    refine XC_put (k := 7) (a := 5) (i := 0) rfl f_Pi_38 rfl rfl rfl ⟨rfl, rfl⟩ ⟨rfl, rfl⟩ (by assumption) (fun _ => ⟨rfl, rfl⟩) rfl ?_
    obtain ⟨r1, r2, r3, r4, r5⟩ := hR
    have xO : x ∉ odP σ P := fun z => by
      rw [(r4 x x0).mpr z] at nth
      cases nth
    have od : odP σ (P ++ [x]) = odP σ P ++ [x] := by
      rw [odP_snoc]
      unfold odN
      rw [if_pos s0]
    have thx : ∀ t, thP σ (P ++ [x]) t = (thP σ P t || decide (t = x)) := fun t => by
      rw [thP_snoc, s0, tx]
      by_cases q : t = x
      · simp [q]
      · have q2 : ¬ x = t := fun w => q w.symm
        simp [q]
        exact fun z => absurd z q2
    have hFF : ∀ a i k, ¬ (a = 20 ∧ i = x) → ¬ (a = 5 ∧ i = 0 ∧ k = 7) → (u3 (u3 F2 20 x 6 (nI (odP σ P).length)) 5 0 7 (nI ((odP σ P).length + 1))) a i k = F a i k := fun a i k h1 h2 => by
      rw [u3_ne (by omega), u3_ne (by omega), f1 a i k (by omega), hF a i k h1]
    have hFx : ∀ k, k ≠ 6 → (u3 (u3 F2 20 x 6 (nI (odP σ P).length)) 5 0 7 (nI ((odP σ P).length + 1))) 20 x k = F2 20 x k := fun k hk => by rw [u3_ne (by omega), u3_ne (by omega)]
    refine X_vret rfl rfl (Nat.le_refl _) (Nat.le_refl _) (hq _ _ _ _ _ ⟨P1, ?_, ?_, ?_, ?_⟩ ⟨?_, ?_, ?_, ?_, ?_⟩)
    · intro t ht
      rw [thx]
      by_cases q : t = x
      · right
        rw [q, u2_ne (by omega), hFx 0 (by omega), hFx 1 (by omega), f1 20 x 0 (by omega), hF0, f2.1]
        refine ⟨hC9, e20, e21, e22, rfl, ?_⟩
        simp [b2i]
      · rw [u2_ne (by omega), hC 9 t (by omega), hFF 20 t 0 (by omega) (by omega), hFF 20 t 1 (by omega) (by omega), hE 20 t (by omega), hE 21 t (by omega), hE 22 t (by omega), show decide (t = x) = false from decide_eq_false q, Bool.or_false]
        exact r2 t ht
    · rw [od]
      refine ⟨by rw [u3_eq, List.length_append]; rfl, by rw [List.length_append]; simp; omega, ?_, fun k t hk => ?_⟩
      · rw [List.nodup_append]
        exact ⟨r3.2.2.1, by simp, fun a ha b hb => by simp at hb; rw [hb]; exact fun z => xO (z ▸ ha)⟩
      · by_cases q : k < (odP σ P).length
        · rw [List.getElem?_append_left q] at hk
          have tx' : t ≠ x := fun z => xO (z ▸ List.mem_of_getElem? hk)
          rw [u2_ne (by omega), hC 12 k (by omega), hFF 20 t 6 (by omega) (by omega), hE 20 t (by omega)]
          exact r3.2.2.2 k t hk
        · rw [List.getElem?_append_right (by omega)] at hk
          by_cases q2 : k = (odP σ P).length
          · rw [q2, Nat.sub_self] at hk
            cases hk
            rw [q2, u2_eq, u3_ne (by omega), u3_eq]
            exact ⟨rfl, rfl, e20, x0⟩
          · rw [List.getElem?_eq_none (by simp; omega)] at hk
            cases hk
    · intro t ht
      rw [thx, od, List.mem_append, List.mem_singleton, Bool.or_eq_true, decide_eq_true_iff, r4 t ht]
    · intro t ht htt
      rw [thx] at htt
      by_cases q : t = x
      · rw [q, tsP_snoc]
        unfold tsS TVal
        rw [if_pos tx, if_pos s0, hFx 2 (by omega), hFx 3 (by omega), hFx 4 (by omega), hFx 5 (by omega)]
        exact ⟨f2.2.1, by simp [up1], f2.2.2.1, f2.2.2.2.1, f2.2.2.2.2, fun e he => ⟨(b2 e he).1, Nat.zero_le 41, (b2 e he).2, Nat.zero_le 41⟩⟩
      · rw [show decide (t = x) = false from decide_eq_false q, Bool.or_false] at htt
        obtain ⟨v1, v2, w1, w2, w3, w4⟩ := r5 t ht htt
        rw [tsP_snoc]
        unfold tsS TVal
        rw [if_neg (by rw [tx]; exact fun z => q z.symm), hFF 20 t 2 (by omega) (by omega), hFF 20 t 3 (by omega) (by omega), hFF 20 t 4 (by omega) (by omega), hFF 20 t 5 (by omega) (by omega)]
        refine ⟨v1, by simp [up1, q, hW t q, v2], w1, w2, w3, fun e he => ?_⟩
        rw [b1 21 t (by omega), b1 22 t (by omega), hB 21 t (by omega), hB 22 t (by omega)]
        exact w4 e he
    · intro a i k h1 h2
      exact hFF a i k (by omega) (by omega)
    · intro a i h1 h2
      rw [b1 a i (by omega), hB a i (by omega)]
    · intro a h1 h2
      funext z
      rw [u2_ne (by omega), hC a z (by omega)]
    · intro a i h1 h2 h3
      exact hE a i (by omega)
    · intro a i he
      by_cases q : (a = 20 ∨ a = 21 ∨ a = 22) ∧ i = x
      · rcases q with ⟨q | q | q, qi⟩
        · rw [q, qi]
          exact e20
        · rw [q, qi]
          exact e21
        · rw [q, qi]
          exact e22
      · rw [hE a i q]
        exact he
  show X M_Pi_bring _ _ 0 [some (.inr (some (5, 0))), some (.inr (some (18, x))), none] [] (cH F B C Wr E r) 0 0
  refine X_run 1 (pc' := 1) (L' := [some (.inr (some (5, 0))), some (.inr (some (18, x))), none]) (st' := [.inr (some (5, 0))]) rfl ?_
  refine XC_get (a := 5) (i := 0) (v := .inr (some (9, 0))) rfl f_Pi_31 ⟨rfl, rfl⟩ (by assumption) rfl rfl ?_
  refine X_run 1 (pc' := 5) (L' := [some (.inr (some (5, 0))), some (.inr (some (18, x))), none]) (st' := [.inr (some (18, x)), .inr (some (9, 0))]) rfl ?_
  refine XC_get (a := 18) (i := x) (v := .inl (F 18 x 4)) rfl f_Pi_110 ⟨rfl, rfl⟩ (by assumption) rfl rfl ?_
  refine X_eq (st' := [.inl (nI x), .inr (some (9, 0))]) rfl (congrArg (fun zz9 => Sum.inl zz9 :: _) (xtg)) rfl ?_
  refine XC_ald (a := 9) (i := 0) (j := x) (v := (C 9 x)) rfl ⟨rfl, by decide, by decide⟩ (by assumption) (by simp only [rLn]; omega) rfl rfl ?_
  rcases hR.2.1 x x0 with ⟨c1, -, c20, c21, c22⟩ | ⟨c1, c20, c21, c22, c0, -⟩
  · rw [c1]
    refine X_ifnonnull (tgt := 32) (nx := 12) rfl rfl rfl (fun nn n1 => ?_) (fun n1 => ?_)
    · cases n1
    · refine X_run 1 (pc' := 13) (L' := [some (.inr (some (5, 0))), some (.inr (some (18, x))), none]) (st' := [.inr (some (5, 0))]) rfl ?_
      refine XC_get (a := 5) (i := 0) (v := .inr (some (9, 0))) rfl f_Pi_31 ⟨rfl, rfl⟩ (by assumption) rfl rfl ?_
      refine X_run 1 (pc' := 17) (L' := [some (.inr (some (5, 0))), some (.inr (some (18, x))), none]) (st' := [.inr (some (18, x)), .inr (some (9, 0))]) rfl ?_
      refine XC_get (a := 18) (i := x) (v := .inl (F 18 x 4)) rfl f_Pi_110 ⟨rfl, rfl⟩ (by assumption) rfl rfl ?_
      refine X_eq (st' := [.inl (nI x), .inr (some (9, 0))]) rfl (congrArg (fun zz9 => Sum.inl zz9 :: _) (xtg)) rfl ?_
      refine X_new (n := (20, x)) (ci := 5) (q := (R_Th, T_Th, 10)) (t := t_Th) (nx := 23) rfl rfl rfl c_Pi_29 (cH_none (by decide) c20) (Nat.le_of_ble_eq_true rfl) (Nat.le_of_ble_eq_true rfl) rfl ?_
      refine X_run 2 (pc' := 25) (L' := [some (.inr (some (5, 0))), some (.inr (some (18, x))), none]) (st' := [.inr (some (18, x)), .inr (some (20, x)), .inr (some (20, x)), .inl (nI x), .inr (some (9, 0))]) rfl ?_
      refine X_get (v := .inl (F 18 x 4)) rfl f_Pi_110 (by rw [hset_ne _ _ (by simp)]; exact cH_obj rfl x18) rfl rfl ?_
      refine X_eq (st' := [.inl (nI x), .inr (some (20, x)), .inr (some (20, x)), .inl (nI x), .inr (some (9, 0))]) rfl (congrArg (fun zz9 => Sum.inl zz9 :: _) (xtg)) rfl ?_
      refine X_callI (vs := [.inl (nI x)]) (st := [.inr (some (20, x)), .inl (nI x), .inr (some (9, 0))]) (mc := 2) (ms := 8) rfl ok_Th_init i_Pi_124 rfl rfl (Nat.le_of_ble_eq_true rfl) (Nat.le_of_ble_eq_true rfl) (Nat.le_of_ble_eq_true rfl) (Nat.le_of_ble_eq_true rfl) (Nat.le_of_ble_eq_true rfl) (Nat.le_of_ble_eq_true rfl) rfl ?_
      refine c_Th_init c21 c22 (fun f g0 g1 => ?_)
      have e9 : ∀ i, e2 (e2 (e2 E 21 x) 22 x) 20 x 9 i = true ↔ i = 0 := fun i => by
        rw [e2_ne (by omega), e2_ne (by omega), e2_ne (by omega)]
        exact hP.2.2.2 9 (by omega) i
      show X M_Pi_bring _ _ 31 [some (.inr (some (5, 0))), some (.inr (some (18, x))), none] [.inr (some (20, x)), .inl (nI x), .inr (some (9, 0))] (cH (uR F 20 x f) (uR (uR B 21 x (fun _ => 0)) 22 x (fun _ => 0)) C (up1 Wr x none) (e2 (e2 (e2 E 21 x) 22 x) 20 x) r) 3 18
      refine XC_ast (a := 9) (j := x) (a2 := 20) (i2 := x) rfl ⟨rfl, by decide⟩ (e9) (by simp only [rLn]; omega) rfl (e2_eq _ _ _) rfl rfl rfl ?_
      refine fin _ _ _ _ _ (fun a i k hh => by rw [uR_ne hh]) (by rw [uR_eq]; exact g0) (fun a i hh => by rw [uR_ne (by omega), uR_ne (by omega)]) (fun a k hh => u2_ne hh) (u2_eq _ _ _ _) (fun t ht => by simp [up1, ht]) (fun a i hh => by rw [e2_ne (by omega), e2_ne (by omega), e2_ne (by omega)]) (e2_eq _ _ _) (e2_mono (e2_mono (e2_eq _ _ _))) (e2_mono (e2_eq _ _ _))
  · rw [c1]
    refine X_ifnonnull (tgt := 32) (nx := 12) rfl rfl rfl (fun nn n1 => ?_) (fun n1 => ?_)
    · exact X_widen (by omega) (by omega) (fin F B C Wr E (fun _ _ _ _ => rfl) c0 (fun _ _ _ => rfl) (fun _ _ _ => rfl) c1 (fun _ _ => rfl) (fun _ _ _ => rfl) c20 c21 c22)
    · cases n1
/-- what must hold of the deeds that are looked at -/
def KL (σ : Sg) (K : List Nat) : Prop := K.length ≤ 160 ∧ ∀ (P : List Nat) (x : Nat) (S : List Nat), K = P ++ x :: S → so σ x ≠ 7 ∧ (so σ x = 0 → tg σ x = x ∧ thP σ P x = false) ∧ (so σ x ≠ 0 → thP σ P (tg σ x) = true) ∧ (so σ x = 5 → vl σ x = -1 ∨ ∃ k, k < 160 ∧ vl σ x = nI k ∧ k ≠ tg σ x)
/-- the deeds that are looked at, in the picture -/
def LK (K : List Nat) (F : CF) (C : CC) : Prop := F 5 0 4 = nI K.length ∧ ∀ k x, K[k]? = some x → C 8 k = some (18, x)
def thG (th : Nat → Bool) (i t : Nat) : Bool := decide (i ≤ t) && th t
def thN (_ : Nat) : Bool := false
theorem c_Pi_layThings {K : List Nat} {th : Nat → Bool} (hP : PE E) (hT : TX th F C E) (hK : KL σ K) (hL : LK K F C) (hD : ∀ x, x ∈ K → DE σ F B E x) (hq : ∀ (F' : CF) (B' : CB) (C' : CC) (Wr' : Nat → Option Nd) (E' : Nat → Nat → Bool), TR σ K F' B' C' Wr' E' → FL F B C E F' B' C' E' → Q none (cH F' B' C' Wr' E' r)) : X M_Pi_layThings (rmo M_Pi_layThings 480 2880) (Zm Q 480 2880) 0 (ini M_Pi_layThings [.inr (some (5, 0))]) [] (cH F B C Wr E r) 0 0 := by
  have h5 := hP.1
  have h9 : E 9 0 = true := hP.at (by omega)
  have h8 : E 8 0 = true := hP.at (by omega)
  show X M_Pi_layThings _ _ 0 [some (.inr (some (5, 0))), none, none, none, none] [] (cH F B C Wr E r) 0 0
  refine X_run 1 (pc' := 1) (L' := [some (.inr (some (5, 0))), none, none, none, none]) (st' := [.inr (some (5, 0))]) rfl ?_
  refine XC_get (a := 5) (i := 0) (v := .inr (some (9, 0))) rfl f_Pi_31 ⟨rfl, rfl⟩ (by assumption) rfl rfl ?_
  refine X_run 2 (pc' := 6) (L' := [some (.inr (some (5, 0))), some (.inr (some (9, 0))), none, none, none]) (st' := [.inr (some (9, 0))]) rfl ?_
  refine X_alenq (nx := 7) (t := 4) (len := 160) (g := C 9) rfl (cH_ref rfl h9) (by decide) rfl ?_
  refine X_run 3 (pc' := 10) (L' := [some (.inr (some (5, 0))), some (.inr (some (9, 0))), some (.inl (Int32.ofNat 160)), some (.inl (0)), none]) (st' := []) rfl ?_
  refine X_eq (L' := [some (.inr (some (5, 0))), some (.inr (some (9, 0))), some (.inl (Int32.ofNat 160)), some (.inl (nI (0))), none]) (congrArg (fun zz9 : Int32 => ([some (.inr (some (5, 0))), some (.inr (some (9, 0))), some (.inl (Int32.ofNat 160)), some (.inl zz9), none] : List (Option AV))) (by first | rfl | exact congrArg nI (by omega) | (simp only [il_0, il_1, il_2, il_3, il_4, il_5, il_6, il_7, il_16, il_20, il_40, il_160, pk_mul, nI_add]; done) | (simp only [il_0, il_1, il_2, il_3, il_4, il_5, il_6, il_7, il_16, il_20, il_40, il_160, pk_mul, nI_add]; exact congrArg nI (by omega)))) rfl rfl ?_
  refine X_eq (L' := [some (.inr (some (5, 0))), some (.inr (some (9, 0))), some (.inl (nI 160)), some (.inl (nI (0))), none]) (congrArg (fun zz9 : Int32 => ([some (.inr (some (5, 0))), some (.inr (some (9, 0))), some (.inl zz9), some (.inl (nI (0))), none] : List (Option AV))) (rfl)) rfl rfl ?_
  have second : ∀ (F1 : CF) (o2 o3 o4 : Option AV), (∀ a i k, ¬ (a = 20 ∧ k = 1) → F1 a i k = F a i k) → TX thN F1 C E → X M_Pi_layThings (rmo M_Pi_layThings 480 2880) (Zm Q 480 2880) 37 [some (.inr (some (5, 0))), some (.inr (some (9, 0))), o2, o3, o4] [] (cH F1 B C Wr E r) 0 0 := by
    intro F1 o2 o3 o4 hF1 hT1
    refine X_run 2 (pc' := 39) (L' := [some (.inr (some (5, 0))), some (.inr (some (9, 0))), o2, o3, o4]) (st' := [.inl (0), .inr (some (5, 0))]) rfl ?_
    refine XC_put (k := 7) (a := 5) (i := 0) rfl f_Pi_38 rfl rfl rfl ⟨rfl, rfl⟩ ⟨rfl, rfl⟩ (by assumption) (fun _ => ⟨rfl, rfl⟩) rfl ?_
    refine X_run 2 (pc' := 44) (L' := [some (.inr (some (5, 0))), some (.inl (0)), o2, o3, o4]) (st' := []) rfl ?_
    refine X_eq (L' := [some (.inr (some (5, 0))), some (.inl (nI (0))), o2, o3, o4]) (congrArg (fun zz9 : Int32 => ([some (.inr (some (5, 0))), some (.inl zz9), o2, o3, o4] : List (Option AV))) (by first | rfl | exact congrArg nI (by omega) | (simp only [il_0, il_1, il_2, il_3, il_4, il_5, il_6, il_7, il_16, il_20, il_40, il_160, pk_mul, nI_add]; done) | (simp only [il_0, il_1, il_2, il_3, il_4, il_5, il_6, il_7, il_16, il_20, il_40, il_160, pk_mul, nI_add]; exact congrArg nI (by omega)))) rfl rfl ?_
    refine up_ind K.length (fun i => ∀ (F2 : CF) (B2 : CB) (C2 : CC) (W2 : Nat → Option Nd) (E2 : Nat → Nat → Bool) (o : Option AV), TR σ (K.take i) F2 B2 C2 W2 E2 → FL F B C E F2 B2 C2 E2 → X M_Pi_layThings (rmo M_Pi_layThings 480 2880) (Zm Q 480 2880) 44 [some (.inr (some (5, 0))), some (.inl (nI i)), o, o3, o4] [] (cH F2 B2 C2 W2 E2 r) (3 * i) (18 * i)) ?_ 0 (by omega) _ _ _ _ _ _ ?_ ?_
    · intro i hi ih F2 B2 C2 W2 E2 o hR hFL
      have k160 := hK.1
      have P2 := hR.1
      have q5 := P2.1
      have q8 : E2 8 0 = true := P2.at (by omega)
      have lc : F2 5 0 4 = nI K.length := by rw [hFL.1 5 0 4 (by decide) (by decide)]; exact hL.1
      refine X_run 2 (pc' := 46) (L' := [some (.inr (some (5, 0))), some (.inl (nI i)), o, o3, o4]) (st' := [.inr (some (5, 0)), .inl (nI i)]) rfl ?_
      refine XC_get (a := 5) (i := 0) (v := .inl (F2 5 0 4)) rfl f_Pi_25 ⟨rfl, rfl⟩ (by assumption) rfl rfl ?_
      refine X_eq (st' := [.inl (nI K.length), .inl (nI i)]) rfl (congrArg (fun zz9 => Sum.inl zz9 :: _) (lc)) rfl ?_
      refine X_ic_ge (tgt := 85) (nx := 52) rfl rfl rfl (fun n1 => ?_) (fun n1 => ?_)
      · have n1 := li_le (by omega) (by omega) n1
        have e : i = K.length := by omega
        rw [e, List.take_length] at hR
        exact X_vret rfl rfl (by omega) (by omega) (hq _ _ _ _ _ hR hFL)
      · have n1 := li_nle (by omega) (by omega) n1
        obtain ⟨x, hx⟩ : ∃ x, K[i]? = some x := ⟨_, List.getElem?_eq_getElem n1⟩
        have hxl := List.mem_of_getElem? hx
        have tk : K.take (i + 1) = K.take i ++ [x] := by rw [List.take_add_one, hx]; rfl
        have sp : K = K.take i ++ x :: K.drop (i + 1) := by
          have h1 := List.take_append_drop (i + 1) K
          rw [tk, List.append_assoc] at h1
          exact h1.symm
        obtain ⟨l1, l2, l3, l4⟩ := hK.2 _ _ _ sp
        have hDx := (hD x hxl).fl hFL
        have xso := hDx.2.2.2.2.2.1
        have x18 := hDx.2.1
        have s7 := hDx.2.2.2.2.2.2.2.2.2.2.2.2.1
        refine X_run 1 (pc' := 53) (L' := [some (.inr (some (5, 0))), some (.inl (nI i)), o, o3, o4]) (st' := [.inr (some (5, 0))]) rfl ?_
        refine XC_get (a := 5) (i := 0) (v := .inr (some (8, 0))) rfl f_Pi_21 ⟨rfl, rfl⟩ (by assumption) rfl rfl ?_
        refine X_run 1 (pc' := 57) (L' := [some (.inr (some (5, 0))), some (.inl (nI i)), o, o3, o4]) (st' := [.inl (nI i), .inr (some (8, 0))]) rfl ?_
        refine XC_ald (a := 8) (i := 0) (j := i) (v := (C2 8 i)) rfl ⟨rfl, by decide, by decide⟩ (by assumption) (by simp only [rLn]; omega) rfl rfl ?_
        rw [hFL.2.2.1 8 (by decide) (by decide), hL.2 i x hx]
        refine X_run 2 (pc' := 60) (L' := [some (.inr (some (5, 0))), some (.inl (nI i)), some (.inr (some (18, x))), o3, o4]) (st' := [.inr (some (18, x))]) rfl ?_
        refine XC_get (a := 18) (i := x) (v := .inl (F2 18 x 2)) rfl f_Pi_103 ⟨rfl, rfl⟩ (by assumption) rfl rfl ?_
        refine X_eq (st' := [.inl (nI (so σ x))]) rfl (congrArg (fun zz9 => Sum.inl zz9 :: _) (xso)) rfl ?_
        refine X_if_ne (tgt := 74) (nx := 66) rfl rfl rfl (fun n2 => ?_) (fun n2 => ?_)
        · have n2 := li_ne (b := 0) n2
          refine X_run 2 (pc' := 76) (L' := [some (.inr (some (5, 0))), some (.inl (nI i)), some (.inr (some (18, x))), o3, o4]) (st' := [.inr (some (18, x)), .inr (some (5, 0))]) rfl ?_
          refine X_callV (vs := [.inr (some (18, x))]) (st := []) (mc := 0) (ms := 0) rfl ok_Pi_change v_Pi_121 (cH_obj rfl (by assumption)) rfl rfl (Nat.le_of_ble_eq_true rfl) (Nat.le_of_ble_eq_true rfl) (Nat.le_of_ble_eq_true rfl) (Nat.le_of_ble_eq_true rfl) (by show 3 * i + 0 ≤ 480; omega) (by show 18 * i + 0 ≤ 2880; omega) rfl ?_
          refine c_Pi_change hR hDx n2 l1 (l3 n2) l4 (fun F3 B3 C3 y1 y2 => ?_)
          show X M_Pi_layThings _ _ 79 [some (.inr (some (5, 0))), some (.inl (nI i)), some (.inr (some (18, x))), o3, o4] [] (cH F3 B3 C3 W2 E2 r) (3 * i) (18 * i)
          refine X_run 2 (pc' := 44) (L' := [some (.inr (some (5, 0))), some (.inl (nI i + 1)), some (.inr (some (18, x))), o3, o4]) (st' := []) rfl ?_
          refine X_eq (L' := [some (.inr (some (5, 0))), some (.inl (nI (i + 1))), some (.inr (some (18, x))), o3, o4]) (congrArg (fun zz9 : Int32 => ([some (.inr (some (5, 0))), some (.inl zz9), some (.inr (some (18, x))), o3, o4] : List (Option AV))) (by first | rfl | exact congrArg nI (by omega) | (simp only [il_0, il_1, il_2, il_3, il_4, il_5, il_6, il_7, il_16, il_20, il_40, il_160, pk_mul, nI_add]; done) | (simp only [il_0, il_1, il_2, il_3, il_4, il_5, il_6, il_7, il_16, il_20, il_40, il_160, pk_mul, nI_add]; exact congrArg nI (by omega)))) rfl rfl ?_
          exact X_widen (by omega) (by omega) (ih n1 F3 B3 C3 W2 E2 _ (by rw [tk]; exact y1) (hFL.trans y2))
        · have n2 := li_eq (b := 0) (by omega) (by omega) n2
          refine X_run 2 (pc' := 68) (L' := [some (.inr (some (5, 0))), some (.inl (nI i)), some (.inr (some (18, x))), o3, o4]) (st' := [.inr (some (18, x)), .inr (some (5, 0))]) rfl ?_
          refine X_callV (vs := [.inr (some (18, x))]) (st := []) (mc := 3) (ms := 18) rfl ok_Pi_bring v_Pi_117 (cH_obj rfl (by assumption)) rfl rfl (Nat.le_of_ble_eq_true rfl) (Nat.le_of_ble_eq_true rfl) (Nat.le_of_ble_eq_true rfl) (Nat.le_of_ble_eq_true rfl) (by show 3 * i + 3 ≤ 480; omega) (by show 18 * i + 18 ≤ 2880; omega) rfl ?_
          refine c_Pi_bring hR hDx n2 (l2 n2).1 (l2 n2).2 (by have := odP_len σ (K.take i); rw [List.length_take] at this; omega) (fun F3 B3 C3 W3 E3 y1 y2 => ?_)
          show X M_Pi_layThings _ _ 71 [some (.inr (some (5, 0))), some (.inl (nI i)), some (.inr (some (18, x))), o3, o4] [] (cH F3 B3 C3 W3 E3 r) (3 * i + 3) (18 * i + 18)
          refine X_run 1 (pc' := 79) (L' := [some (.inr (some (5, 0))), some (.inl (nI i)), some (.inr (some (18, x))), o3, o4]) (st' := []) rfl ?_
          refine X_run 2 (pc' := 44) (L' := [some (.inr (some (5, 0))), some (.inl (nI i + 1)), some (.inr (some (18, x))), o3, o4]) (st' := []) rfl ?_
          refine X_eq (L' := [some (.inr (some (5, 0))), some (.inl (nI (i + 1))), some (.inr (some (18, x))), o3, o4]) (congrArg (fun zz9 : Int32 => ([some (.inr (some (5, 0))), some (.inl zz9), some (.inr (some (18, x))), o3, o4] : List (Option AV))) (by first | rfl | exact congrArg nI (by omega) | (simp only [il_0, il_1, il_2, il_3, il_4, il_5, il_6, il_7, il_16, il_20, il_40, il_160, pk_mul, nI_add]; done) | (simp only [il_0, il_1, il_2, il_3, il_4, il_5, il_6, il_7, il_16, il_20, il_40, il_160, pk_mul, nI_add]; exact congrArg nI (by omega)))) rfl rfl ?_
          exact X_widen (by omega) (by omega) (ih n1 F3 B3 C3 W3 E3 _ (by rw [tk]; exact y1) (hFL.trans y2))
    · refine ⟨hP, fun t ht => ?_, ⟨by rw [u3_eq]; rfl, by simp [odP], by simp [odP], fun k t hk => by simp [odP] at hk⟩, fun t ht => ?_, fun t ht hh => by cases hh⟩
      · rw [u3_ne (by omega), u3_ne (by omega)]
        exact hT1 t ht
      · show (false = true) ↔ t ∈ []
        simp
    · exact ⟨fun a i k h1 h2 => by rw [u3_ne (by omega), hF1 a i k (by omega)], fun _ _ _ _ => rfl, fun _ _ _ => rfl, fun _ _ _ _ _ => rfl, fun _ _ z => z⟩
  refine up_ind 160 (fun i => ∀ (F1 : CF) (o4 : Option AV), (∀ a i k, ¬ (a = 20 ∧ k = 1) → F1 a i k = F a i k) → TX (thG th i) F1 C E → X M_Pi_layThings (rmo M_Pi_layThings 480 2880) (Zm Q 480 2880) 10 [some (.inr (some (5, 0))), some (.inr (some (9, 0))), some (.inl (nI 160)), some (.inl (nI i)), o4] [] (cH F1 B C Wr E r) 0 0) ?_ 0 (by omega) F none (fun _ _ _ _ => rfl) (by rw [show thG th 0 = th from funext fun t => by simp [thG]]; exact hT)
  intro i hi ih F1 o4 hF1 hT1
  refine X_run 2 (pc' := 12) (L' := [some (.inr (some (5, 0))), some (.inr (some (9, 0))), some (.inl (nI 160)), some (.inl (nI i)), o4]) (st' := [.inl (nI 160), .inl (nI i)]) rfl ?_
  refine X_ic_ge (tgt := 37) (nx := 15) rfl rfl rfl (fun n1 => ?_) (fun n1 => ?_)
  · have n1 := li_le (a := 160) (by omega) (by omega) n1
    refine second F1 _ _ _ hF1 (fun t ht => ?_)
    have := hT1 t ht
    rw [show thG th i t = thN t by unfold thG thN; rw [decide_eq_false (by omega)]; rfl] at this
    exact this
  · have n1 := li_nle (a := 160) (by omega) (by omega) n1
    refine X_run 2 (pc' := 17) (L' := [some (.inr (some (5, 0))), some (.inr (some (9, 0))), some (.inl (nI 160)), some (.inl (nI i)), o4]) (st' := [.inl (nI i), .inr (some (9, 0))]) rfl ?_
    refine XC_ald (a := 9) (i := 0) (j := i) (v := (C 9 i)) rfl ⟨rfl, by decide, by decide⟩ (by assumption) (by simp only [rLn]; omega) rfl rfl ?_
    rcases hT1 i n1 with ⟨c1, c2, c3⟩ | ⟨c1, c2, c3, c4, c5, c6⟩
    · rw [c1]
      refine X_run 2 (pc' := 22) (L' := [some (.inr (some (5, 0))), some (.inr (some (9, 0))), some (.inl (nI 160)), some (.inl (nI i)), some (.inr none)]) (st' := [.inr none]) rfl ?_
      refine X_ifnull (tgt := 31) (nx := 25) rfl rfl rfl (fun n2 => ?_) (fun nn n2 => ?_)
      · refine X_run 2 (pc' := 10) (L' := [some (.inr (some (5, 0))), some (.inr (some (9, 0))), some (.inl (nI 160)), some (.inl (nI i + 1)), some (.inr none)]) (st' := []) rfl ?_
        refine X_eq (L' := [some (.inr (some (5, 0))), some (.inr (some (9, 0))), some (.inl (nI 160)), some (.inl (nI (i + 1))), some (.inr none)]) (congrArg (fun zz9 : Int32 => ([some (.inr (some (5, 0))), some (.inr (some (9, 0))), some (.inl (nI 160)), some (.inl zz9), some (.inr none)] : List (Option AV))) (by first | rfl | exact congrArg nI (by omega) | (simp only [il_0, il_1, il_2, il_3, il_4, il_5, il_6, il_7, il_16, il_20, il_40, il_160, pk_mul, nI_add]; done) | (simp only [il_0, il_1, il_2, il_3, il_4, il_5, il_6, il_7, il_16, il_20, il_40, il_160, pk_mul, nI_add]; exact congrArg nI (by omega)))) rfl rfl ?_
        refine ih n1 F1 _ hF1 (fun t ht => ?_)
        by_cases q : t = i
        · rw [q]
          exact Or.inl ⟨c1, by unfold thG; rw [decide_eq_false (by omega)]; rfl, c3⟩
        · have := hT1 t ht
          rw [show thG th (i + 1) t = thG th i t by unfold thG; rw [show decide (i + 1 ≤ t) = decide (i ≤ t) from decide_eq_decide.mpr (by omega)]]
          exact this
      · cases n2
    · rw [c1]
      refine X_run 2 (pc' := 22) (L' := [some (.inr (some (5, 0))), some (.inr (some (9, 0))), some (.inl (nI 160)), some (.inl (nI i)), some (.inr (some (20, i)))]) (st' := [.inr (some (20, i))]) rfl ?_
      refine X_ifnull (tgt := 31) (nx := 25) rfl rfl rfl (fun n2 => ?_) (fun nn n2 => ?_)
      · cases n2
      · refine X_run 2 (pc' := 28) (L' := [some (.inr (some (5, 0))), some (.inr (some (9, 0))), some (.inl (nI 160)), some (.inl (nI i)), some (.inr (some (20, i)))]) (st' := [.inl (0), .inr (some (20, i))]) rfl ?_
        refine XC_put (k := 1) (a := 20) (i := i) rfl f_Pi_86 rfl rfl rfl ⟨rfl, rfl⟩ ⟨rfl, rfl⟩ (by assumption) (fun _ => ⟨rfl, rfl⟩) rfl ?_
        refine X_run 2 (pc' := 10) (L' := [some (.inr (some (5, 0))), some (.inr (some (9, 0))), some (.inl (nI 160)), some (.inl (nI i + 1)), some (.inr (some (20, i)))]) (st' := []) rfl ?_
        refine X_eq (L' := [some (.inr (some (5, 0))), some (.inr (some (9, 0))), some (.inl (nI 160)), some (.inl (nI (i + 1))), some (.inr (some (20, i)))]) (congrArg (fun zz9 : Int32 => ([some (.inr (some (5, 0))), some (.inr (some (9, 0))), some (.inl (nI 160)), some (.inl zz9), some (.inr (some (20, i)))] : List (Option AV))) (by first | rfl | exact congrArg nI (by omega) | (simp only [il_0, il_1, il_2, il_3, il_4, il_5, il_6, il_7, il_16, il_20, il_40, il_160, pk_mul, nI_add]; done) | (simp only [il_0, il_1, il_2, il_3, il_4, il_5, il_6, il_7, il_16, il_20, il_40, il_160, pk_mul, nI_add]; exact congrArg nI (by omega)))) rfl rfl ?_
        refine ih n1 _ _ (fun a j k hh => by rw [u3_ne (by omega), hF1 a j k hh]) (fun t ht => ?_)
        by_cases q : t = i
        · rw [q, u3_ne (by omega), u3_eq]
          exact Or.inr ⟨c1, c2, c3, c4, c5, by unfold thG; rw [decide_eq_false (by omega)]; rfl⟩
        · have := hT1 t ht
          rw [show thG th (i + 1) t = thG th i t by unfold thG; rw [show decide (i + 1 ≤ t) = decide (i ≤ t) from decide_eq_decide.mpr (by omega)], u3_ne (by omega), u3_ne (by omega)]
          exact this
end

