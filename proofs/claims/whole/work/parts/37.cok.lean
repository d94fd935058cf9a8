/-! the component's picture: strikes are judged, keepers are chosen -/
def jdF (σ : Sg) (s : TS) (x : Nat) : Bool := !decide (x % 40 < s.2.2.2.2 (x / 40)) && (wn σ || (List.range 4).all (fun e => decide (s.2.2.2.1 e ≤ kw σ x e)))
def skP (σ : Sg) (K P : List Nat) (t : Nat) : Bool := P.any (fun x => so σ x == 3 && tg σ x == t && jdF σ (tsP σ K t) x)
theorem skP_snoc (σ : Sg) (K P : List Nat) (x t : Nat) : skP σ K (P ++ [x]) t = (skP σ K P t || (so σ x == 3 && tg σ x == t && jdF σ (tsP σ K t) x)) := by
  unfold skP
  rw [List.any_append]
  simp
/-- a laid picture: sk which things are struck, W their rows -/
def TJ (σ : Sg) (K : List Nat) (sk : Nat → Bool) (W : Nat → Option Nd) (F : CF) (B : CB) (C : CC) (Wr : Nat → Option Nd) (E : Nat → Nat → Bool) : Prop := PE E ∧ TX (thP σ K) F C E ∧ OO (odP σ K) F C E ∧ (∀ t, t < 160 → (thP σ K t = true ↔ t ∈ odP σ K)) ∧ LK K F C ∧ F 5 0 0 = b2i (wn σ) ∧ (∀ x, x ∈ K → DE σ F B E x) ∧
  ∀ t, t < 160 → thP σ K t = true → F 20 t 2 = b2i (sk t) ∧ Wr t = W t ∧ TVal (tsP σ K t) t F B
theorem TJ.len {σ : Sg} {K : List Nat} {sk : Nat → Bool} {W : Nat → Option Nd} {F : CF} {B : CB} {C : CC} {Wr : Nat → Option Nd} {E : Nat → Nat → Bool} (_ : TJ σ K sk W F B C Wr E) (hK : KL σ K) : K.length ≤ 160 := hK.1
theorem KL.at {σ : Sg} {K : List Nat} (hK : KL σ K) {x : Nat} (hx : x ∈ K) : so σ x ≠ 7 ∧ (so σ x = 0 → tg σ x = x) ∧ thP σ K (tg σ x) = true := by
  obtain ⟨i, hi⟩ := mem_idx hx
  have tk : K.take (i + 1) = K.take i ++ [x] := by rw [List.take_add_one, hi]; rfl
  have sp : K = K.take i ++ x :: K.drop (i + 1) := by
    have h1 := List.take_append_drop (i + 1) K
    rw [tk, List.append_assoc] at h1
    exact h1.symm
  obtain ⟨l1, l2, l3, -⟩ := hK.2 _ _ _ sp
  refine ⟨l1, fun z => (l2 z).1, ?_⟩
  unfold thP
  rw [List.any_eq_true]
  by_cases q : so σ x = 0
  · exact ⟨x, hx, by simp [q]⟩
  · have := l3 q
    unfold thP at this
    rw [List.any_eq_true] at this
    obtain ⟨y, hy, hz⟩ := this
    exact ⟨y, List.mem_of_mem_take hy, hz⟩
theorem KL.put {σ : Sg} {K : List Nat} (hK : KL σ K) {t : Nat} (ht : thP σ K t = true) : t ∈ K ∧ so σ t = 0 := by
  unfold thP at ht
  rw [List.any_eq_true] at ht
  obtain ⟨x, hx, hz⟩ := ht
  simp at hz
  have := (hK.at hx).2.1 hz.1
  rw [hz.2] at this
  rw [this]
  exact ⟨hx, hz.1⟩
section
variable {F : CF} {B : CB} {C : CC} {Wr : Nat → Option Nd} {E : Nat → Nat → Bool} {r : AH} {Q : Option AV → AH → Prop} {h : AH} {σ : Sg} {see : Nat → Nat} {K : List Nat}
theorem c_Pi_judgeStrikes {W : Nat → Option Nd} (hJ : TJ σ K (fun _ => false) W F B C Wr E) (hK : KL σ K) (hq : ∀ F' : CF, (∀ a i k, ¬ (a = 20 ∧ k = 2) → F' a i k = F a i k) → TJ σ K (skP σ K K) W F' B C Wr E → Q none (cH F' B C Wr E r)) : X M_Pi_judgeStrikes (rmo M_Pi_judgeStrikes 0 0) (Zm Q 0 0) 0 (ini M_Pi_judgeStrikes [.inr (some (5, 0))]) [] (cH F B C Wr E r) 0 0 := by
  have k160 := hK.1
  have hP := hJ.1
  have h5 := hP.1
  have h8 : E 8 0 = true := hP.at (by omega)
  have hJ' : TJ σ K (skP σ K (K.take 0)) W F B C Wr E := hJ
  show X M_Pi_judgeStrikes _ _ 0 [some (.inr (some (5, 0))), none, none] [] (cH F B C Wr E r) 0 0
  refine X_run 2 (pc' := 2) (L' := [some (.inr (some (5, 0))), some (.inl (0)), none]) (st' := []) rfl ?_
  refine X_eq (L' := [some (.inr (some (5, 0))), some (.inl (nI (0))), none]) (congrArg (fun zz9 : Int32 => ([some (.inr (some (5, 0))), some (.inl zz9), none] : List (Option AV))) (by first | rfl | exact congrArg nI (by omega) | (simp only [il_0, il_1, il_2, il_3, il_4, il_5, il_6, il_7, il_16, il_20, il_40, il_160, pk_mul, nI_add]; done) | (simp only [il_0, il_1, il_2, il_3, il_4, il_5, il_6, il_7, il_16, il_20, il_40, il_160, pk_mul, nI_add]; exact congrArg nI (by omega)))) rfl rfl ?_
  refine up_ind K.length (fun i => ∀ (F1 : CF) (o : Option AV), (∀ a i k, ¬ (a = 20 ∧ k = 2) → F1 a i k = F a i k) → TJ σ K (skP σ K (K.take i)) W F1 B C Wr E → X M_Pi_judgeStrikes (rmo M_Pi_judgeStrikes 0 0) (Zm Q 0 0) 2 [some (.inr (some (5, 0))), some (.inl (nI i)), o] [] (cH F1 B C Wr E r) 0 0) ?_ 0 (by omega) F none (fun _ _ _ _ => rfl) hJ'
  intro i hi ih F1 o hF1 hJ1
  obtain ⟨j1, j2, j3, j4, j5, j6, j7, j8⟩ := hJ1
  refine X_run 2 (pc' := 4) (L' := [some (.inr (some (5, 0))), some (.inl (nI i)), o]) (st' := [.inr (some (5, 0)), .inl (nI i)]) rfl ?_
  refine XC_get (a := 5) (i := 0) (v := .inl (F1 5 0 4)) rfl f_Pi_25 ⟨rfl, rfl⟩ (by assumption) rfl rfl ?_
  refine X_eq (st' := [.inl (nI K.length), .inl (nI i)]) rfl (congrArg (fun zz9 => Sum.inl zz9 :: _) (j5.1)) rfl ?_
  refine X_ic_ge (tgt := 61) (nx := 10) rfl rfl rfl (fun n1 => ?_) (fun n1 => ?_)
  · have n1 := li_le (by omega) (by omega) n1
    have e : i = K.length := by omega
    exact X_vret rfl rfl (Nat.le_refl _) (Nat.le_refl _) (hq F1 hF1 (by rw [e, List.take_length] at j8; exact ⟨j1, j2, j3, j4, j5, j6, j7, j8⟩))
  · have n1 := li_nle (by omega) (by omega) n1
    obtain ⟨x, hx⟩ : ∃ x, K[i]? = some x := ⟨_, List.getElem?_eq_getElem n1⟩
    have hxl := List.mem_of_getElem? hx
    have tk : K.take (i + 1) = K.take i ++ [x] := by rw [List.take_add_one, hx]; rfl
    have hDx := j7 x hxl
    have hDx' := hDx
    obtain ⟨x0, x18, x19, xd, xn, xso, xsp, xtg, -, -, -, xkw, xs7, -, xtl⟩ := hDx'
    obtain ⟨t, et⟩ : ∃ t, tg σ x = t := ⟨_, rfl⟩
    have hth := (hK.at hxl).2.2
    rw [et] at hth xtg xtl
    obtain ⟨c9, t20, t21, t22, tn⟩ := j2.on xtl hth
    obtain ⟨v2, vw, w1, w2, w3, w4⟩ := j8 t xtl hth
    have c8 := j5.2 i x hx
    refine X_run 2 (pc' := 12) (L' := [some (.inr (some (5, 0))), some (.inl (nI i)), o]) (st' := [.inr (some (5, 0)), .inr (some (5, 0))]) rfl ?_
    refine XC_get (a := 5) (i := 0) (v := .inr (some (8, 0))) rfl f_Pi_21 ⟨rfl, rfl⟩ (by assumption) rfl rfl ?_
    refine X_run 1 (pc' := 16) (L' := [some (.inr (some (5, 0))), some (.inl (nI i)), o]) (st' := [.inl (nI i), .inr (some (8, 0)), .inr (some (5, 0))]) rfl ?_
    refine XC_ald (a := 8) (i := 0) (j := i) (v := (C 8 i)) rfl ⟨rfl, by decide, by decide⟩ (by assumption) (by simp only [rLn]; omega) rfl rfl ?_
    rw [c8]
    refine XC_get (a := 18) (i := x) (v := .inl (F1 18 x 4)) rfl f_Pi_110 ⟨rfl, rfl⟩ (by assumption) rfl rfl ?_
    refine X_eq (st' := [.inl (nI t), .inr (some (5, 0))]) rfl (congrArg (fun zz9 => Sum.inl zz9 :: _) (xtg)) rfl ?_
    refine X_callV (vs := [.inl (nI t)]) (st := []) (mc := 0) (ms := 0) rfl ok_Pi_find v_Pi_140 (cH_obj rfl (by assumption)) rfl rfl (Nat.le_of_ble_eq_true rfl) (Nat.le_of_ble_eq_true rfl) (Nat.le_of_ble_eq_true rfl) (Nat.le_of_ble_eq_true rfl) (Nat.le_of_ble_eq_true rfl) (Nat.le_of_ble_eq_true rfl) rfl ?_
    refine c_Pi_find1 j1 j2.TH xtl (fun _ => ?_) (fun z => by rw [hth] at z; cases z)
    show X M_Pi_judgeStrikes _ _ 23 [some (.inr (some (5, 0))), some (.inl (nI i)), o] [.inr (some (20, t))] (cH F1 B C Wr E r) 0 0
    refine X_run 2 (pc' := 25) (L' := [some (.inr (some (5, 0))), some (.inl (nI i)), some (.inr (some (20, t)))]) (st' := [.inr (some (5, 0))]) rfl ?_
    refine XC_get (a := 5) (i := 0) (v := .inr (some (8, 0))) rfl f_Pi_21 ⟨rfl, rfl⟩ (by assumption) rfl rfl ?_
    refine X_run 1 (pc' := 29) (L' := [some (.inr (some (5, 0))), some (.inl (nI i)), some (.inr (some (20, t)))]) (st' := [.inl (nI i), .inr (some (8, 0))]) rfl ?_
    refine XC_ald (a := 8) (i := 0) (j := i) (v := (C 8 i)) rfl ⟨rfl, by decide, by decide⟩ (by assumption) (by simp only [rLn]; omega) rfl rfl ?_
    rw [c8]
    refine XC_get (a := 18) (i := x) (v := .inl (F1 18 x 2)) rfl f_Pi_103 ⟨rfl, rfl⟩ (by assumption) rfl rfl ?_
    refine X_eq (st' := [.inl (nI (so σ x))]) rfl (congrArg (fun zz9 => Sum.inl zz9 :: _) (xso)) rfl ?_
    refine X_run 1 (pc' := 34) (L' := [some (.inr (some (5, 0))), some (.inl (nI i)), some (.inr (some (20, t)))]) (st' := [.inl (3), .inl (nI (so σ x))]) rfl ?_
    refine X_ic_ne (tgt := 55) (nx := 37) rfl rfl rfl (fun n2 => ?_) (fun n2 => ?_)
    · have n2 := li_ne (b := 3) n2
      refine X_run 2 (pc' := 2) (L' := [some (.inr (some (5, 0))), some (.inl (nI i + 1)), some (.inr (some (20, t)))]) (st' := []) rfl ?_
      refine X_eq (L' := [some (.inr (some (5, 0))), some (.inl (nI (i + 1))), some (.inr (some (20, t)))]) (congrArg (fun zz9 : Int32 => ([some (.inr (some (5, 0))), some (.inl zz9), some (.inr (some (20, t)))] : List (Option AV))) (by first | rfl | exact congrArg nI (by omega) | (simp only [il_0, il_1, il_2, il_3, il_4, il_5, il_6, il_7, il_16, il_20, il_40, il_160, pk_mul, nI_add]; done) | (simp only [il_0, il_1, il_2, il_3, il_4, il_5, il_6, il_7, il_16, il_20, il_40, il_160, pk_mul, nI_add]; exact congrArg nI (by omega)))) rfl rfl ?_
      refine ih n1 F1 _ hF1 ?_
      have e : skP σ K (K.take (i + 1)) = skP σ K (K.take i) := by
        funext z
        rw [tk, skP_snoc, show (so σ x == 3) = false by simpa using n2]
        simp
      rw [e]
      exact ⟨j1, j2, j3, j4, j5, j6, j7, j8⟩
    · have n2 := li_eq (b := 3) (by omega) (by omega) n2
      refine X_run 1 (pc' := 38) (L' := [some (.inr (some (5, 0))), some (.inl (nI i)), some (.inr (some (20, t)))]) (st' := [.inr (some (20, t))]) rfl ?_
      refine X_ifnull (tgt := 55) (nx := 41) rfl rfl rfl (fun n3 => ?_) (fun nn n3 => ?_)
      · cases n3
      · refine X_run 2 (pc' := 43) (L' := [some (.inr (some (5, 0))), some (.inl (nI i)), some (.inr (some (20, t)))]) (st' := [.inr (some (5, 0)), .inr (some (20, t))]) rfl ?_
        refine XC_get (a := 5) (i := 0) (v := .inr (some (8, 0))) rfl f_Pi_21 ⟨rfl, rfl⟩ (by assumption) rfl rfl ?_
        refine X_run 1 (pc' := 47) (L' := [some (.inr (some (5, 0))), some (.inl (nI i)), some (.inr (some (20, t)))]) (st' := [.inl (nI i), .inr (some (8, 0)), .inr (some (20, t))]) rfl ?_
        refine XC_ald (a := 8) (i := 0) (j := i) (v := (C 8 i)) rfl ⟨rfl, by decide, by decide⟩ (by assumption) (by simp only [rLn]; omega) rfl rfl ?_
        rw [c8]
        refine X_run 1 (pc' := 49) (L' := [some (.inr (some (5, 0))), some (.inl (nI i)), some (.inr (some (20, t)))]) (st' := [.inr (some (5, 0)), .inr (some (18, x)), .inr (some (20, t))]) rfl ?_
        refine XC_get (a := 5) (i := 0) (v := .inl (F1 5 0 0)) rfl f_Pi_53 ⟨rfl, rfl⟩ (by assumption) rfl rfl ?_
        refine X_eq (st' := [.inl (b2i (wn σ)), .inr (some (18, x)), .inr (some (20, t))]) rfl (congrArg (fun zz9 => Sum.inl zz9 :: _) (j6)) rfl ?_
        refine X_callV (vs := [.inr (some (18, x)), .inl (b2i (wn σ))]) (st := []) (mc := 0) (ms := 0) rfl ok_Th_judge v_Pi_168 (cH_obj rfl (by assumption)) rfl rfl (Nat.le_of_ble_eq_true rfl) (Nat.le_of_ble_eq_true rfl) (Nat.le_of_ble_eq_true rfl) (Nat.le_of_ble_eq_true rfl) (Nat.le_of_ble_eq_true rfl) (Nat.le_of_ble_eq_true rfl) rfl ?_
        refine c_Th_judge (m := (tsP σ K t).2.2.2.2) (o := (tsP σ K t).2.2.2.1) hDx t20 t21 t22 (fun e he => ⟨(w4 e he).2.2.1, by have := (w4 e he).2.2.2; omega⟩) (fun e he => ⟨(w4 e he).1, by have := (w4 e he).2.1; omega⟩) (fun b hb => ?_)
        have eb : b = jdF σ (tsP σ K t) x := by
          rw [Bool.eq_iff_iff, hb]
          unfold jdF
          rw [Bool.and_eq_true, Bool.or_eq_true, List.all_eq_true]
          simp
        show X M_Pi_judgeStrikes _ _ 55 [some (.inr (some (5, 0))), some (.inl (nI i)), some (.inr (some (20, t)))] [] (cH (if b then u3 F1 20 t 2 1 else F1) B C Wr E r) 0 0
        refine X_run 2 (pc' := 2) (L' := [some (.inr (some (5, 0))), some (.inl (nI i + 1)), some (.inr (some (20, t)))]) (st' := []) rfl ?_
        refine X_eq (L' := [some (.inr (some (5, 0))), some (.inl (nI (i + 1))), some (.inr (some (20, t)))]) (congrArg (fun zz9 : Int32 => ([some (.inr (some (5, 0))), some (.inl zz9), some (.inr (some (20, t)))] : List (Option AV))) (by first | rfl | exact congrArg nI (by omega) | (simp only [il_0, il_1, il_2, il_3, il_4, il_5, il_6, il_7, il_16, il_20, il_40, il_160, pk_mul, nI_add]; done) | (simp only [il_0, il_1, il_2, il_3, il_4, il_5, il_6, il_7, il_16, il_20, il_40, il_160, pk_mul, nI_add]; exact congrArg nI (by omega)))) rfl rfl ?_
        have fo : ∀ a i k, ¬ (a = 20 ∧ i = t ∧ k = 2) → (if b then u3 F1 20 t 2 1 else F1) a i k = F1 a i k := fun a i k hh => by
          cases b
          · rfl
          · exact u3_ne hh
        have f2 : (if b then u3 F1 20 t 2 1 else F1) 20 t 2 = b2i (skP σ K (K.take i) t || b) := by
          cases b
          · rw [Bool.or_false]
            exact v2
          · rw [Bool.or_true]
            exact u3_eq _ _ _ _ _
        generalize (if b then u3 F1 20 t 2 1 else F1) = F2 at fo f2
        refine ih n1 F2 _ (fun a i k hh => by rw [fo a i k (by omega), hF1 a i k hh]) ⟨j1, fun z hz => ?_, ⟨by rw [fo _ _ _ (by omega)]; exact j3.1, j3.2.1, j3.2.2.1, fun k z hz => ?_⟩, j4, ⟨by rw [fo _ _ _ (by omega)]; exact j5.1, j5.2⟩, by rw [fo _ _ _ (by omega)]; exact j6, fun y hy => ?_, fun z hz hzt => ?_⟩
        · rw [fo _ _ _ (by omega), fo _ _ _ (by omega)]
          exact j2 z hz
        · rw [fo _ _ _ (by omega)]
          exact j3.2.2.2 k z hz
        · obtain ⟨a1, a2, a3, a4, a5, a6, a7, a8, a9, a10, a11, a12, a13⟩ := j7 y hy
          refine ⟨a1, a2, a3, ?_⟩
          rw [fo 18 y 0 (by omega), fo 18 y 1 (by omega), fo 18 y 2 (by omega), fo 18 y 3 (by omega), fo 18 y 4 (by omega), fo 18 y 5 (by omega), fo 18 y 6 (by omega)]
          exact ⟨a4, a5, a6, a7, a8, a9, a10, a11, a12, a13⟩
        · obtain ⟨v2', vw', z1, z2, z3, z4⟩ := j8 z hz hzt
          have e3 : F2 20 z 3 = F1 20 z 3 := fo _ _ _ (by omega)
          have e4 : F2 20 z 4 = F1 20 z 4 := fo _ _ _ (by omega)
          have e5 : F2 20 z 5 = F1 20 z 5 := fo _ _ _ (by omega)
          refine ⟨?_, vw', e3.trans z1, e4.trans z2, e5.trans z3, z4⟩
          rw [tk, skP_snoc, n2]
          by_cases q : z = t
          · rw [q, f2, et, eb]
            simp
          · rw [fo _ _ _ (by omega), v2', show (tg σ x == z) = false by rw [et]; simpa using fun w => q (Eq.symm w)]
            simp
def kq (σ : Sg) (sk : Nat → Bool) (nm : Nat → Nat) (v x : Nat) : Bool := so σ x == 0 && !sk x && nm x == v
theorem c_Pi_chooseKeepers {W : Nat → Option Nd} {sk : Nat → Bool} {nm : Nat → Nat} (hJ : TJ σ K sk W F B C Wr E) (hK : KL σ K) (hn : ∀ t, t < 160 → thP σ K t = true → (tsP σ K t).1 = nI (nm t) ∧ nm t < 1000) (hq : ∀ C' : CC, (∀ a, a ≠ 13 → C' a = C a) → (∀ v, v < 1000 → C' 13 v = match K.find? (kq σ sk nm v) with | some x => some (20, x) | none => C 13 v) → Q none (cH F B C' Wr E r)) : X M_Pi_chooseKeepers (rmo M_Pi_chooseKeepers 0 0) (Zm Q 0 0) 0 (ini M_Pi_chooseKeepers [.inr (some (5, 0))]) [] (cH F B C Wr E r) 0 0 := by
  have k160 := hK.1
  have hP := hJ.1
  have h5 := hP.1
  have h8 : E 8 0 = true := hP.at (by omega)
  have h13 : E 13 0 = true := hP.at (by omega)
  obtain ⟨j1, j2, j3, j4, j5, j6, j7, j8⟩ := hJ
  show X M_Pi_chooseKeepers _ _ 0 [some (.inr (some (5, 0))), none, none] [] (cH F B C Wr E r) 0 0
  refine X_run 1 (pc' := 1) (L' := [some (.inr (some (5, 0))), none, none]) (st' := [.inr (some (5, 0))]) rfl ?_
  refine XC_get (a := 5) (i := 0) (v := .inl (F 5 0 4)) rfl f_Pi_25 ⟨rfl, rfl⟩ (by assumption) rfl rfl ?_
  refine X_eq (st' := [.inl (nI K.length)]) rfl (congrArg (fun zz9 => Sum.inl zz9 :: _) (j5.1)) rfl ?_
  refine X_run 3 (pc' := 7) (L' := [some (.inr (some (5, 0))), some (.inl ((nI K.length) - 1)), none]) (st' := []) rfl ?_
  refine X_eq (L' := [some (.inr (some (5, 0))), some (.inl (nI K.length + -1)), none]) (congrArg (fun zz9 : Int32 => ([some (.inr (some (5, 0))), some (.inl zz9), none] : List (Option AV))) ((Int32.sub_eq_add_neg (nI K.length) 1))) rfl rfl ?_
  refine dn_ind (fun i => i ≤ K.length → ∀ (C1 : CC) (o : Option AV), (∀ a, a ≠ 13 → C1 a = C a) → (∀ v, v < 1000 → C1 13 v = match (K.drop i).find? (kq σ sk nm v) with | some x => some (20, x) | none => C 13 v) → X M_Pi_chooseKeepers (rmo M_Pi_chooseKeepers 0 0) (Zm Q 0 0) 7 [some (.inr (some (5, 0))), some (.inl (nI i + -1)), o] [] (cH F B C1 Wr E r) 0 0) ?_ K.length (Nat.le_refl _) C none (fun _ _ => rfl) (fun v hv => by rw [List.drop_length]; rfl)
  intro i ih hi C1 o hC1 hC2
  by_cases i0 : i = 0
  · refine X_run 1 (pc' := 8) (L' := [some (.inr (some (5, 0))), some (.inl (nI i + -1)), o]) (st' := [.inl (nI i + -1)]) rfl ?_
    refine X_if_lt (tgt := 64) (nx := 11) rfl rfl rfl (fun n1 => ?_) (fun n1 => ?_)
    · refine X_vret rfl rfl (Nat.le_refl _) (Nat.le_refl _) (hq C1 hC1 ?_)
      rw [i0] at hC2
      exact hC2
    · rw [i0] at n1
      exact absurd (by decide) n1
  · obtain ⟨m, em⟩ : ∃ m, i = m + 1 := ⟨i - 1, by omega⟩
    have ek : nI i + -1 = nI m := by
      rw [em, ← Int32.sub_eq_add_neg]
      exact pk_sub (a := m + 1) (b := 1) (by omega)
    obtain ⟨x, hx⟩ : ∃ x, K[m]? = some x := ⟨_, List.getElem?_eq_getElem (by omega)⟩
    have hxl := List.mem_of_getElem? hx
    have dk : K.drop m = x :: K.drop i := by
      rw [em]
      have h1 := (List.getElem?_eq_some_iff.mp hx)
      rw [List.drop_eq_getElem_cons h1.1, h1.2]
    rw [show i - 1 = m by omega] at ih
    have hDx := j7 x hxl
    obtain ⟨x0, x18, x19, xd, xn, xso, xsp, xtg, -, -, -, xkw, xs7, -, xtl⟩ := hDx
    obtain ⟨t, et⟩ : ∃ t, tg σ x = t := ⟨_, rfl⟩
    have hth := (hK.at hxl).2.2
    have hxt := (hK.at hxl).2.1
    rw [et] at hth xtg xtl hxt
    obtain ⟨c9, t20, t21, t22, tn⟩ := j2.on xtl hth
    obtain ⟨v2, vw, w1, w2, w3, w4⟩ := j8 t xtl hth
    obtain ⟨m1, m2⟩ := hn t xtl hth
    have c8 := j5.2 m x hx
    have skip : (∀ v, kq σ sk nm v x = false) → X M_Pi_chooseKeepers (rmo M_Pi_chooseKeepers 0 0) (Zm Q 0 0) 58 [some (.inr (some (5, 0))), some (.inl (nI m)), some (.inr (some (20, t)))] [] (cH F B C1 Wr E r) 0 0 := by
      intro hno
      refine X_run 2 (pc' := 7) (L' := [some (.inr (some (5, 0))), some (.inl (nI m + -1)), some (.inr (some (20, t)))]) (st' := []) rfl ?_
      refine ih (by omega) (by omega) C1 _ hC1 (fun v hv => ?_)
      rw [dk, List.find?_cons, hno v]
      exact hC2 v hv
    refine X_eq (L' := [some (.inr (some (5, 0))), some (.inl (nI m)), o]) (congrArg (fun zz9 : Int32 => ([some (.inr (some (5, 0))), some (.inl zz9), o] : List (Option AV))) (ek)) rfl rfl ?_
    refine X_run 1 (pc' := 8) (L' := [some (.inr (some (5, 0))), some (.inl (nI m)), o]) (st' := [.inl (nI m)]) rfl ?_
    refine X_if_lt (tgt := 64) (nx := 11) rfl rfl rfl (fun n1 => ?_) (fun n1 => ?_)
    · exact absurd n1 (nI_n0 (by omega))
    · refine X_run 2 (pc' := 13) (L' := [some (.inr (some (5, 0))), some (.inl (nI m)), o]) (st' := [.inr (some (5, 0)), .inr (some (5, 0))]) rfl ?_
      refine XC_get (a := 5) (i := 0) (v := .inr (some (8, 0))) rfl f_Pi_21 ⟨rfl, rfl⟩ (by assumption) rfl rfl ?_
      refine X_run 1 (pc' := 17) (L' := [some (.inr (some (5, 0))), some (.inl (nI m)), o]) (st' := [.inl (nI m), .inr (some (8, 0)), .inr (some (5, 0))]) rfl ?_
      refine XC_ald (a := 8) (i := 0) (j := m) (v := (C1 8 m)) rfl ⟨rfl, by decide, by decide⟩ (by assumption) (by simp only [rLn]; omega) rfl rfl ?_
      rw [hC1 8 (by decide), c8]
      refine XC_get (a := 18) (i := x) (v := .inl (F 18 x 4)) rfl f_Pi_110 ⟨rfl, rfl⟩ (by assumption) rfl rfl ?_
      refine X_eq (st' := [.inl (nI t), .inr (some (5, 0))]) rfl (congrArg (fun zz9 => Sum.inl zz9 :: _) (xtg)) rfl ?_
      have j2' : TX (thP σ K) F C1 E := fun z hz => by rw [hC1 9 (by decide)]; exact j2 z hz
      refine X_callV (vs := [.inl (nI t)]) (st := []) (mc := 0) (ms := 0) rfl ok_Pi_find v_Pi_140 (cH_obj rfl (by assumption)) rfl rfl (Nat.le_of_ble_eq_true rfl) (Nat.le_of_ble_eq_true rfl) (Nat.le_of_ble_eq_true rfl) (Nat.le_of_ble_eq_true rfl) (Nat.le_of_ble_eq_true rfl) (Nat.le_of_ble_eq_true rfl) rfl ?_
      refine c_Pi_find1 j1 j2'.TH xtl (fun _ => ?_) (fun z => by rw [hth] at z; cases z)
      show X M_Pi_chooseKeepers _ _ 24 [some (.inr (some (5, 0))), some (.inl (nI m)), o] [.inr (some (20, t))] (cH F B C1 Wr E r) 0 0
      refine X_run 2 (pc' := 26) (L' := [some (.inr (some (5, 0))), some (.inl (nI m)), some (.inr (some (20, t)))]) (st' := [.inr (some (5, 0))]) rfl ?_
      refine XC_get (a := 5) (i := 0) (v := .inr (some (8, 0))) rfl f_Pi_21 ⟨rfl, rfl⟩ (by assumption) rfl rfl ?_
      refine X_run 1 (pc' := 30) (L' := [some (.inr (some (5, 0))), some (.inl (nI m)), some (.inr (some (20, t)))]) (st' := [.inl (nI m), .inr (some (8, 0))]) rfl ?_
      refine XC_ald (a := 8) (i := 0) (j := m) (v := (C1 8 m)) rfl ⟨rfl, by decide, by decide⟩ (by assumption) (by simp only [rLn]; omega) rfl rfl ?_
      rw [hC1 8 (by decide), c8]
      refine XC_get (a := 18) (i := x) (v := .inl (F 18 x 2)) rfl f_Pi_103 ⟨rfl, rfl⟩ (by assumption) rfl rfl ?_
      refine X_eq (st' := [.inl (nI (so σ x))]) rfl (congrArg (fun zz9 => Sum.inl zz9 :: _) (xso)) rfl ?_
      refine X_if_ne (tgt := 58) (nx := 37) rfl rfl rfl (fun n2 => ?_) (fun n2 => ?_)
      · have n2 := li_ne (b := 0) n2
        exact skip (fun v => by simp [kq, n2])
      · have n2 := li_eq (b := 0) (by omega) (by omega) n2
        have xt := hxt n2
        refine X_run 1 (pc' := 38) (L' := [some (.inr (some (5, 0))), some (.inl (nI m)), some (.inr (some (20, t)))]) (st' := [.inr (some (20, t))]) rfl ?_
        refine X_ifnull (tgt := 58) (nx := 41) rfl rfl rfl (fun n3 => ?_) (fun nn n3 => ?_)
        · cases n3
        · refine X_run 1 (pc' := 42) (L' := [some (.inr (some (5, 0))), some (.inl (nI m)), some (.inr (some (20, t)))]) (st' := [.inr (some (20, t))]) rfl ?_
          refine XC_get (a := 20) (i := t) (v := .inl (F 20 t 2)) rfl f_Pi_172 ⟨rfl, rfl⟩ (by assumption) rfl rfl ?_
          refine X_eq (st' := [.inl (b2i (sk t))]) rfl (congrArg (fun zz9 => Sum.inl zz9 :: _) (v2)) rfl ?_
          refine X_if_ne (tgt := 58) (nx := 48) rfl rfl rfl (fun n4 => ?_) (fun n4 => ?_)
          · rw [b2i_n0] at n4
            exact skip (fun v => by simp [kq, ← xt, n4])
          · rw [b2i_0] at n4
            refine X_run 1 (pc' := 49) (L' := [some (.inr (some (5, 0))), some (.inl (nI m)), some (.inr (some (20, t)))]) (st' := [.inr (some (5, 0))]) rfl ?_
            refine XC_get (a := 5) (i := 0) (v := .inr (some (13, 0))) rfl f_Pi_41 ⟨rfl, rfl⟩ (by assumption) rfl rfl ?_
            refine X_run 1 (pc' := 53) (L' := [some (.inr (some (5, 0))), some (.inl (nI m)), some (.inr (some (20, t)))]) (st' := [.inr (some (20, t)), .inr (some (13, 0))]) rfl ?_
            refine XC_get (a := 20) (i := t) (v := .inl (F 20 t 3)) rfl f_Pi_160 ⟨rfl, rfl⟩ (by assumption) rfl rfl ?_
            refine X_eq (st' := [.inl (nI (nm t)), .inr (some (13, 0))]) rfl (congrArg (fun zz9 => Sum.inl zz9 :: _) (w1.trans m1)) rfl ?_
            refine X_run 1 (pc' := 57) (L' := [some (.inr (some (5, 0))), some (.inl (nI m)), some (.inr (some (20, t)))]) (st' := [.inr (some (20, t)), .inl (nI (nm t)), .inr (some (13, 0))]) rfl ?_
            refine XC_ast (a := 13) (j := (nm t)) (a2 := 20) (i2 := t) rfl ⟨rfl, by decide⟩ (hP.2.2.2 13 (by omega)) (by simp only [rLn]; omega) rfl (by assumption) rfl rfl rfl ?_
            refine X_run 2 (pc' := 7) (L' := [some (.inr (some (5, 0))), some (.inl (nI m + -1)), some (.inr (some (20, t)))]) (st' := []) rfl ?_
            refine ih (by omega) (by omega) _ _ (fun a ha => ?_) (fun v hv => ?_)
            · funext z
              rw [u2_ne (by omega), hC1 a ha]
            · rw [dk, List.find?_cons]
              by_cases q : v = nm t
              · have : kq σ sk nm v x = true := by simp [kq, ← xt, show so σ t = 0 by rw [xt]; exact n2, n4, q]
                rw [this, q, u2_eq, xt]
              · have : kq σ sk nm v x = false := by
                  have q2 : ¬ nm t = v := fun w => q w.symm
                  simp [kq, ← xt, q2]
                rw [this, u2_ne (by omega)]
                exact hC2 v hv
end

