/-! the component: things and rows -/
section
variable {F : CF} {B : CB} {C : CC} {Wr : Nat → Option Nd} {E : Nat → Nat → Bool} {r : AH} {Q : Option AV → AH → Prop} {h : AH} {σ : Sg}
theorem c_Th_begin {t : Nat} {nm ct : Int32} (h20 : E 20 t = true) (h21 : E 21 t = true) (h22 : E 22 t = true) (hq : ∀ (F' : CF) (B' : CB), (∀ a i k, ¬ (a = 20 ∧ i = t ∧ 1 ≤ k ∧ k ≤ 5) → F' a i k = F a i k) → (F' 20 t 1 = 1 ∧ F' 20 t 2 = 0 ∧ F' 20 t 3 = nm ∧ F' 20 t 4 = ct ∧ F' 20 t 5 = 0) → (∀ a i, ¬ ((a = 21 ∨ a = 22) ∧ i = t) → B' a i = B a i) → (∀ e, e < 4 → B' 21 t e = 0 ∧ B' 22 t e = 0) → Q none (cH F' B' C (up1 Wr t none) E r)) : X M_Th_begin (rmo M_Th_begin 0 0) (Zm Q 0 0) 0 (ini M_Th_begin [.inr (some (20, t)), .inl nm, .inl ct]) [] (cH F B C Wr E r) 0 0 := by
  show X M_Th_begin _ _ 0 [some (.inr (some (20, t))), some (.inl (nm)), some (.inl (ct))] [] (cH F B C Wr E r) 0 0
  refine X_run 2 (pc' := 2) (L' := [some (.inr (some (20, t))), some (.inl (nm)), some (.inl (ct))]) (st' := [.inl (1), .inr (some (20, t))]) rfl ?_
  refine XC_put (k := 1) (a := 20) (i := t) rfl f_Th_9 rfl rfl rfl ⟨rfl, rfl⟩ ⟨rfl, rfl⟩ (by assumption) (fun _ => ⟨rfl, rfl⟩) rfl ?_
  refine X_run 2 (pc' := 7) (L' := [some (.inr (some (20, t))), some (.inl (nm)), some (.inl (ct))]) (st' := [.inl (0), .inr (some (20, t))]) rfl ?_
  refine XC_put (k := 2) (a := 20) (i := t) rfl f_Th_15 rfl rfl rfl ⟨rfl, rfl⟩ ⟨rfl, rfl⟩ (by assumption) (fun _ => ⟨rfl, rfl⟩) rfl ?_
  refine X_run 2 (pc' := 12) (L' := [some (.inr (some (20, t))), some (.inl (nm)), some (.inl (ct))]) (st' := [.inl (nm), .inr (some (20, t))]) rfl ?_
  refine XC_put (k := 3) (a := 20) (i := t) rfl f_Th_18 rfl rfl rfl ⟨rfl, rfl⟩ ⟨rfl, rfl⟩ (by assumption) (fun _ => ⟨rfl, rfl⟩) rfl ?_
  refine X_run 2 (pc' := 17) (L' := [some (.inr (some (20, t))), some (.inl (nm)), some (.inl (ct))]) (st' := [.inl (ct), .inr (some (20, t))]) rfl ?_
  refine XC_put (k := 4) (a := 20) (i := t) rfl f_Th_22 rfl rfl rfl ⟨rfl, rfl⟩ ⟨rfl, rfl⟩ (by assumption) (fun _ => ⟨rfl, rfl⟩) rfl ?_
  refine X_run 2 (pc' := 22) (L' := [some (.inr (some (20, t))), some (.inl (nm)), some (.inl (ct))]) (st' := [.inl (0), .inr (some (20, t))]) rfl ?_
  refine XC_put (k := 5) (a := 20) (i := t) rfl f_Th_25 rfl rfl rfl ⟨rfl, rfl⟩ ⟨rfl, rfl⟩ (by assumption) (fun _ => ⟨rfl, rfl⟩) rfl ?_
  refine X_run 2 (pc' := 27) (L' := [some (.inr (some (20, t))), some (.inl (nm)), some (.inl (ct))]) (st' := [.inr none, .inr (some (20, t))]) rfl ?_
  refine XC_putW (i := t) rfl f_Th_31 (by assumption) rfl ?_
  refine X_run 1 (pc' := 31) (L' := [some (.inr (some (20, t))), some (.inl (nm)), some (.inl (ct))]) (st' := [.inr (some (20, t))]) rfl ?_
  refine XC_get (a := 20) (i := t) (v := .inr (some (21, t))) rfl f_Th_35 ⟨rfl, rfl⟩ (by assumption) rfl rfl ?_
  refine X_run 1 (pc' := 35) (L' := [some (.inr (some (20, t))), some (.inl (nm)), some (.inl (ct))]) (st' := [.inl (0), .inr (some (21, t))]) rfl ?_
  refine X_callS (vs := [.inr (some (21, t)), .inl (0)]) (st := []) (mc := 0) (ms := 0) rfl ok_Ar_fill s_Th_45 rfl rfl (Nat.le_of_ble_eq_true rfl) (Nat.le_of_ble_eq_true rfl) (Nat.le_of_ble_eq_true rfl) (Nat.le_of_ble_eq_true rfl) (Nat.le_of_ble_eq_true rfl) (Nat.le_of_ble_eq_true rfl) rfl ?_
  refine c_Ar_fill ⟨rfl, rfl⟩ h21 rfl (fun f hf => ?_)
  show X M_Th_begin _ _ 38 [some (.inr (some (20, t))), some (.inl (nm)), some (.inl (ct))] [] (cH (u3 (u3 (u3 (u3 (u3 F 20 t 1 1) 20 t 2 0) 20 t 3 nm) 20 t 4 ct) 20 t 5 0) (uR B 21 t f) C (up1 Wr t none) E r) 0 0
  refine X_run 1 (pc' := 39) (L' := [some (.inr (some (20, t))), some (.inl (nm)), some (.inl (ct))]) (st' := [.inr (some (20, t))]) rfl ?_
  refine XC_get (a := 20) (i := t) (v := .inr (some (22, t))) rfl f_Th_39 ⟨rfl, rfl⟩ (by assumption) rfl rfl ?_
  refine X_run 1 (pc' := 43) (L' := [some (.inr (some (20, t))), some (.inl (nm)), some (.inl (ct))]) (st' := [.inl (0), .inr (some (22, t))]) rfl ?_
  refine X_callS (vs := [.inr (some (22, t)), .inl (0)]) (st := []) (mc := 0) (ms := 0) rfl ok_Ar_fill s_Th_45 rfl rfl (Nat.le_of_ble_eq_true rfl) (Nat.le_of_ble_eq_true rfl) (Nat.le_of_ble_eq_true rfl) (Nat.le_of_ble_eq_true rfl) (Nat.le_of_ble_eq_true rfl) (Nat.le_of_ble_eq_true rfl) rfl ?_
  refine c_Ar_fill ⟨rfl, rfl⟩ h22 rfl (fun g hg => ?_)
  show X M_Th_begin _ _ 46 [some (.inr (some (20, t))), some (.inl (nm)), some (.inl (ct))] [] (cH (u3 (u3 (u3 (u3 (u3 F 20 t 1 1) 20 t 2 0) 20 t 3 nm) 20 t 4 ct) 20 t 5 0) (uR (uR B 21 t f) 22 t g) C (up1 Wr t none) E r) 0 0
  refine X_vret rfl rfl (Nat.le_refl _) (Nat.le_refl _) (hq _ _ (fun a i k hh => ?_) ⟨by simp [u3], by simp [u3], by simp [u3], by simp [u3], by simp [u3]⟩ (fun a i hh => ?_) (fun e he => ⟨?_, ?_⟩))
  · rw [u3_ne (by rintro ⟨z1, z2, z3⟩; exact hh (by omega)), u3_ne (by rintro ⟨z1, z2, z3⟩; exact hh (by omega)), u3_ne (by rintro ⟨z1, z2, z3⟩; exact hh (by omega)), u3_ne (by rintro ⟨z1, z2, z3⟩; exact hh (by omega)), u3_ne (by rintro ⟨z1, z2, z3⟩; exact hh (by omega))]
  · rw [uR_ne (by rintro ⟨z1, z2⟩; exact hh (by omega)), uR_ne (by rintro ⟨z1, z2⟩; exact hh (by omega))]
  · rw [uR_ne (by rintro ⟨z1, z2⟩; omega), uR_eq]
    exact hf e he
  · rw [uR_eq]
    exact hg e he
theorem c_Th_noteBack {t x : Nat} {m : Nat → Nat} (hx : DE σ F B E x) (h20 : E 20 t = true) (h22 : E 22 t = true) (hm : ∀ e, e < 4 → B 22 t e = nI (m e) ∧ m e < 1000) (hq : ∀ f : Nat → Int32, (∀ e, e < 4 → f e = nI (max (m e) (kw σ x e))) → Q none (cH F (uR B 22 t f) C Wr E r)) : X M_Th_noteBack (rmo M_Th_noteBack 0 0) (Zm Q 0 0) 0 (ini M_Th_noteBack [.inr (some (20, t)), .inr (some (18, x))]) [] (cH F B C Wr E r) 0 0 := by
  obtain ⟨hx0, h18, h19, -, -, -, -, -, -, -, -, hkw, -⟩ := hx
  show X M_Th_noteBack _ _ 0 [some (.inr (some (20, t))), some (.inr (some (18, x))), none] [] (cH F B C Wr E r) 0 0
  refine X_run 2 (pc' := 2) (L' := [some (.inr (some (20, t))), some (.inr (some (18, x))), some (.inl (0))]) (st' := []) rfl ?_
  refine X_eq (L' := [some (.inr (some (20, t))), some (.inr (some (18, x))), some (.inl (nI (0)))]) (congrArg (fun zz9 : Int32 => ([some (.inr (some (20, t))), some (.inr (some (18, x))), some (.inl zz9)] : List (Option AV))) (by first | rfl | (simp only [il_0, il_1, il_2, il_3, il_4, il_5, il_6, il_7, il_16, il_20, il_40, il_160, pk_mul, nI_add]; done) | (simp only [il_0, il_1, il_2, il_3, il_4, il_5, il_6, il_7, il_16, il_20, il_40, il_160, pk_mul, nI_add]; exact congrArg nI (by omega)))) rfl rfl ?_
  refine up_ind 4 (fun k => ∀ f : Nat → Int32, (∀ e, e < 4 → f e = nI (if e < k then max (m e) (kw σ x e) else m e)) → X M_Th_noteBack (rmo M_Th_noteBack 0 0) (Zm Q 0 0) 2 [some (.inr (some (20, t))), some (.inr (some (18, x))), some (.inl (nI k))] [] (cH F (uR B 22 t f) C Wr E r) 0 0) ?_ 0 (by omega) (B 22 t) (fun e he => by rw [if_neg (by omega)]; exact (hm e he).1) |> fun hh => ?_
  · rw [uR_self] at hh
    exact hh
  intro k hk4 ih f hf
  refine X_run 2 (pc' := 4) (L' := [some (.inr (some (20, t))), some (.inr (some (18, x))), some (.inl (nI k))]) (st' := [.inl (4), .inl (nI k)]) rfl ?_
  refine X_ic_ge (tgt := 34) (nx := 7) rfl rfl rfl (fun h1 => ?_) (fun h1 => ?_)
  · have h1 := li_le (a := 4) (by omega) (by omega) h1
    exact X_vret rfl rfl (Nat.le_refl _) (Nat.le_refl _) (hq f (fun e he => by rw [hf e he, if_pos (by omega)]))
  · have h1 := li_nle (a := 4) (by omega) (by omega) h1
    have hk2 := hkw k h1
    have hm2 := hm k h1
    refine X_run 1 (pc' := 8) (L' := [some (.inr (some (20, t))), some (.inr (some (18, x))), some (.inl (nI k))]) (st' := [.inr (some (20, t))]) rfl ?_
    refine XC_get (a := 20) (i := t) (v := .inr (some (22, t))) rfl f_Th_39 ⟨rfl, rfl⟩ (by assumption) rfl rfl ?_
    refine X_run 2 (pc' := 13) (L' := [some (.inr (some (20, t))), some (.inr (some (18, x))), some (.inl (nI k))]) (st' := [.inr (some (20, t)), .inl (nI k), .inr (some (22, t))]) rfl ?_
    refine XC_get (a := 20) (i := t) (v := .inr (some (22, t))) rfl f_Th_39 ⟨rfl, rfl⟩ (by assumption) rfl rfl ?_
    refine X_run 1 (pc' := 17) (L' := [some (.inr (some (20, t))), some (.inr (some (18, x))), some (.inl (nI k))]) (st' := [.inl (nI k), .inr (some (22, t)), .inl (nI k), .inr (some (22, t))]) rfl ?_
    refine XC_ild (a := 22) (i := t) (j := k) rfl ⟨rfl, rfl⟩ (by assumption) (by simp only [rLn]; omega) rfl ?_
    refine X_eq (st' := [.inl (nI (m k)), .inl (nI k), .inr (some (22, t))]) rfl (congrArg (fun zz9 => Sum.inl zz9 :: _) ((by rw [uR_eq, hf k h1, if_neg (by omega)]))) rfl ?_
    refine X_run 1 (pc' := 19) (L' := [some (.inr (some (20, t))), some (.inr (some (18, x))), some (.inl (nI k))]) (st' := [.inr (some (18, x)), .inl (nI (m k)), .inl (nI k), .inr (some (22, t))]) rfl ?_
    refine XC_get (a := 18) (i := x) (v := .inr (some (19, x))) rfl f_Th_51 ⟨rfl, rfl⟩ (by assumption) rfl rfl ?_
    refine X_run 1 (pc' := 23) (L' := [some (.inr (some (20, t))), some (.inr (some (18, x))), some (.inl (nI k))]) (st' := [.inl (nI k), .inr (some (19, x)), .inl (nI (m k)), .inl (nI k), .inr (some (22, t))]) rfl ?_
    refine XC_ild (a := 19) (i := x) (j := k) rfl ⟨rfl, rfl⟩ (by assumption) (by simp only [rLn]; omega) rfl ?_
    refine X_eq (st' := [.inl (nI (kw σ x k)), .inl (nI (m k)), .inl (nI k), .inr (some (22, t))]) rfl (congrArg (fun zz9 => Sum.inl zz9 :: _) ((by rw [uR_ne (by rintro ⟨z, -⟩; omega)]; exact hk2.1))) rfl ?_
    refine X_max rfl x_Th_56 (Nat.le_of_ble_eq_true rfl) (Nat.le_of_ble_eq_true rfl) (Nat.le_of_ble_eq_true rfl) (Nat.le_of_ble_eq_true rfl) (Nat.le_of_ble_eq_true rfl) rfl ?_
    refine X_eq (st' := [.inl (nI (max (m k) (kw σ x k))), .inl (nI k), .inr (some (22, t))]) rfl (congrArg (fun zz9 => Sum.inl zz9 :: _) (mx_nat (by omega) (by omega))) rfl ?_
    refine XC_ist (a := 22) (i := t) (j := k) rfl ⟨rfl, rfl⟩ (by assumption) (by simp only [rLn]; omega) rfl ?_
    rw [uR_u3]
    refine X_run 2 (pc' := 2) (L' := [some (.inr (some (20, t))), some (.inr (some (18, x))), some (.inl (nI k + 1))]) (st' := []) rfl ?_
    refine X_eq (L' := [some (.inr (some (20, t))), some (.inr (some (18, x))), some (.inl (nI (k + 1)))]) (congrArg (fun zz9 : Int32 => ([some (.inr (some (20, t))), some (.inr (some (18, x))), some (.inl zz9)] : List (Option AV))) (by first | rfl | (simp only [il_0, il_1, il_2, il_3, il_4, il_5, il_6, il_7, il_16, il_20, il_40, il_160, pk_mul, nI_add]; done) | (simp only [il_0, il_1, il_2, il_3, il_4, il_5, il_6, il_7, il_16, il_20, il_40, il_160, pk_mul, nI_add]; exact congrArg nI (by omega)))) rfl rfl ?_
    refine ih h1 _ (fun e he => ?_)
    by_cases q : e = k
    · simp [upd, q]
    · simp only [upd, q, if_false]
      rw [hf e he]
      by_cases q2 : e < k
      · rw [if_pos q2, if_pos (by omega)]
      · rw [if_neg q2, if_neg (by omega)]
theorem c_Th_judge {t x : Nat} {win : Bool} {m o : Nat → Nat} (hx : DE σ F B E x) (h20 : E 20 t = true) (h21 : E 21 t = true) (h22 : E 22 t = true) (hm : ∀ e, e < 4 → B 22 t e = nI (m e) ∧ m e < 1000) (ho : ∀ e, e < 4 → B 21 t e = nI (o e) ∧ o e < 1000) (hq : ∀ b : Bool, (b = true ↔ ¬ x % 40 < m (x / 40) ∧ (win = true ∨ ∀ e, e < 4 → o e ≤ kw σ x e)) → Q none (cH (if b then u3 F 20 t 2 1 else F) B C Wr E r)) : X M_Th_judge (rmo M_Th_judge 0 0) (Zm Q 0 0) 0 (ini M_Th_judge [.inr (some (20, t)), .inr (some (18, x)), .inl (b2i win)]) [] (cH F B C Wr E r) 0 0 := by
  have hx' := hx
  obtain ⟨hx0, h18, h19, hd, hn, -⟩ := hx
  have hx4 : x / 40 < 4 := by omega
  have hm2 := hm _ hx4
  show X M_Th_judge _ _ 0 [some (.inr (some (20, t))), some (.inr (some (18, x))), some (.inl (b2i win)), none] [] (cH F B C Wr E r) 0 0
  refine X_run 1 (pc' := 1) (L' := [some (.inr (some (20, t))), some (.inr (some (18, x))), some (.inl (b2i win)), none]) (st' := [.inr (some (18, x))]) rfl ?_
  refine XC_get (a := 18) (i := x) (v := .inl (F 18 x 1)) rfl f_Th_62 ⟨rfl, rfl⟩ (by assumption) rfl rfl ?_
  refine X_eq (st' := [.inl (nI (x % 40))]) rfl (congrArg (fun zz9 => Sum.inl zz9 :: _) (hn)) rfl ?_
  refine X_run 1 (pc' := 5) (L' := [some (.inr (some (20, t))), some (.inr (some (18, x))), some (.inl (b2i win)), none]) (st' := [.inr (some (20, t)), .inl (nI (x % 40))]) rfl ?_
  refine XC_get (a := 20) (i := t) (v := .inr (some (22, t))) rfl f_Th_39 ⟨rfl, rfl⟩ (by assumption) rfl rfl ?_
  refine X_run 1 (pc' := 9) (L' := [some (.inr (some (20, t))), some (.inr (some (18, x))), some (.inl (b2i win)), none]) (st' := [.inr (some (18, x)), .inr (some (22, t)), .inl (nI (x % 40))]) rfl ?_
  refine XC_get (a := 18) (i := x) (v := .inl (F 18 x 0)) rfl f_Th_65 ⟨rfl, rfl⟩ (by assumption) rfl rfl ?_
  refine X_eq (st' := [.inl (nI (x / 40)), .inr (some (22, t)), .inl (nI (x % 40))]) rfl (congrArg (fun zz9 => Sum.inl zz9 :: _) (hd)) rfl ?_
  refine XC_ild (a := 22) (i := t) (j := (x / 40)) rfl ⟨rfl, rfl⟩ (by assumption) (by simp only [rLn]; omega) rfl ?_
  refine X_eq (st' := [.inl (nI (m (x / 40))), .inl (nI (x % 40))]) rfl (congrArg (fun zz9 => Sum.inl zz9 :: _) (hm2.1)) rfl ?_
  refine X_ic_ge (tgt := 20) (nx := 16) rfl rfl rfl (fun h1 => ?_) (fun h1 => ?_)
  · have h1 := li_le (by omega) (by omega) h1
    refine X_run 3 (pc' := 23) (L' := [some (.inr (some (20, t))), some (.inr (some (18, x))), some (.inl (b2i win)), some (.inl (0))]) (st' := [.inl (0)]) rfl ?_
    refine X_if_ne (tgt := 46) (nx := 26) rfl rfl rfl (fun h2 => ?_) (fun h2 => ?_)
    · exact absurd rfl h2
    · refine X_run 1 (pc' := 27) (L' := [some (.inr (some (20, t))), some (.inr (some (18, x))), some (.inl (b2i win)), some (.inl (0))]) (st' := [.inl (b2i win)]) rfl ?_
      refine X_if_ne (tgt := 41) (nx := 30) rfl rfl rfl (fun h3 => ?_) (fun h3 => ?_)
      · rw [b2i_n0] at h3
        refine X_run 2 (pc' := 43) (L' := [some (.inr (some (20, t))), some (.inr (some (18, x))), some (.inl (b2i win)), some (.inl (0))]) (st' := [.inl (1), .inr (some (20, t))]) rfl ?_
        refine XC_put (k := 2) (a := 20) (i := t) rfl f_Th_15 rfl rfl rfl ⟨rfl, rfl⟩ ⟨rfl, rfl⟩ (by assumption) (fun _ => ⟨rfl, rfl⟩) rfl ?_
        exact X_vret rfl rfl (Nat.le_refl _) (Nat.le_refl _) (hq true ⟨fun _ => ⟨by omega, Or.inl h3⟩, fun _ => rfl⟩)
      · refine X_run 2 (pc' := 32) (L' := [some (.inr (some (20, t))), some (.inr (some (18, x))), some (.inl (b2i win)), some (.inl (0))]) (st' := [.inr (some (20, t)), .inr (some (18, x))]) rfl ?_
        refine XC_get (a := 20) (i := t) (v := .inr (some (21, t))) rfl f_Th_35 ⟨rfl, rfl⟩ (by assumption) rfl rfl ?_
        refine X_callV (vs := [.inr (some (21, t))]) (st := []) (mc := 0) (ms := 0) rfl ok_De_knowsAll v_Th_68 (cH_obj rfl (by assumption)) rfl rfl (Nat.le_of_ble_eq_true rfl) (Nat.le_of_ble_eq_true rfl) (Nat.le_of_ble_eq_true rfl) (Nat.le_of_ble_eq_true rfl) (Nat.le_of_ble_eq_true rfl) (Nat.le_of_ble_eq_true rfl) rfl ?_
        refine c_De_knowsAll hx' ⟨rfl, rfl⟩ h21 rfl ho (fun b hb => ?_)
        show X M_Th_judge _ _ 38 [some (.inr (some (20, t))), some (.inr (some (18, x))), some (.inl (b2i win)), some (.inl (0))] [.inl (b2i b)] (cH F B C Wr E r) 0 0
        refine X_if_eq (tgt := 46) (nx := 41) rfl rfl rfl (fun h4 => ?_) (fun h4 => ?_)
        · rw [b2i_0] at h4
          refine X_vret rfl rfl (Nat.le_refl _) (Nat.le_refl _) (hq false ⟨fun z => (by cases z), fun z => ?_⟩)
          rcases z.2 with z2 | z2
          · exact absurd h3 (b2i_n0.mpr z2)
          · rw [hb.mpr z2] at h4
            cases h4
        · rw [b2i_n0] at h4
          refine X_run 2 (pc' := 43) (L' := [some (.inr (some (20, t))), some (.inr (some (18, x))), some (.inl (b2i win)), some (.inl (0))]) (st' := [.inl (1), .inr (some (20, t))]) rfl ?_
          refine XC_put (k := 2) (a := 20) (i := t) rfl f_Th_15 rfl rfl rfl ⟨rfl, rfl⟩ ⟨rfl, rfl⟩ (by assumption) (fun _ => ⟨rfl, rfl⟩) rfl ?_
          exact X_vret rfl rfl (Nat.le_refl _) (Nat.le_refl _) (hq true ⟨fun _ => ⟨by omega, Or.inr (hb.mp h4)⟩, fun _ => rfl⟩)
  · have h1 := li_nle (by omega) (by omega) h1
    refine X_run 4 (pc' := 23) (L' := [some (.inr (some (20, t))), some (.inr (some (18, x))), some (.inl (b2i win)), some (.inl (1))]) (st' := [.inl (1)]) rfl ?_
    refine X_if_ne (tgt := 46) (nx := 26) rfl rfl rfl (fun h2 => ?_) (fun h2 => ?_)
    · exact X_vret rfl rfl (Nat.le_refl _) (Nat.le_refl _) (hq false ⟨fun z => (by cases z), fun z => absurd h1 z.1⟩)
    · exact absurd h2 (show (1 : Int32) ≠ 0 by decide)
theorem c_Th_tell {t : Nat} {w : Int32} {s : Bool} (h20 : E 20 t = true) (hs : F 20 t 2 = b2i s) (hq : Q (some (.inl (if w = 0 then b2i s else if w = 1 then F 20 t 3 else if w = 2 then F 20 t 4 else if w = 3 then F 20 t 5 else if w = 4 then F 20 t 6 else -10000))) (cH F B C Wr E r)) : X M_Th_tell (rmo M_Th_tell 0 0) (Zm Q 0 0) 0 (ini M_Th_tell [.inr (some (20, t)), .inl w]) [] (cH F B C Wr E r) 0 0 := by
  show X M_Th_tell _ _ 0 [some (.inr (some (20, t))), some (.inl (w))] [] (cH F B C Wr E r) 0 0
  refine X_run 1 (pc' := 1) (L' := [some (.inr (some (20, t))), some (.inl (w))]) (st' := [.inl (w)]) rfl ?_
  refine X_sw_0_5 (t0 := 36) (t1 := 44) (t2 := 49) (t3 := 54) (t4 := 59) (tout := 64) rfl rfl rfl rfl rfl rfl rfl (fun hw => ?_) (fun hw => ?_) (fun hw => ?_) (fun hw => ?_) (fun hw => ?_) (fun hw0 hw1 hw2 hw3 hw4 => ?_)
  · refine X_run 1 (pc' := 37) (L' := [some (.inr (some (20, t))), some (.inl (w))]) (st' := [.inr (some (20, t))]) rfl ?_
    refine XC_get (a := 20) (i := t) (v := .inl (F 20 t 2)) rfl f_Th_15 ⟨rfl, rfl⟩ (by assumption) rfl rfl ?_
    refine X_eq (st' := [.inl (b2i s)]) rfl (congrArg (fun zz9 => Sum.inl zz9 :: _) (hs)) rfl ?_
    refine X_callS (vs := [.inl (b2i s)]) (st := []) (mc := 0) (ms := 0) rfl ok_Pl_asInt s_Th_72 rfl rfl (Nat.le_of_ble_eq_true rfl) (Nat.le_of_ble_eq_true rfl) (Nat.le_of_ble_eq_true rfl) (Nat.le_of_ble_eq_true rfl) (Nat.le_of_ble_eq_true rfl) (Nat.le_of_ble_eq_true rfl) rfl ?_
    refine c_Pl_asInt ?_
    show X M_Th_tell _ _ 43 [some (.inr (some (20, t))), some (.inl (w))] [.inl (b2i s)] (cH F B C Wr E r) 0 0
    exact X_iret rfl rfl rfl (Nat.le_refl _) (Nat.le_refl _) (qi (by rw [hw]; rfl) hq)
  · refine X_run 1 (pc' := 45) (L' := [some (.inr (some (20, t))), some (.inl (w))]) (st' := [.inr (some (20, t))]) rfl ?_
    refine XC_get (a := 20) (i := t) (v := .inl (F 20 t 3)) rfl f_Th_18 ⟨rfl, rfl⟩ (by assumption) rfl rfl ?_
    exact X_iret rfl rfl rfl (Nat.le_refl _) (Nat.le_refl _) (qi (by rw [hw]; rfl) hq)
  · refine X_run 1 (pc' := 50) (L' := [some (.inr (some (20, t))), some (.inl (w))]) (st' := [.inr (some (20, t))]) rfl ?_
    refine XC_get (a := 20) (i := t) (v := .inl (F 20 t 4)) rfl f_Th_22 ⟨rfl, rfl⟩ (by assumption) rfl rfl ?_
    exact X_iret rfl rfl rfl (Nat.le_refl _) (Nat.le_refl _) (qi (by rw [hw]; rfl) hq)
  · refine X_run 1 (pc' := 55) (L' := [some (.inr (some (20, t))), some (.inl (w))]) (st' := [.inr (some (20, t))]) rfl ?_
    refine XC_get (a := 20) (i := t) (v := .inl (F 20 t 5)) rfl f_Th_25 ⟨rfl, rfl⟩ (by assumption) rfl rfl ?_
    exact X_iret rfl rfl rfl (Nat.le_refl _) (Nat.le_refl _) (qi (by rw [hw]; rfl) hq)
  · refine X_run 1 (pc' := 60) (L' := [some (.inr (some (20, t))), some (.inl (w))]) (st' := [.inr (some (20, t))]) rfl ?_
    refine XC_get (a := 20) (i := t) (v := .inl (F 20 t 6)) rfl f_Th_28 ⟨rfl, rfl⟩ (by assumption) rfl rfl ?_
    exact X_iret rfl rfl rfl (Nat.le_refl _) (Nat.le_refl _) (qi (by rw [hw]; rfl) hq)
  · refine X_run 1 (pc' := 67) (L' := [some (.inr (some (20, t))), some (.inl (w))]) (st' := [.inl (-10000)]) rfl ?_
    refine X_iret rfl rfl rfl (Nat.le_refl _) (Nat.le_refl _) (qi ?_ hq)
    rw [if_neg (show ¬ w = 0 from hw0), if_neg (show ¬ w = 1 from hw1), if_neg (show ¬ w = 2 from hw2), if_neg (show ¬ w = 3 from hw3), if_neg (show ¬ w = 4 from hw4)]
theorem c_Rw_begin {i t : Nat} (h20 : E 20 t = true) (h23 : E 23 i = true) (h24 : E 24 i = true) (hq : ∀ (F' : CF) (f : Nat → Int32), (∀ a j k, ¬ (a = 23 ∧ j = i ∧ k ≤ 5) → F' a j k = F a j k) → (F' 23 i 0 = F 20 t 0 ∧ F' 23 i 1 = F 20 t 3 ∧ F' 23 i 2 = 0 ∧ F' 23 i 3 = 0 ∧ F' 23 i 4 = 0 ∧ F' 23 i 5 = 0) → (∀ e, e < 4 → f e = 0) → Q none (cH F' (uR B 24 i f) C Wr E r)) : X M_Rw_begin (rmo M_Rw_begin 0 0) (Zm Q 0 0) 0 (ini M_Rw_begin [.inr (some (23, i)), .inr (some (20, t))]) [] (cH F B C Wr E r) 0 0 := by
  show X M_Rw_begin _ _ 0 [some (.inr (some (23, i))), some (.inr (some (20, t)))] [] (cH F B C Wr E r) 0 0
  refine X_run 2 (pc' := 2) (L' := [some (.inr (some (23, i))), some (.inr (some (20, t)))]) (st' := [.inr (some (20, t)), .inr (some (23, i))]) rfl ?_
  refine XC_get (a := 20) (i := t) (v := .inl (F 20 t 0)) rfl f_Rw_35 ⟨rfl, rfl⟩ (by assumption) rfl rfl ?_
  refine XC_put (k := 0) (a := 23) (i := i) rfl f_Rw_9 rfl rfl rfl ⟨rfl, rfl⟩ ⟨rfl, rfl⟩ (by assumption) (fun _ => ⟨rfl, rfl⟩) rfl ?_
  refine X_run 2 (pc' := 10) (L' := [some (.inr (some (23, i))), some (.inr (some (20, t)))]) (st' := [.inr (some (20, t)), .inr (some (23, i))]) rfl ?_
  refine XC_get (a := 20) (i := t) (v := .inl ((u3 F 23 i 0 (F 20 t 0)) 20 t 3)) rfl f_Rw_40 ⟨rfl, rfl⟩ (by assumption) rfl rfl ?_
  refine X_eq (st' := [.inl (F 20 t 3), .inr (some (23, i))]) rfl (congrArg (fun zz9 => Sum.inl zz9 :: _) ((by rw [u3_ne (by omega)]))) rfl ?_
  refine XC_put (k := 1) (a := 23) (i := i) rfl f_Rw_15 rfl rfl rfl ⟨rfl, rfl⟩ ⟨rfl, rfl⟩ (by assumption) (fun _ => ⟨rfl, rfl⟩) rfl ?_
  refine X_run 2 (pc' := 18) (L' := [some (.inr (some (23, i))), some (.inr (some (20, t)))]) (st' := [.inl (0), .inr (some (23, i))]) rfl ?_
  refine XC_put (k := 2) (a := 23) (i := i) rfl f_Rw_18 rfl rfl rfl ⟨rfl, rfl⟩ ⟨rfl, rfl⟩ (by assumption) (fun _ => ⟨rfl, rfl⟩) rfl ?_
  refine X_run 2 (pc' := 23) (L' := [some (.inr (some (23, i))), some (.inr (some (20, t)))]) (st' := [.inl (0), .inr (some (23, i))]) rfl ?_
  refine XC_put (k := 3) (a := 23) (i := i) rfl f_Rw_21 rfl rfl rfl ⟨rfl, rfl⟩ ⟨rfl, rfl⟩ (by assumption) (fun _ => ⟨rfl, rfl⟩) rfl ?_
  refine X_run 2 (pc' := 28) (L' := [some (.inr (some (23, i))), some (.inr (some (20, t)))]) (st' := [.inl (0), .inr (some (23, i))]) rfl ?_
  refine XC_put (k := 4) (a := 23) (i := i) rfl f_Rw_24 rfl rfl rfl ⟨rfl, rfl⟩ ⟨rfl, rfl⟩ (by assumption) (fun _ => ⟨rfl, rfl⟩) rfl ?_
  refine X_run 2 (pc' := 33) (L' := [some (.inr (some (23, i))), some (.inr (some (20, t)))]) (st' := [.inl (0), .inr (some (23, i))]) rfl ?_
  refine XC_put (k := 5) (a := 23) (i := i) rfl f_Rw_27 rfl rfl rfl ⟨rfl, rfl⟩ ⟨rfl, rfl⟩ (by assumption) (fun _ => ⟨rfl, rfl⟩) rfl ?_
  refine X_run 1 (pc' := 37) (L' := [some (.inr (some (23, i))), some (.inr (some (20, t)))]) (st' := [.inr (some (23, i))]) rfl ?_
  refine XC_get (a := 23) (i := i) (v := .inr (some (24, i))) rfl f_Rw_31 ⟨rfl, rfl⟩ (by assumption) rfl rfl ?_
  refine X_run 1 (pc' := 41) (L' := [some (.inr (some (23, i))), some (.inr (some (20, t)))]) (st' := [.inl (0), .inr (some (24, i))]) rfl ?_
  refine X_callS (vs := [.inr (some (24, i)), .inl (0)]) (st := []) (mc := 0) (ms := 0) rfl ok_Ar_fill s_Rw_41 rfl rfl (Nat.le_of_ble_eq_true rfl) (Nat.le_of_ble_eq_true rfl) (Nat.le_of_ble_eq_true rfl) (Nat.le_of_ble_eq_true rfl) (Nat.le_of_ble_eq_true rfl) (Nat.le_of_ble_eq_true rfl) rfl ?_
  refine c_Ar_fill ⟨rfl, rfl⟩ h24 rfl (fun f hf => ?_)
  show X M_Rw_begin _ _ 44 [some (.inr (some (23, i))), some (.inr (some (20, t)))] [] (cH (u3 (u3 (u3 (u3 (u3 (u3 F 23 i 0 (F 20 t 0)) 23 i 1 (F 20 t 3)) 23 i 2 (0)) 23 i 3 (0)) 23 i 4 (0)) 23 i 5 (0)) (uR B 24 i f) C Wr E r) 0 0
  refine X_vret rfl rfl (Nat.le_refl _) (Nat.le_refl _) (hq _ f (fun a j k hh => ?_) ⟨by simp [u3], by simp [u3], by simp [u3], by simp [u3], by simp [u3], by simp [u3]⟩ hf)
  rw [u3_ne (by rintro ⟨z1, z2, z3⟩; exact hh (by omega)), u3_ne (by rintro ⟨z1, z2, z3⟩; exact hh (by omega)), u3_ne (by rintro ⟨z1, z2, z3⟩; exact hh (by omega)), u3_ne (by rintro ⟨z1, z2, z3⟩; exact hh (by omega)), u3_ne (by rintro ⟨z1, z2, z3⟩; exact hh (by omega)), u3_ne (by rintro ⟨z1, z2, z3⟩; exact hh (by omega))]
theorem c_Rw_include {i t : Nat} (h20 : E 20 t = true) (h23 : E 23 i = true) (hq : ∀ (F' : CF), (∀ a j k, ¬ (a = 23 ∧ j = i ∧ 2 ≤ k ∧ k ≤ 4) → F' a j k = F a j k) → (F' 23 i 2 = F 23 i 2 + F 20 t 4 ∧ F' 23 i 3 = F 23 i 3 + F 20 t 5 ∧ F' 23 i 4 = F 23 i 4 + 1) → Q none (cH F' B C (up1 Wr t (some (23, i))) E r)) : X M_Rw_include (rmo M_Rw_include 0 0) (Zm Q 0 0) 0 (ini M_Rw_include [.inr (some (23, i)), .inr (some (20, t))]) [] (cH F B C Wr E r) 0 0 := by
  show X M_Rw_include _ _ 0 [some (.inr (some (23, i))), some (.inr (some (20, t)))] [] (cH F B C Wr E r) 0 0
  refine X_run 2 (pc' := 2) (L' := [some (.inr (some (23, i))), some (.inr (some (20, t)))]) (st' := [.inr (some (23, i)), .inr (some (20, t))]) rfl ?_
  refine XC_putW (i := t) rfl f_Rw_47 (by assumption) rfl ?_
  refine X_run 2 (pc' := 7) (L' := [some (.inr (some (23, i))), some (.inr (some (20, t)))]) (st' := [.inr (some (23, i)), .inr (some (23, i))]) rfl ?_
  refine XC_get (a := 23) (i := i) (v := .inl (F 23 i 2)) rfl f_Rw_18 ⟨rfl, rfl⟩ (by assumption) rfl rfl ?_
  refine X_run 1 (pc' := 11) (L' := [some (.inr (some (23, i))), some (.inr (some (20, t)))]) (st' := [.inr (some (20, t)), .inl (F 23 i 2), .inr (some (23, i))]) rfl ?_
  refine XC_get (a := 20) (i := t) (v := .inl (F 20 t 4)) rfl f_Rw_51 ⟨rfl, rfl⟩ (by assumption) rfl rfl ?_
  refine X_run 1 (pc' := 15) (L' := [some (.inr (some (23, i))), some (.inr (some (20, t)))]) (st' := [.inl ((F 23 i 2) + (F 20 t 4)), .inr (some (23, i))]) rfl ?_
  refine XC_put (k := 2) (a := 23) (i := i) rfl f_Rw_18 rfl rfl rfl ⟨rfl, rfl⟩ ⟨rfl, rfl⟩ (by assumption) (fun _ => ⟨rfl, rfl⟩) rfl ?_
  refine X_run 2 (pc' := 20) (L' := [some (.inr (some (23, i))), some (.inr (some (20, t)))]) (st' := [.inr (some (23, i)), .inr (some (23, i))]) rfl ?_
  refine XC_get (a := 23) (i := i) (v := .inl ((u3 F 23 i 2 ((F 23 i 2) + (F 20 t 4))) 23 i 3)) rfl f_Rw_21 ⟨rfl, rfl⟩ (by assumption) rfl rfl ?_
  refine X_run 1 (pc' := 24) (L' := [some (.inr (some (23, i))), some (.inr (some (20, t)))]) (st' := [.inr (some (20, t)), .inl ((u3 F 23 i 2 ((F 23 i 2) + (F 20 t 4))) 23 i 3), .inr (some (23, i))]) rfl ?_
  refine XC_get (a := 20) (i := t) (v := .inl ((u3 F 23 i 2 ((F 23 i 2) + (F 20 t 4))) 20 t 5)) rfl f_Rw_52 ⟨rfl, rfl⟩ (by assumption) rfl rfl ?_
  refine X_run 1 (pc' := 28) (L' := [some (.inr (some (23, i))), some (.inr (some (20, t)))]) (st' := [.inl (((u3 F 23 i 2 ((F 23 i 2) + (F 20 t 4))) 23 i 3) + ((u3 F 23 i 2 ((F 23 i 2) + (F 20 t 4))) 20 t 5)), .inr (some (23, i))]) rfl ?_
  refine XC_put (k := 3) (a := 23) (i := i) rfl f_Rw_21 rfl rfl rfl ⟨rfl, rfl⟩ ⟨rfl, rfl⟩ (by assumption) (fun _ => ⟨rfl, rfl⟩) rfl ?_
  refine X_run 2 (pc' := 33) (L' := [some (.inr (some (23, i))), some (.inr (some (20, t)))]) (st' := [.inr (some (23, i)), .inr (some (23, i))]) rfl ?_
  refine XC_get (a := 23) (i := i) (v := .inl ((u3 (u3 F 23 i 2 ((F 23 i 2) + (F 20 t 4))) 23 i 3 (((u3 F 23 i 2 ((F 23 i 2) + (F 20 t 4))) 23 i 3) + ((u3 F 23 i 2 ((F 23 i 2) + (F 20 t 4))) 20 t 5))) 23 i 4)) rfl f_Rw_24 ⟨rfl, rfl⟩ (by assumption) rfl rfl ?_
  refine X_run 2 (pc' := 38) (L' := [some (.inr (some (23, i))), some (.inr (some (20, t)))]) (st' := [.inl (((u3 (u3 F 23 i 2 ((F 23 i 2) + (F 20 t 4))) 23 i 3 (((u3 F 23 i 2 ((F 23 i 2) + (F 20 t 4))) 23 i 3) + ((u3 F 23 i 2 ((F 23 i 2) + (F 20 t 4))) 20 t 5))) 23 i 4) + 1), .inr (some (23, i))]) rfl ?_
  refine XC_put (k := 4) (a := 23) (i := i) rfl f_Rw_24 rfl rfl rfl ⟨rfl, rfl⟩ ⟨rfl, rfl⟩ (by assumption) (fun _ => ⟨rfl, rfl⟩) rfl ?_
  refine X_vret rfl rfl (Nat.le_refl _) (Nat.le_refl _) (hq _ (fun a j k hh => ?_) ⟨by simp [u3], by simp [u3], by simp [u3]⟩)
  rw [u3_ne (by rintro ⟨z1, z2, z3⟩; exact hh (by omega)), u3_ne (by rintro ⟨z1, z2, z3⟩; exact hh (by omega)), u3_ne (by rintro ⟨z1, z2, z3⟩; exact hh (by omega))]
theorem c_Rw_checkBuy {i x : Nat} {m : Nat → Nat} (hx : DE σ F B E x) (h23 : E 23 i = true) (h24 : E 24 i = true) (hm : ∀ e, e < 4 → B 24 i e = nI (m e) ∧ m e < 1000) (hq : ∀ (b : Bool) (f : Nat → Int32), (b = true ↔ ∀ e, e < 4 → m e ≤ kw σ x e) → (∀ e, e < 4 → f e = nI (if e = x / 40 then max (m e) (x % 40 + 1) else m e)) → Q none (cH (if b then F else u3 F 23 i 5 1) (uR B 24 i f) C Wr E r)) : X M_Rw_checkBuy (rmo M_Rw_checkBuy 0 0) (Zm Q 0 0) 0 (ini M_Rw_checkBuy [.inr (some (23, i)), .inr (some (18, x))]) [] (cH F B C Wr E r) 0 0 := by
  have h18 := hx.2.1
  show X M_Rw_checkBuy _ _ 0 [some (.inr (some (23, i))), some (.inr (some (18, x)))] [] (cH F B C Wr E r) 0 0
  refine X_run 2 (pc' := 2) (L' := [some (.inr (some (23, i))), some (.inr (some (18, x)))]) (st' := [.inr (some (23, i)), .inr (some (18, x))]) rfl ?_
  refine XC_get (a := 23) (i := i) (v := .inr (some (24, i))) rfl f_Rw_31 ⟨rfl, rfl⟩ (by assumption) rfl rfl ?_
  refine X_callV (vs := [.inr (some (24, i))]) (st := []) (mc := 0) (ms := 0) rfl ok_De_knowsAll v_Rw_53 (cH_obj rfl (by assumption)) rfl rfl (Nat.le_of_ble_eq_true rfl) (Nat.le_of_ble_eq_true rfl) (Nat.le_of_ble_eq_true rfl) (Nat.le_of_ble_eq_true rfl) (Nat.le_of_ble_eq_true rfl) (Nat.le_of_ble_eq_true rfl) rfl ?_
  refine c_De_knowsAll hx ⟨rfl, rfl⟩ h24 rfl hm (fun b hb => ?_)
  show X M_Rw_checkBuy _ _ 8 [some (.inr (some (23, i))), some (.inr (some (18, x)))] [.inl (b2i b)] (cH F B C Wr E r) 0 0
  refine X_if_ne (tgt := 16) (nx := 11) rfl rfl rfl (fun h1 => ?_) (fun h1 => ?_)
  · rw [b2i_n0] at h1
    refine X_run 2 (pc' := 18) (L' := [some (.inr (some (23, i))), some (.inr (some (18, x)))]) (st' := [.inr (some (23, i)), .inr (some (18, x))]) rfl ?_
    refine XC_get (a := 23) (i := i) (v := .inr (some (24, i))) rfl f_Rw_31 ⟨rfl, rfl⟩ (by assumption) rfl rfl ?_
    refine X_callV (vs := [.inr (some (24, i))]) (st := []) (mc := 0) (ms := 0) rfl ok_De_includeIn v_Rw_59 (cH_obj rfl (by assumption)) rfl rfl (Nat.le_of_ble_eq_true rfl) (Nat.le_of_ble_eq_true rfl) (Nat.le_of_ble_eq_true rfl) (Nat.le_of_ble_eq_true rfl) (Nat.le_of_ble_eq_true rfl) (Nat.le_of_ble_eq_true rfl) rfl ?_
    refine c_De_includeIn hx ⟨rfl, rfl⟩ h24 rfl hm (fun f hf => ?_)
    show X M_Rw_checkBuy _ _ 24 [some (.inr (some (23, i))), some (.inr (some (18, x)))] [] (cH F (uR B 24 i f) C Wr E r) 0 0
    refine X_vret rfl rfl (Nat.le_refl _) (Nat.le_refl _) ?_
    have := hq b f hb hf
    rw [if_pos h1] at this
    exact this
  · have h1 : b = false := by
      cases b
      · rfl
      · exact absurd h1 (show b2i true ≠ 0 by decide)
    refine X_run 2 (pc' := 13) (L' := [some (.inr (some (23, i))), some (.inr (some (18, x)))]) (st' := [.inl (1), .inr (some (23, i))]) rfl ?_
    refine XC_put (k := 5) (a := 23) (i := i) rfl f_Rw_27 rfl rfl rfl ⟨rfl, rfl⟩ ⟨rfl, rfl⟩ (by assumption) (fun _ => ⟨rfl, rfl⟩) rfl ?_
    refine X_run 2 (pc' := 18) (L' := [some (.inr (some (23, i))), some (.inr (some (18, x)))]) (st' := [.inr (some (23, i)), .inr (some (18, x))]) rfl ?_
    refine XC_get (a := 23) (i := i) (v := .inr (some (24, i))) rfl f_Rw_31 ⟨rfl, rfl⟩ (by assumption) rfl rfl ?_
    have hx' : DE σ (u3 F 23 i 5 1) B E x := hx
    refine X_callV (vs := [.inr (some (24, i))]) (st := []) (mc := 0) (ms := 0) rfl ok_De_includeIn v_Rw_59 (cH_obj rfl (by assumption)) rfl rfl (Nat.le_of_ble_eq_true rfl) (Nat.le_of_ble_eq_true rfl) (Nat.le_of_ble_eq_true rfl) (Nat.le_of_ble_eq_true rfl) (Nat.le_of_ble_eq_true rfl) (Nat.le_of_ble_eq_true rfl) rfl ?_
    refine c_De_includeIn hx' ⟨rfl, rfl⟩ h24 rfl hm (fun f hf => ?_)
    show X M_Rw_checkBuy _ _ 24 [some (.inr (some (23, i))), some (.inr (some (18, x)))] [] (cH (u3 F 23 i 5 (1)) (uR B 24 i f) C Wr E r) 0 0
    refine X_vret rfl rfl (Nat.le_refl _) (Nat.le_refl _) ?_
    have := hq b f hb hf
    rw [h1] at this
    exact this
theorem c_Rw_tell {i : Nat} {w : Int32} {s : Bool} (h23 : E 23 i = true) (hs : F 23 i 5 = b2i s) (hq : Q (some (.inl (if w = 0 then F 23 i 0 else if w = 1 then F 23 i 1 else if w = 2 then (if F 23 i 2 < 0 then 0 else F 23 i 2) else if w = 3 then F 23 i 3 else if w = 4 then (if (if F 23 i 2 < 0 then 0 else F 23 i 2) - F 23 i 3 < 0 then 0 else (if F 23 i 2 < 0 then 0 else F 23 i 2) - F 23 i 3) else if w = 5 then F 23 i 4 else if w = 6 then b2i s else -1))) (cH F B C Wr E r)) : X M_Rw_tell (rmo M_Rw_tell 0 0) (Zm Q 0 0) 0 (ini M_Rw_tell [.inr (some (23, i)), .inl w]) [] (cH F B C Wr E r) 0 0 := by
  show X M_Rw_tell _ _ 0 [some (.inr (some (23, i))), some (.inl (w)), none] [] (cH F B C Wr E r) 0 0
  refine X_run 1 (pc' := 1) (L' := [some (.inr (some (23, i))), some (.inl (w)), none]) (st' := [.inr (some (23, i))]) rfl ?_
  refine XC_get (a := 23) (i := i) (v := .inl (F 23 i 2)) rfl f_Rw_18 ⟨rfl, rfl⟩ (by assumption) rfl rfl ?_
  refine X_run 1 (pc' := 5) (L' := [some (.inr (some (23, i))), some (.inl (w)), none]) (st' := [.inl (0), .inl (F 23 i 2)]) rfl ?_
  refine X_max rfl x_Rw_63 (Nat.le_of_ble_eq_true rfl) (Nat.le_of_ble_eq_true rfl) (Nat.le_of_ble_eq_true rfl) (Nat.le_of_ble_eq_true rfl) (Nat.le_of_ble_eq_true rfl) rfl ?_
  refine X_run 2 (pc' := 10) (L' := [some (.inr (some (23, i))), some (.inl (w)), some (.inl (if F 23 i 2 < 0 then 0 else F 23 i 2))]) (st' := [.inl (w)]) rfl ?_
  refine X_sw_0_7 (t0 := 52) (t1 := 57) (t2 := 62) (t3 := 64) (t4 := 69) (t5 := 80) (t6 := 85) (tout := 93) rfl rfl rfl rfl rfl rfl rfl rfl rfl (fun hw => ?_) (fun hw => ?_) (fun hw => ?_) (fun hw => ?_) (fun hw => ?_) (fun hw => ?_) (fun hw => ?_) (fun hw0 hw1 hw2 hw3 hw4 hw5 hw6 => ?_)
  · refine X_run 1 (pc' := 53) (L' := [some (.inr (some (23, i))), some (.inl (w)), some (.inl (if F 23 i 2 < 0 then 0 else F 23 i 2))]) (st' := [.inr (some (23, i))]) rfl ?_
    refine XC_get (a := 23) (i := i) (v := .inl (F 23 i 0)) rfl f_Rw_9 ⟨rfl, rfl⟩ (by assumption) rfl rfl ?_
    exact X_iret rfl rfl rfl (Nat.le_refl _) (Nat.le_refl _) (qi (by rw [hw]; rfl) hq)
  · refine X_run 1 (pc' := 58) (L' := [some (.inr (some (23, i))), some (.inl (w)), some (.inl (if F 23 i 2 < 0 then 0 else F 23 i 2))]) (st' := [.inr (some (23, i))]) rfl ?_
    refine XC_get (a := 23) (i := i) (v := .inl (F 23 i 1)) rfl f_Rw_15 ⟨rfl, rfl⟩ (by assumption) rfl rfl ?_
    exact X_iret rfl rfl rfl (Nat.le_refl _) (Nat.le_refl _) (qi (by rw [hw]; rfl) hq)
  · refine X_run 1 (pc' := 63) (L' := [some (.inr (some (23, i))), some (.inl (w)), some (.inl (if F 23 i 2 < 0 then 0 else F 23 i 2))]) (st' := [.inl (if F 23 i 2 < 0 then 0 else F 23 i 2)]) rfl ?_
    exact X_iret rfl rfl rfl (Nat.le_refl _) (Nat.le_refl _) (qi (by rw [hw]; rfl) hq)
  · refine X_run 1 (pc' := 65) (L' := [some (.inr (some (23, i))), some (.inl (w)), some (.inl (if F 23 i 2 < 0 then 0 else F 23 i 2))]) (st' := [.inr (some (23, i))]) rfl ?_
    refine XC_get (a := 23) (i := i) (v := .inl (F 23 i 3)) rfl f_Rw_21 ⟨rfl, rfl⟩ (by assumption) rfl rfl ?_
    exact X_iret rfl rfl rfl (Nat.le_refl _) (Nat.le_refl _) (qi (by rw [hw]; rfl) hq)
  · refine X_run 2 (pc' := 71) (L' := [some (.inr (some (23, i))), some (.inl (w)), some (.inl (if F 23 i 2 < 0 then 0 else F 23 i 2))]) (st' := [.inr (some (23, i)), .inl (if F 23 i 2 < 0 then 0 else F 23 i 2)]) rfl ?_
    refine XC_get (a := 23) (i := i) (v := .inl (F 23 i 3)) rfl f_Rw_21 ⟨rfl, rfl⟩ (by assumption) rfl rfl ?_
    refine X_run 2 (pc' := 76) (L' := [some (.inr (some (23, i))), some (.inl (w)), some (.inl (if F 23 i 2 < 0 then 0 else F 23 i 2))]) (st' := [.inl (0), .inl ((if F 23 i 2 < 0 then 0 else F 23 i 2) - (F 23 i 3))]) rfl ?_
    refine X_max rfl x_Rw_63 (Nat.le_of_ble_eq_true rfl) (Nat.le_of_ble_eq_true rfl) (Nat.le_of_ble_eq_true rfl) (Nat.le_of_ble_eq_true rfl) (Nat.le_of_ble_eq_true rfl) rfl ?_
    exact X_iret rfl rfl rfl (Nat.le_refl _) (Nat.le_refl _) (qi (by rw [hw]; rfl) hq)
  · refine X_run 1 (pc' := 81) (L' := [some (.inr (some (23, i))), some (.inl (w)), some (.inl (if F 23 i 2 < 0 then 0 else F 23 i 2))]) (st' := [.inr (some (23, i))]) rfl ?_
    refine XC_get (a := 23) (i := i) (v := .inl (F 23 i 4)) rfl f_Rw_24 ⟨rfl, rfl⟩ (by assumption) rfl rfl ?_
    exact X_iret rfl rfl rfl (Nat.le_refl _) (Nat.le_refl _) (qi (by rw [hw]; rfl) hq)
  · refine X_run 1 (pc' := 86) (L' := [some (.inr (some (23, i))), some (.inl (w)), some (.inl (if F 23 i 2 < 0 then 0 else F 23 i 2))]) (st' := [.inr (some (23, i))]) rfl ?_
    refine XC_get (a := 23) (i := i) (v := .inl (F 23 i 5)) rfl f_Rw_27 ⟨rfl, rfl⟩ (by assumption) rfl rfl ?_
    refine X_eq (st' := [.inl (b2i s)]) rfl (congrArg (fun zz9 => Sum.inl zz9 :: _) (hs)) rfl ?_
    refine X_callS (vs := [.inl (b2i s)]) (st := []) (mc := 0) (ms := 0) rfl ok_Pl_asInt s_Rw_69 rfl rfl (Nat.le_of_ble_eq_true rfl) (Nat.le_of_ble_eq_true rfl) (Nat.le_of_ble_eq_true rfl) (Nat.le_of_ble_eq_true rfl) (Nat.le_of_ble_eq_true rfl) (Nat.le_of_ble_eq_true rfl) rfl ?_
    refine c_Pl_asInt ?_
    show X M_Rw_tell _ _ 92 [some (.inr (some (23, i))), some (.inl (w)), some (.inl (if F 23 i 2 < 0 then 0 else F 23 i 2))] [.inl (b2i s)] (cH F B C Wr E r) 0 0
    exact X_iret rfl rfl rfl (Nat.le_refl _) (Nat.le_refl _) (qi (by rw [hw]; rfl) hq)
  · refine X_run 1 (pc' := 94) (L' := [some (.inr (some (23, i))), some (.inl (w)), some (.inl (if F 23 i 2 < 0 then 0 else F 23 i 2))]) (st' := [.inl (-1)]) rfl ?_
    refine X_iret rfl rfl rfl (Nat.le_refl _) (Nat.le_refl _) (qi ?_ hq)
    rw [if_neg (show ¬ w = 0 from hw0), if_neg (show ¬ w = 1 from hw1), if_neg (show ¬ w = 2 from hw2), if_neg (show ¬ w = 3 from hw3), if_neg (show ¬ w = 4 from hw4), if_neg (show ¬ w = 5 from hw5), if_neg (show ¬ w = 6 from hw6)]
end

