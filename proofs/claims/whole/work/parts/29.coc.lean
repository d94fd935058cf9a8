/-! the component: rows copied; devices, things, rows -/
section
variable {F : CF} {B : CB} {C : CC} {Wr : Nat → Option Nd} {E : Nat → Nat → Bool} {r : AH} {Q : Option AV → AH → Prop} {h : AH}
theorem cH_row {a i : Nat} (hk : rKd a = 1) (hE : E a i = true) (f : Nat → Int32) : hset (cH F B C Wr E r) (a, i) (.inl (rTg a, rLn a, f)) = cH F (uR B a i f) C Wr E r := by
  funext n
  obtain ⟨a', i'⟩ := n
  by_cases q : (a', i') = (a, i)
  · cases q
    rw [hset_eq, cH_int hk hE, uR_eq]
  · rw [hset_ne _ _ q]
    unfold cH
    by_cases k3 : rKd a' = 3
    · simp [k3]
    · have e : cE F (uR B a i f) C Wr a' i' = cE F B C Wr a' i' := by
        unfold cE
        rw [uR_ne (by rintro ⟨z1, z2⟩; exact q (by rw [z1, z2]))]
      simp only [k3, if_false, e]
theorem XC_cpy {M : MI} {R : Room} {Z : ZT} {pc : Nat} {L : List (Option AV)} {st : List AV} {c sl : Nat} {idx nx a i a2 j : Nat} (hd : mi M pc = some (.invokestatic idx, 3)) (hlk : Cond.methodLink M.1.cls idx arraycopyName ∈ lw_tbl) (hk : rKd a = 1 ∧ rTg a = 0 ∧ rLn a = 4) (hE : E a i = true) (hk2 : rKd a2 = 1 ∧ rTg a2 = 0 ∧ rLn a2 = 4) (hE2 : E a2 j = true) (hf : 1 ≤ R.frames) (hlo : 26 ≤ R.locals) (hs : st.length ≤ 8) (hx : pc + 3 = nx)
    (kk : ∀ f : Nat → Int32, (∀ e, e < 4 → f e = B a i e) → X M R Z nx L st (cH F (uR B a2 j f) C Wr E r) c sl) : X M R Z pc L (.inl 4 :: .inl 0 :: .inr (some (a2, j)) :: .inl 0 :: .inr (some (a, i)) :: st) (cH F B C Wr E r) c sl := by
  refine X_cpy (f := B a i) (g := B a2 j) hd hlk (by rw [cH_int hk.1 hE, hk.2.1, hk.2.2]) (by rw [cH_int hk2.1 hE2, hk2.2.1, hk2.2.2]) hf hlo hs hx ?_
  have := cH_row (F := F) (B := B) (C := C) (Wr := Wr) (r := r) hk2.1 hE2 (va_cpy (B a i) (B a2 j) 0 0 4)
  rw [hk2.2.1, hk2.2.2] at this
  rw [this]
  refine kk _ (fun e he => ?_)
  simp [va_cpy, he]
/-- a device's cells -/
def DR (T : Nat → Nat → Nat → Nat) (F : CF) (B : CB) (E : Nat → Nat → Bool) (d : Nat) : Prop := d < 4 ∧ E 15 d = true ∧ E 16 d = true ∧ F 15 d 0 = nI d ∧ ∀ f, f < 4 → E 17 (4 * d + f) = true ∧ ∀ e, e < 4 → B 17 (4 * d + f) e = nI (T d f e) ∧ T d f e ≤ 40
theorem c_Dv_unseenAmong {σ : Sg} {d : Nat} (hd : DR (rk σ) F B E d) (h4 : nd σ ≤ 4) (hq : Q (some (.inl (nI (kpN σ d 4)))) (cH F B C Wr E r)) : X M_Dv_unseenAmong (rmo M_Dv_unseenAmong 0 0) (Zm Q 0 0) 0 (ini M_Dv_unseenAmong [.inr (some (15, d)), .inl (nI (nd σ))]) [] (cH F B C Wr E r) 0 0 := by
  obtain ⟨d4, h15, h16, hn, hr⟩ := hd
  show X M_Dv_unseenAmong _ _ 0 [some (.inr (some (15, d))), some (.inl (nI (nd σ))), none, none, none, none] [] (cH F B C Wr E r) 0 0
  refine X_run 4 (pc' := 4) (L' := [some (.inr (some (15, d))), some (.inl (nI (nd σ))), some (.inl (0)), some (.inl (0)), none, none]) (st' := []) rfl ?_
  refine X_eq (L' := [some (.inr (some (15, d))), some (.inl (nI (nd σ))), some (.inl (0)), some (.inl (nI (0))), none, none]) (congrArg (fun zz9 : Int32 => ([some (.inr (some (15, d))), some (.inl (nI (nd σ))), some (.inl (0)), some (.inl zz9), none, none] : List (Option AV))) (by first | rfl | (simp only [il_0, il_1, il_2, il_3, il_4, il_5, il_6, il_7, il_16, il_20, il_40, il_160, pk_mul, nI_add]; done) | (simp only [il_0, il_1, il_2, il_3, il_4, il_5, il_6, il_7, il_16, il_20, il_40, il_160, pk_mul, nI_add]; exact congrArg nI (by omega)))) rfl rfl ?_
  refine X_eq (L' := [some (.inr (some (15, d))), some (.inl (nI (nd σ))), some (.inl (nI (kpN σ d 0))), some (.inl (nI (0))), none, none]) (congrArg (fun zz9 : Int32 => ([some (.inr (some (15, d))), some (.inl (nI (nd σ))), some (.inl zz9), some (.inl (nI (0))), none, none] : List (Option AV))) (by first | rfl | (simp only [il_0, il_1, il_2, il_3, il_4, il_5, il_6, il_7, il_16, il_20, il_40, il_160, pk_mul, nI_add]; done) | (simp only [il_0, il_1, il_2, il_3, il_4, il_5, il_6, il_7, il_16, il_20, il_40, il_160, pk_mul, nI_add]; exact congrArg nI (by omega)))) rfl rfl ?_
  refine up_ind 4 (fun k => ∀ o1 o2 : Option AV, X M_Dv_unseenAmong (rmo M_Dv_unseenAmong 0 0) (Zm Q 0 0) 4 [some (.inr (some (15, d))), some (.inl (nI (nd σ))), some (.inl (nI (kpN σ d k))), some (.inl (nI k)), o1, o2] [] (cH F B C Wr E r) 0 0) ?_ 0 (by omega) none none
  intro k hk4 ih o1 o2
  refine X_run 2 (pc' := 6) (L' := [some (.inr (some (15, d))), some (.inl (nI (nd σ))), some (.inl (nI (kpN σ d k))), some (.inl (nI k)), o1, o2]) (st' := [.inl (4), .inl (nI k)]) rfl ?_
  refine X_ic_ge (tgt := 72) (nx := 9) rfl rfl rfl (fun h1 => ?_) (fun h1 => ?_)
  · have h1 := li_le (a := 4) (by omega) (by omega) h1
    have e4 : k = 4 := by omega
    refine X_run 1 (pc' := 73) (L' := [some (.inr (some (15, d))), some (.inl (nI (nd σ))), some (.inl (nI (kpN σ d k))), some (.inl (nI k)), o1, o2]) (st' := [.inl (nI (kpN σ d k))]) rfl ?_
    exact X_iret rfl rfl rfl (Nat.le_refl _) (Nat.le_refl _) (by rw [e4]; exact hq)
  · have h1 := li_nle (a := 4) (by omega) (by omega) h1
    refine X_run 1 (pc' := 10) (L' := [some (.inr (some (15, d))), some (.inl (nI (nd σ))), some (.inl (nI (kpN σ d k))), some (.inl (nI k)), o1, o2]) (st' := [.inr (some (15, d))]) rfl ?_
    refine X_callV (vs := []) (st := []) (mc := 0) (ms := 0) rfl ok_Dv_known v_Dv_24 (cH_obj rfl (by assumption)) rfl rfl (Nat.le_of_ble_eq_true rfl) (Nat.le_of_ble_eq_true rfl) (Nat.le_of_ble_eq_true rfl) (Nat.le_of_ble_eq_true rfl) (Nat.le_of_ble_eq_true rfl) (Nat.le_of_ble_eq_true rfl) rfl ?_
    refine c_Dv_known d4 h15 h16 hn ?_
    show X M_Dv_unseenAmong _ _ 13 [some (.inr (some (15, d))), some (.inl (nI (nd σ))), some (.inl (nI (kpN σ d k))), some (.inl (nI k)), o1, o2] [.inr (some (17, 4 * d + d))] (cH F B C Wr E r) 0 0
    refine X_run 1 (pc' := 14) (L' := [some (.inr (some (15, d))), some (.inl (nI (nd σ))), some (.inl (nI (kpN σ d k))), some (.inl (nI k)), o1, o2]) (st' := [.inl (nI k), .inr (some (17, 4 * d + d))]) rfl ?_
    refine XC_ild (a := 17) (i := 4 * d + d) (j := k) rfl ⟨rfl, rfl⟩ (hr _ (by omega)).1 (by simp only [rLn]; omega) rfl ?_
    refine X_eq (st' := [.inl (nI (kpA σ d k 0))]) rfl (congrArg (fun zz9 => Sum.inl zz9 :: _) (((hr d d4).2 k h1).1)) rfl ?_
    refine X_run 3 (pc' := 20) (L' := [some (.inr (some (15, d))), some (.inl (nI (nd σ))), some (.inl (nI (kpN σ d k))), some (.inl (nI k)), some (.inl (nI (kpA σ d k 0))), some (.inl (0))]) (st' := []) rfl ?_
    refine X_eq (L' := [some (.inr (some (15, d))), some (.inl (nI (nd σ))), some (.inl (nI (kpN σ d k))), some (.inl (nI k)), some (.inl (nI (kpA σ d k 0))), some (.inl (nI (0)))]) (congrArg (fun zz9 : Int32 => ([some (.inr (some (15, d))), some (.inl (nI (nd σ))), some (.inl (nI (kpN σ d k))), some (.inl (nI k)), some (.inl (nI (kpA σ d k 0))), some (.inl zz9)] : List (Option AV))) (by first | rfl | (simp only [il_0, il_1, il_2, il_3, il_4, il_5, il_6, il_7, il_16, il_20, il_40, il_160, pk_mul, nI_add]; done) | (simp only [il_0, il_1, il_2, il_3, il_4, il_5, il_6, il_7, il_16, il_20, il_40, il_160, pk_mul, nI_add]; exact congrArg nI (by omega)))) rfl rfl ?_
    refine up_ind (nd σ) (fun f => X M_Dv_unseenAmong (rmo M_Dv_unseenAmong 0 0) (Zm Q 0 0) 20 [some (.inr (some (15, d))), some (.inl (nI (nd σ))), some (.inl (nI (kpN σ d k))), some (.inl (nI k)), some (.inl (nI (kpA σ d k f))), some (.inl (nI f))] [] (cH F B C Wr E r) 0 0) ?_ 0 (by omega)
    intro f hf ihf
    have ba := kpA_le σ d k f
    have b4 := ((hr d d4).2 k h1).2
    refine X_run 2 (pc' := 23) (L' := [some (.inr (some (15, d))), some (.inl (nI (nd σ))), some (.inl (nI (kpN σ d k))), some (.inl (nI k)), some (.inl (nI (kpA σ d k f))), some (.inl (nI f))]) (st' := [.inl (nI (nd σ)), .inl (nI f)]) rfl ?_
    refine X_ic_ge (tgt := 54) (nx := 26) rfl rfl rfl (fun h2 => ?_) (fun h2 => ?_)
    · have h2 := li_le (by omega) (by omega) h2
      refine X_run 2 (pc' := 56) (L' := [some (.inr (some (15, d))), some (.inl (nI (nd σ))), some (.inl (nI (kpN σ d k))), some (.inl (nI k)), some (.inl (nI (kpA σ d k f))), some (.inl (nI f))]) (st' := [.inr (some (15, d)), .inl (nI (kpN σ d k))]) rfl ?_
      refine X_callV (vs := []) (st := [.inl (nI (kpN σ d k))]) (mc := 0) (ms := 0) rfl ok_Dv_known v_Dv_24 (cH_obj rfl (by assumption)) rfl rfl (Nat.le_of_ble_eq_true rfl) (Nat.le_of_ble_eq_true rfl) (Nat.le_of_ble_eq_true rfl) (Nat.le_of_ble_eq_true rfl) (Nat.le_of_ble_eq_true rfl) (Nat.le_of_ble_eq_true rfl) rfl ?_
      refine c_Dv_known d4 h15 h16 hn ?_
      show X M_Dv_unseenAmong _ _ 59 [some (.inr (some (15, d))), some (.inl (nI (nd σ))), some (.inl (nI (kpN σ d k))), some (.inl (nI k)), some (.inl (nI (kpA σ d k f))), some (.inl (nI f))] [.inr (some (17, 4 * d + d)), .inl (nI (kpN σ d k))] (cH F B C Wr E r) 0 0
      refine X_run 1 (pc' := 60) (L' := [some (.inr (some (15, d))), some (.inl (nI (nd σ))), some (.inl (nI (kpN σ d k))), some (.inl (nI k)), some (.inl (nI (kpA σ d k f))), some (.inl (nI f))]) (st' := [.inl (nI k), .inr (some (17, 4 * d + d)), .inl (nI (kpN σ d k))]) rfl ?_
      refine XC_ild (a := 17) (i := 4 * d + d) (j := k) rfl ⟨rfl, rfl⟩ (hr _ (by omega)).1 (by simp only [rLn]; omega) rfl ?_
      refine X_eq (st' := [.inl (nI (rk σ d d k)), .inl (nI (kpN σ d k))]) rfl (congrArg (fun zz9 => Sum.inl zz9 :: _) (((hr d d4).2 k h1).1)) rfl ?_
      refine X_run 1 (pc' := 63) (L' := [some (.inr (some (15, d))), some (.inl (nI (nd σ))), some (.inl (nI (kpN σ d k))), some (.inl (nI k)), some (.inl (nI (kpA σ d k f))), some (.inl (nI f))]) (st' := [.inl (nI (kpA σ d k f)), .inl (nI (rk σ d d k)), .inl (nI (kpN σ d k))]) rfl ?_
      refine X_run 1 (pc' := 64) (L' := [some (.inr (some (15, d))), some (.inl (nI (nd σ))), some (.inl (nI (kpN σ d k))), some (.inl (nI k)), some (.inl (nI (kpA σ d k f))), some (.inl (nI f))]) (st' := [.inl ((nI (rk σ d d k)) - (nI (kpA σ d k f))), .inl (nI (kpN σ d k))]) rfl ?_
      refine X_eq (st' := [.inl (nI (rk σ d d k - kpA σ d k f)), .inl (nI (kpN σ d k))]) rfl (congrArg (fun zz9 => Sum.inl zz9 :: _) (pk_sub ba)) rfl ?_
      refine X_run 2 (pc' := 66) (L' := [some (.inr (some (15, d))), some (.inl (nI (nd σ))), some (.inl ((nI (kpN σ d k)) + (nI (rk σ d d k - kpA σ d k f)))), some (.inl (nI k)), some (.inl (nI (kpA σ d k f))), some (.inl (nI f))]) (st' := []) rfl ?_
      refine X_run 2 (pc' := 4) (L' := [some (.inr (some (15, d))), some (.inl (nI (nd σ))), some (.inl ((nI (kpN σ d k)) + (nI (rk σ d d k - kpA σ d k f)))), some (.inl (nI k + 1)), some (.inl (nI (kpA σ d k f))), some (.inl (nI f))]) (st' := []) rfl ?_
      refine X_eq (L' := [some (.inr (some (15, d))), some (.inl (nI (nd σ))), some (.inl ((nI (kpN σ d k)) + (nI (rk σ d d k - kpA σ d k f)))), some (.inl (nI (k + 1))), some (.inl (nI (kpA σ d k f))), some (.inl (nI f))]) (congrArg (fun zz9 : Int32 => ([some (.inr (some (15, d))), some (.inl (nI (nd σ))), some (.inl ((nI (kpN σ d k)) + (nI (rk σ d d k - kpA σ d k f)))), some (.inl zz9), some (.inl (nI (kpA σ d k f))), some (.inl (nI f))] : List (Option AV))) (by first | rfl | (simp only [il_0, il_1, il_2, il_3, il_4, il_5, il_6, il_7, il_16, il_20, il_40, il_160, pk_mul, nI_add]; done) | (simp only [il_0, il_1, il_2, il_3, il_4, il_5, il_6, il_7, il_16, il_20, il_40, il_160, pk_mul, nI_add]; exact congrArg nI (by omega)))) rfl rfl ?_
      refine X_eq (L' := [some (.inr (some (15, d))), some (.inl (nI (nd σ))), some (.inl (nI (kpN σ d (k + 1)))), some (.inl (nI (k + 1))), some (.inl (nI (kpA σ d k f))), some (.inl (nI f))]) (congrArg (fun zz9 : Int32 => ([some (.inr (some (15, d))), some (.inl (nI (nd σ))), some (.inl zz9), some (.inl (nI (k + 1))), some (.inl (nI (kpA σ d k f))), some (.inl (nI f))] : List (Option AV))) ((by rw [kpN_succ, nI_add, show nd σ = f by omega]))) rfl rfl ?_
      exact ih h1 _ _
    · have h2 := li_nle (by omega) (by omega) h2
      refine X_run 2 (pc' := 29) (L' := [some (.inr (some (15, d))), some (.inl (nI (nd σ))), some (.inl (nI (kpN σ d k))), some (.inl (nI k)), some (.inl (nI (kpA σ d k f))), some (.inl (nI f))]) (st' := [.inl (4), .inl (nI f)]) rfl ?_
      refine X_ic_ge (tgt := 54) (nx := 32) rfl rfl rfl (fun h3 => ?_) (fun h3 => ?_)
      · have h3 := li_le (a := 4) (by omega) (by omega) h3
        omega
      · have h3 := li_nle (a := 4) (by omega) (by omega) h3
        have bf := (hr f h3).2 k h1
        refine X_run 2 (pc' := 35) (L' := [some (.inr (some (15, d))), some (.inl (nI (nd σ))), some (.inl (nI (kpN σ d k))), some (.inl (nI k)), some (.inl (nI (kpA σ d k f))), some (.inl (nI f))]) (st' := [.inr (some (15, d)), .inl (nI (kpA σ d k f))]) rfl ?_
        refine XC_get (a := 15) (i := d) (v := .inr (some (16, d))) rfl f_Dv_11 ⟨rfl, rfl⟩ (by assumption) rfl rfl ?_
        refine X_run 1 (pc' := 40) (L' := [some (.inr (some (15, d))), some (.inl (nI (nd σ))), some (.inl (nI (kpN σ d k))), some (.inl (nI k)), some (.inl (nI (kpA σ d k f))), some (.inl (nI f))]) (st' := [.inl (nI f), .inr (some (16, d)), .inl (nI (kpA σ d k f))]) rfl ?_
        refine XC_ald (a := 16) (i := d) (j := f) (v := (some (17, 4 * d + f))) rfl ⟨rfl, by decide, by decide⟩ (by assumption) (by simp only [rLn]; omega) (if_pos (by omega)) rfl ?_
        refine X_run 1 (pc' := 42) (L' := [some (.inr (some (15, d))), some (.inl (nI (nd σ))), some (.inl (nI (kpN σ d k))), some (.inl (nI k)), some (.inl (nI (kpA σ d k f))), some (.inl (nI f))]) (st' := [.inl (nI k), .inr (some (17, 4 * d + f)), .inl (nI (kpA σ d k f))]) rfl ?_
        refine XC_ild (a := 17) (i := 4 * d + f) (j := k) rfl ⟨rfl, rfl⟩ (hr _ (by omega)).1 (by simp only [rLn]; omega) rfl ?_
        refine X_eq (st' := [.inl (nI (rk σ d f k)), .inl (nI (kpA σ d k f))]) rfl (congrArg (fun zz9 => Sum.inl zz9 :: _) (bf.1)) rfl ?_
        refine X_min rfl x_Dv_34 (Nat.le_of_ble_eq_true rfl) (Nat.le_of_ble_eq_true rfl) (Nat.le_of_ble_eq_true rfl) (Nat.le_of_ble_eq_true rfl) (Nat.le_of_ble_eq_true rfl) rfl ?_
        refine X_eq (st' := [.inl (nI (kpA σ d k (f + 1)))]) rfl (congrArg (fun zz9 => Sum.inl zz9 :: _) ((by rw [kpA_succ, mn_nat (by omega) (by omega)]; congr 1; split <;> omega))) rfl ?_
        refine X_run 3 (pc' := 20) (L' := [some (.inr (some (15, d))), some (.inl (nI (nd σ))), some (.inl (nI (kpN σ d k))), some (.inl (nI k)), some (.inl (nI (kpA σ d k (f + 1)))), some (.inl (nI f + 1))]) (st' := []) rfl ?_
        refine X_eq (L' := [some (.inr (some (15, d))), some (.inl (nI (nd σ))), some (.inl (nI (kpN σ d k))), some (.inl (nI k)), some (.inl (nI (kpA σ d k (f + 1)))), some (.inl (nI (f + 1)))]) (congrArg (fun zz9 : Int32 => ([some (.inr (some (15, d))), some (.inl (nI (nd σ))), some (.inl (nI (kpN σ d k))), some (.inl (nI k)), some (.inl (nI (kpA σ d k (f + 1)))), some (.inl zz9)] : List (Option AV))) (by first | rfl | (simp only [il_0, il_1, il_2, il_3, il_4, il_5, il_6, il_7, il_16, il_20, il_40, il_160, pk_mul, nI_add]; done) | (simp only [il_0, il_1, il_2, il_3, il_4, il_5, il_6, il_7, il_16, il_20, il_40, il_160, pk_mul, nI_add]; exact congrArg nI (by omega)))) rfl rfl ?_
        exact ihf h2
/-- two devices meet: what both reckon then -/
def mtW (T : Nat → Nat → Nat → Nat) (a b f e : Nat) : Nat := if f = a ∨ f = b then max (max (T a a e) (T b a e)) (T b b e) else max (T a f e) (T b f e)
theorem g4 {a b f f' : Nat} (hf : f < 4) (hf' : f' < 4) : 4 * a + f = 4 * b + f' ↔ a = b ∧ f = f' := by omega
theorem c_Dv_meetWith {T : Nat → Nat → Nat → Nat} {a b : Nat} (ha : DR T F B E a) (hb : DR T F B E b) (hab : a ≠ b) (hq : ∀ B' : CB, (∀ a' i', ¬ (a' = 17 ∧ (i' / 4 = a ∨ i' / 4 = b)) → B' a' i' = B a' i') → (∀ f e, f < 4 → e < 4 → B' 17 (4 * a + f) e = nI (mtW T a b f e) ∧ B' 17 (4 * b + f) e = nI (mtW T a b f e)) → Q none (cH F B' C Wr E r)) : X M_Dv_meetWith (rmo M_Dv_meetWith 0 0) (Zm Q 0 0) 0 (ini M_Dv_meetWith [.inr (some (15, a)), .inr (some (15, b))]) [] (cH F B C Wr E r) 0 0 := by
  obtain ⟨a4, a15, a16, an, ar⟩ := ha
  obtain ⟨b4, b15, b16, bn, br⟩ := hb
  show X M_Dv_meetWith _ _ 0 [some (.inr (some (15, a))), some (.inr (some (15, b))), none] [] (cH F B C Wr E r) 0 0
  refine X_run 2 (pc' := 2) (L' := [some (.inr (some (15, a))), some (.inr (some (15, b))), some (.inl (0))]) (st' := []) rfl ?_
  refine X_eq (L' := [some (.inr (some (15, a))), some (.inr (some (15, b))), some (.inl (nI (0)))]) (congrArg (fun zz9 : Int32 => ([some (.inr (some (15, a))), some (.inr (some (15, b))), some (.inl zz9)] : List (Option AV))) (by first | rfl | (simp only [il_0, il_1, il_2, il_3, il_4, il_5, il_6, il_7, il_16, il_20, il_40, il_160, pk_mul, nI_add]; done) | (simp only [il_0, il_1, il_2, il_3, il_4, il_5, il_6, il_7, il_16, il_20, il_40, il_160, pk_mul, nI_add]; exact congrArg nI (by omega)))) rfl rfl ?_
  refine up_ind 4 (fun k => ∀ B1 : CB, (∀ a' i', ¬ (a' = 17 ∧ i' / 4 = a) → B1 a' i' = B a' i') → (∀ f e, f < 4 → e < 4 → B1 17 (4 * a + f) e = nI (if f < k then max (T a f e) (T b f e) else T a f e)) → X M_Dv_meetWith (rmo M_Dv_meetWith 0 0) (Zm Q 0 0) 2 [some (.inr (some (15, a))), some (.inr (some (15, b))), some (.inl (nI k))] [] (cH F B1 C Wr E r) 0 0) ?_ 0 (by omega) B (fun _ _ _ => rfl) (fun f e hf he => by rw [if_neg (by omega)]; exact ((ar f hf).2 e he).1)
  intro k hk4 ih B1 hB1 hB2
  have br1 : ∀ f e, f < 4 → e < 4 → B1 17 (4 * b + f) e = nI (T b f e) := fun f e hf he => by
    rw [hB1 17 (4 * b + f) (by omega)]
    exact ((br f hf).2 e he).1
  have aE : ∀ f, f < 4 → E 17 (4 * a + f) = true := fun f hf => (ar f hf).1
  have bE : ∀ f, f < 4 → E 17 (4 * b + f) = true := fun f hf => (br f hf).1
  have aT : ∀ f e, f < 4 → e < 4 → T a f e ≤ 40 := fun f e hf he => ((ar f hf).2 e he).2
  have bT : ∀ f e, f < 4 → e < 4 → T b f e ≤ 40 := fun f e hf he => ((br f hf).2 e he).2
  refine X_run 2 (pc' := 4) (L' := [some (.inr (some (15, a))), some (.inr (some (15, b))), some (.inl (nI k))]) (st' := [.inl (4), .inl (nI k)]) rfl ?_
  refine X_ic_ge (tgt := 28) (nx := 7) rfl rfl rfl (fun h1 => ?_) (fun h1 => ?_)
  · have h1 := li_le (a := 4) (by omega) (by omega) h1
    have h4 : ∀ f e, f < 4 → e < 4 → B1 17 (4 * a + f) e = nI (max (T a f e) (T b f e)) := fun f e hf he => by rw [hB2 f e hf he, if_pos (by omega)]
    refine X_run 1 (pc' := 29) (L' := [some (.inr (some (15, a))), some (.inr (some (15, b))), some (.inl (nI k))]) (st' := [.inr (some (15, a))]) rfl ?_
    refine X_callV (vs := []) (st := []) (mc := 0) (ms := 0) rfl ok_Dv_known v_Dv_24 (cH_obj rfl (by assumption)) rfl rfl (Nat.le_of_ble_eq_true rfl) (Nat.le_of_ble_eq_true rfl) (Nat.le_of_ble_eq_true rfl) (Nat.le_of_ble_eq_true rfl) (Nat.le_of_ble_eq_true rfl) (Nat.le_of_ble_eq_true rfl) rfl ?_
    refine c_Dv_known a4 a15 a16 an ?_
    show X M_Dv_meetWith _ _ 32 [some (.inr (some (15, a))), some (.inr (some (15, b))), some (.inl (nI k))] [.inr (some (17, 4 * a + a))] (cH F B1 C Wr E r) 0 0
    refine X_run 1 (pc' := 33) (L' := [some (.inr (some (15, a))), some (.inr (some (15, b))), some (.inl (nI k))]) (st' := [.inr (some (15, b)), .inr (some (17, 4 * a + a))]) rfl ?_
    refine X_callV (vs := []) (st := [.inr (some (17, 4 * a + a))]) (mc := 0) (ms := 0) rfl ok_Dv_known v_Dv_24 (cH_obj rfl (by assumption)) rfl rfl (Nat.le_of_ble_eq_true rfl) (Nat.le_of_ble_eq_true rfl) (Nat.le_of_ble_eq_true rfl) (Nat.le_of_ble_eq_true rfl) (Nat.le_of_ble_eq_true rfl) (Nat.le_of_ble_eq_true rfl) rfl ?_
    refine c_Dv_known b4 b15 b16 bn ?_
    show X M_Dv_meetWith _ _ 36 [some (.inr (some (15, a))), some (.inr (some (15, b))), some (.inl (nI k))] [.inr (some (17, 4 * b + b)), .inr (some (17, 4 * a + a))] (cH F B1 C Wr E r) 0 0
    refine X_callS (vs := [.inr (some (17, 4 * a + a)), .inr (some (17, 4 * b + b))]) (st := []) (mc := 0) (ms := 0) rfl ok_Dv_raise s_Dv_20 rfl rfl (Nat.le_of_ble_eq_true rfl) (Nat.le_of_ble_eq_true rfl) (Nat.le_of_ble_eq_true rfl) (Nat.le_of_ble_eq_true rfl) (Nat.le_of_ble_eq_true rfl) (Nat.le_of_ble_eq_true rfl) rfl ?_
    refine c_Dv_raise (m := fun e => max (T a a e) (T b a e)) (o := fun e => T b b e) ⟨rfl, rfl⟩ (aE a a4) (bE b b4) (by omega) rfl (fun e he => ⟨h4 a e a4 he, by have := aT a e a4 he; have := bT a e a4 he; omega⟩) (fun e he => ⟨br1 b e b4 he, by have := bT b e b4 he; omega⟩) (fun g hg => ?_)
    show X M_Dv_meetWith _ _ 39 [some (.inr (some (15, a))), some (.inr (some (15, b))), some (.inl (nI k))] [] (cH F (uR B1 17 (4 * a + a) g) C Wr E r) 0 0
    refine X_run 1 (pc' := 40) (L' := [some (.inr (some (15, a))), some (.inr (some (15, b))), some (.inl (nI k))]) (st' := [.inr (some (15, a))]) rfl ?_
    refine X_callV (vs := []) (st := []) (mc := 0) (ms := 0) rfl ok_Dv_known v_Dv_24 (cH_obj rfl (by assumption)) rfl rfl (Nat.le_of_ble_eq_true rfl) (Nat.le_of_ble_eq_true rfl) (Nat.le_of_ble_eq_true rfl) (Nat.le_of_ble_eq_true rfl) (Nat.le_of_ble_eq_true rfl) (Nat.le_of_ble_eq_true rfl) rfl ?_
    refine c_Dv_known a4 a15 a16 an ?_
    show X M_Dv_meetWith _ _ 43 [some (.inr (some (15, a))), some (.inr (some (15, b))), some (.inl (nI k))] [.inr (some (17, 4 * a + a))] (cH F (uR B1 17 (4 * a + a) g) C Wr E r) 0 0
    refine X_run 2 (pc' := 45) (L' := [some (.inr (some (15, a))), some (.inr (some (15, b))), some (.inl (nI k))]) (st' := [.inr (some (15, a)), .inl (0), .inr (some (17, 4 * a + a))]) rfl ?_
    refine XC_get (a := 15) (i := a) (v := .inr (some (16, a))) rfl f_Dv_11 ⟨rfl, rfl⟩ (by assumption) rfl rfl ?_
    refine X_run 1 (pc' := 49) (L' := [some (.inr (some (15, a))), some (.inr (some (15, b))), some (.inl (nI k))]) (st' := [.inr (some (15, b)), .inr (some (16, a)), .inl (0), .inr (some (17, 4 * a + a))]) rfl ?_
    refine XC_get (a := 15) (i := b) (v := .inl (F 15 b 0)) rfl f_Dv_16 ⟨rfl, rfl⟩ (by assumption) rfl rfl ?_
    refine X_eq (st' := [.inl (nI b), .inr (some (16, a)), .inl (0), .inr (some (17, 4 * a + a))]) rfl (congrArg (fun zz9 => Sum.inl zz9 :: _) (bn)) rfl ?_
    refine XC_ald (a := 16) (i := a) (j := b) (v := (some (17, 4 * a + b))) rfl ⟨rfl, by decide, by decide⟩ (by assumption) (by simp only [rLn]; omega) (if_pos (by omega)) rfl ?_
    refine X_run 2 (pc' := 55) (L' := [some (.inr (some (15, a))), some (.inr (some (15, b))), some (.inl (nI k))]) (st' := [.inl (4), .inl (0), .inr (some (17, 4 * a + b)), .inl (0), .inr (some (17, 4 * a + a))]) rfl ?_
    refine XC_cpy (a := 17) (i := 4 * a + a) (a2 := 17) (j := 4 * a + b) rfl x_Dv_28 ⟨rfl, rfl, rfl⟩ (aE a a4) ⟨rfl, rfl, rfl⟩ (aE b b4) (Nat.le_of_ble_eq_true rfl) (Nat.le_of_ble_eq_true rfl) (Nat.le_of_ble_eq_true rfl) rfl (fun f1 hf1 => ?_)
    obtain ⟨B3, eB3⟩ : ∃ B3, B3 = uR (uR B1 17 (4 * a + a) g) 17 (4 * a + b) f1 := ⟨_, rfl⟩
    rw [← eB3]
    have v3 : ∀ f e, f < 4 → e < 4 → B3 17 (4 * a + f) e = nI (mtW T a b f e) := fun f e hf he => by
      rw [eB3]
      unfold mtW
      by_cases q : f = b
      · rw [q, uR_eq, if_pos (Or.inr rfl), hf1 e he, uR_eq, hg e he]
      · rw [uR_ne (by rintro ⟨-, z⟩; exact q (by omega))]
        by_cases q2 : f = a
        · rw [q2, uR_eq, if_pos (Or.inl rfl), hg e he]
        · rw [uR_ne (by rintro ⟨-, z⟩; exact q2 (by omega)), if_neg (by rintro (z | z) <;> contradiction), h4 f e hf he]
    have o3 : ∀ a' i', ¬ (a' = 17 ∧ i' / 4 = a) → B3 a' i' = B a' i' := fun a' i' hh => by
      rw [eB3, uR_ne (by rintro ⟨z1, z2⟩; exact hh ⟨z1, by omega⟩), uR_ne (by rintro ⟨z1, z2⟩; exact hh ⟨z1, by omega⟩), hB1 a' i' hh]
    refine X_run 2 (pc' := 60) (L' := [some (.inr (some (15, a))), some (.inr (some (15, b))), some (.inl (0))]) (st' := []) rfl ?_
    refine X_eq (L' := [some (.inr (some (15, a))), some (.inr (some (15, b))), some (.inl (nI (0)))]) (congrArg (fun zz9 : Int32 => ([some (.inr (some (15, a))), some (.inr (some (15, b))), some (.inl zz9)] : List (Option AV))) (by first | rfl | (simp only [il_0, il_1, il_2, il_3, il_4, il_5, il_6, il_7, il_16, il_20, il_40, il_160, pk_mul, nI_add]; done) | (simp only [il_0, il_1, il_2, il_3, il_4, il_5, il_6, il_7, il_16, il_20, il_40, il_160, pk_mul, nI_add]; exact congrArg nI (by omega)))) rfl rfl ?_
    refine up_ind 4 (fun k => ∀ B4 : CB, (∀ a' i', ¬ (a' = 17 ∧ i' / 4 = b) → B4 a' i' = B3 a' i') → (∀ f e, f < k → e < 4 → B4 17 (4 * b + f) e = nI (mtW T a b f e)) → X M_Dv_meetWith (rmo M_Dv_meetWith 0 0) (Zm Q 0 0) 60 [some (.inr (some (15, a))), some (.inr (some (15, b))), some (.inl (nI k))] [] (cH F B4 C Wr E r) 0 0) ?_ 0 (by omega) B3 (fun _ _ _ => rfl) (fun f e hf he => by omega)
    intro m hm4 ihm B4 hB4 hB5
    have a34 : ∀ f e, f < 4 → e < 4 → B4 17 (4 * a + f) e = nI (mtW T a b f e) := fun f e hf he => by rw [hB4 _ _ (by omega)]; exact v3 f e hf he
    refine X_run 2 (pc' := 62) (L' := [some (.inr (some (15, a))), some (.inr (some (15, b))), some (.inl (nI m))]) (st' := [.inl (4), .inl (nI m)]) rfl ?_
    refine X_ic_ge (tgt := 89) (nx := 65) rfl rfl rfl (fun h2 => ?_) (fun h2 => ?_)
    · have h2 := li_le (a := 4) (by omega) (by omega) h2
      exact X_vret rfl rfl (Nat.le_refl _) (Nat.le_refl _) (hq B4 (fun a' i' hh => by rw [hB4 a' i' (by omega), o3 a' i' (by omega)]) (fun f e hf he => ⟨a34 f e hf he, hB5 f e (by omega) he⟩))
    · have h2 := li_nle (a := 4) (by omega) (by omega) h2
      refine X_run 1 (pc' := 66) (L' := [some (.inr (some (15, a))), some (.inr (some (15, b))), some (.inl (nI m))]) (st' := [.inr (some (15, a))]) rfl ?_
      refine XC_get (a := 15) (i := a) (v := .inr (some (16, a))) rfl f_Dv_11 ⟨rfl, rfl⟩ (by assumption) rfl rfl ?_
      refine X_run 1 (pc' := 70) (L' := [some (.inr (some (15, a))), some (.inr (some (15, b))), some (.inl (nI m))]) (st' := [.inl (nI m), .inr (some (16, a))]) rfl ?_
      refine XC_ald (a := 16) (i := a) (j := m) (v := (some (17, 4 * a + m))) rfl ⟨rfl, by decide, by decide⟩ (by assumption) (by simp only [rLn]; omega) (if_pos (by omega)) rfl ?_
      refine X_run 2 (pc' := 73) (L' := [some (.inr (some (15, a))), some (.inr (some (15, b))), some (.inl (nI m))]) (st' := [.inr (some (15, b)), .inl (0), .inr (some (17, 4 * a + m))]) rfl ?_
      refine XC_get (a := 15) (i := b) (v := .inr (some (16, b))) rfl f_Dv_11 ⟨rfl, rfl⟩ (by assumption) rfl rfl ?_
      refine X_run 1 (pc' := 77) (L' := [some (.inr (some (15, a))), some (.inr (some (15, b))), some (.inl (nI m))]) (st' := [.inl (nI m), .inr (some (16, b)), .inl (0), .inr (some (17, 4 * a + m))]) rfl ?_
      refine XC_ald (a := 16) (i := b) (j := m) (v := (some (17, 4 * b + m))) rfl ⟨rfl, by decide, by decide⟩ (by assumption) (by simp only [rLn]; omega) (if_pos (by omega)) rfl ?_
      refine X_run 2 (pc' := 80) (L' := [some (.inr (some (15, a))), some (.inr (some (15, b))), some (.inl (nI m))]) (st' := [.inl (4), .inl (0), .inr (some (17, 4 * b + m)), .inl (0), .inr (some (17, 4 * a + m))]) rfl ?_
      refine XC_cpy (a := 17) (i := 4 * a + m) (a2 := 17) (j := 4 * b + m) rfl x_Dv_28 ⟨rfl, rfl, rfl⟩ (aE m h2) ⟨rfl, rfl, rfl⟩ (bE m h2) (Nat.le_of_ble_eq_true rfl) (Nat.le_of_ble_eq_true rfl) (Nat.le_of_ble_eq_true rfl) rfl (fun f2 hf2 => ?_)
      refine X_run 2 (pc' := 60) (L' := [some (.inr (some (15, a))), some (.inr (some (15, b))), some (.inl (nI m + 1))]) (st' := []) rfl ?_
      refine X_eq (L' := [some (.inr (some (15, a))), some (.inr (some (15, b))), some (.inl (nI (m + 1)))]) (congrArg (fun zz9 : Int32 => ([some (.inr (some (15, a))), some (.inr (some (15, b))), some (.inl zz9)] : List (Option AV))) (by first | rfl | (simp only [il_0, il_1, il_2, il_3, il_4, il_5, il_6, il_7, il_16, il_20, il_40, il_160, pk_mul, nI_add]; done) | (simp only [il_0, il_1, il_2, il_3, il_4, il_5, il_6, il_7, il_16, il_20, il_40, il_160, pk_mul, nI_add]; exact congrArg nI (by omega)))) rfl rfl ?_
      refine ihm h2 _ (fun a' i' hh => ?_) (fun f e hf he => ?_)
      · rw [uR_ne (by rintro ⟨z1, z2⟩; exact hh ⟨z1, by omega⟩), hB4 a' i' hh]
      · by_cases q : f = m
        · rw [q, uR_eq, hf2 e he, a34 m e h2 he]
        · rw [uR_ne (by rintro ⟨-, z⟩; exact q (by omega))]
          exact hB5 f e (by omega) he
  · have h1 := li_nle (a := 4) (by omega) (by omega) h1
    refine X_run 1 (pc' := 8) (L' := [some (.inr (some (15, a))), some (.inr (some (15, b))), some (.inl (nI k))]) (st' := [.inr (some (15, a))]) rfl ?_
    refine XC_get (a := 15) (i := a) (v := .inr (some (16, a))) rfl f_Dv_11 ⟨rfl, rfl⟩ (by assumption) rfl rfl ?_
    refine X_run 1 (pc' := 12) (L' := [some (.inr (some (15, a))), some (.inr (some (15, b))), some (.inl (nI k))]) (st' := [.inl (nI k), .inr (some (16, a))]) rfl ?_
    refine XC_ald (a := 16) (i := a) (j := k) (v := (some (17, 4 * a + k))) rfl ⟨rfl, by decide, by decide⟩ (by assumption) (by simp only [rLn]; omega) (if_pos (by omega)) rfl ?_
    refine X_run 1 (pc' := 14) (L' := [some (.inr (some (15, a))), some (.inr (some (15, b))), some (.inl (nI k))]) (st' := [.inr (some (15, b)), .inr (some (17, 4 * a + k))]) rfl ?_
    refine XC_get (a := 15) (i := b) (v := .inr (some (16, b))) rfl f_Dv_11 ⟨rfl, rfl⟩ (by assumption) rfl rfl ?_
    refine X_run 1 (pc' := 18) (L' := [some (.inr (some (15, a))), some (.inr (some (15, b))), some (.inl (nI k))]) (st' := [.inl (nI k), .inr (some (16, b)), .inr (some (17, 4 * a + k))]) rfl ?_
    refine XC_ald (a := 16) (i := b) (j := k) (v := (some (17, 4 * b + k))) rfl ⟨rfl, by decide, by decide⟩ (by assumption) (by simp only [rLn]; omega) (if_pos (by omega)) rfl ?_
    refine X_callS (vs := [.inr (some (17, 4 * a + k)), .inr (some (17, 4 * b + k))]) (st := []) (mc := 0) (ms := 0) rfl ok_Dv_raise s_Dv_20 rfl rfl (Nat.le_of_ble_eq_true rfl) (Nat.le_of_ble_eq_true rfl) (Nat.le_of_ble_eq_true rfl) (Nat.le_of_ble_eq_true rfl) (Nat.le_of_ble_eq_true rfl) (Nat.le_of_ble_eq_true rfl) rfl ?_
    refine c_Dv_raise (m := fun e => T a k e) (o := fun e => T b k e) ⟨rfl, rfl⟩ (aE k h1) (bE k h1) (by omega) rfl (fun e he => ⟨by rw [hB2 k e h1 he, if_neg (by omega)], by have := aT k e h1 he; omega⟩) (fun e he => ⟨br1 k e h1 he, by have := bT k e h1 he; omega⟩) (fun g hg => ?_)
    show X M_Dv_meetWith _ _ 22 [some (.inr (some (15, a))), some (.inr (some (15, b))), some (.inl (nI k))] [] (cH F (uR B1 17 (4 * a + k) g) C Wr E r) 0 0
    refine X_run 2 (pc' := 2) (L' := [some (.inr (some (15, a))), some (.inr (some (15, b))), some (.inl (nI k + 1))]) (st' := []) rfl ?_
    refine X_eq (L' := [some (.inr (some (15, a))), some (.inr (some (15, b))), some (.inl (nI (k + 1)))]) (congrArg (fun zz9 : Int32 => ([some (.inr (some (15, a))), some (.inr (some (15, b))), some (.inl zz9)] : List (Option AV))) (by first | rfl | (simp only [il_0, il_1, il_2, il_3, il_4, il_5, il_6, il_7, il_16, il_20, il_40, il_160, pk_mul, nI_add]; done) | (simp only [il_0, il_1, il_2, il_3, il_4, il_5, il_6, il_7, il_16, il_20, il_40, il_160, pk_mul, nI_add]; exact congrArg nI (by omega)))) rfl rfl ?_
    refine ih h1 _ (fun a' i' hh => ?_) (fun f e hf he => ?_)
    · rw [uR_ne (by rintro ⟨z1, z2⟩; exact hh ⟨z1, by omega⟩), hB1 a' i' hh]
    · by_cases q : f = k
      · rw [q, uR_eq, hg e he, if_pos (by omega)]
      · rw [uR_ne (by rintro ⟨-, z⟩; exact q (by omega)), hB2 f e hf he]
        by_cases q2 : f < k
        · rw [if_pos q2, if_pos (by omega)]
        · rw [if_neg q2, if_neg (by omega)]
end

