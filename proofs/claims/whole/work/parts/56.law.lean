/-! the law's calls: both sides answer alike -/
def lw_Q (_ : Array Value) (s : State) (o : Outcome) (t : State) : Prop := o = .returned (some (.int 1)) ∧ Framed s o t [] 672385 7085092
def lw_Z (below : List Frame) (a : Array Value) (s : State) : State → Prop := fun t => ∃ o, t.status = .running ∧ Ended t below o ∧ lw_Q a s o t
/-- the law's end: of what was there before nothing has been written -/
def Zl : ZT := fun _ base _ _ below args s t => base = s.heap.size → lw_Z below args s t
/-- behind a call of the law -/
def KK (g : AH) (i c s : Nat) : Prop := ∀ (σ : Sg) (F : CF) (B : CB) (C : CC) (Wr : Nat → Option Nd) (E : Nat → Nat → Bool) (I : Nat → Int32) (A : Nat → Nat → Int32), W2 σ → CI σ F B C E → MB σ I A → X M_La_law room_1 Zl 742 [some (.inr (some (30, 0))), some (.inr (some (0, 0))), some (.inr (some (10, 0))), some (.inl (nI i))] [] (cH F B C Wr E (mH g I A)) (c + 802) (s + 4652)
section
variable {F : CF} {B : CB} {C : CC} {Wr : Nat → Option Nd} {E : Nat → Nat → Bool} {I : Nat → Int32} {A : Nat → Nat → Int32} {g : AH} {σ : Sg} {i n c s : Nat} {xs : Nat → Int32}
theorem scrH (F : CF) (B : CB) (C : CC) (Wr : Nat → Option Nd) (E : Nat → Nat → Bool) (I : Nat → Int32) (A : Nat → Nat → Int32) (hg : g (30, 0) = some (.inl (7, n, xs))) : cH F B C Wr E (mH g I A) (30, 0) = some (.inl (7, n, xs)) := hg
theorem scrM (F : CF) (B : CB) (C : CC) (Wr : Nat → Option Nd) (E : Nat → Nat → Bool) (I : Nat → Int32) (A : Nat → Nat → Int32) (hg : g (30, 0) = some (.inl (7, n, xs))) : mH (cH F B C Wr E g) I A (30, 0) = some (.inl (7, n, xs)) := hg
set_option maxRecDepth 100000 in
theorem law_0 (hg : g (30, 0) = some (.inl (7, n, xs))) (hn : n ≤ 2561) (hi : i + 5 ≤ n) (hc : c + 802 ≤ 672385) (hs : s + 4652 ≤ 7085092) (hW : W2 σ) (hI : CI σ F B C E) (hM : MB σ I A) (kk : KK g i c s) : X M_La_law room_1 Zl 128 [some (.inr (some (30, 0))), some (.inr (some (0, 0))), some (.inr (some (10, 0))), some (.inl (nI i))] [] (cH F B C Wr E (mH g I A)) c s := by
  obtain ⟨see0, hCD⟩ := id hI
  have h0 := hCD.1.1
  refine X_run 5 (pc' := 133) (L' := [some (.inr (some (30, 0))), some (.inr (some (0, 0))), some (.inr (some (10, 0))), some (.inl (nI i))]) (st' := [.inl ((nI i) + 1), .inr (some (30, 0)), .inr (some (0, 0))]) rfl ?_
  refine X_eq (st' := [.inl (nI (i + 1)), .inr (some (30, 0)), .inr (some (0, 0))]) rfl (congrArg (fun zz9 => Sum.inl zz9 :: _) (by first | rfl | exact congrArg nI (by omega) | (simp only [il_0, il_1, il_2, il_3, il_4, il_5, il_6, il_7, il_16, il_20, il_40, il_160, pk_mul, nI_add]; done) | (simp only [il_0, il_1, il_2, il_3, il_4, il_5, il_6, il_7, il_16, il_20, il_40, il_160, pk_mul, nI_add]; exact congrArg nI (by omega)))) rfl ?_
  refine X_iald (nx := 134) (t := 7) (len := n) (f := xs) rfl (scrH F B C Wr E I A hg) (Or.inr rfl) (vp_in_nI (by omega) (by omega)) rfl ?_
  rw [nI_clamp (show i + 1 < 2 ^ 31 by omega)]
  refine X_callV (vs := [.inl ((xs (i + 1)))]) (st := []) (mc := 6) (ms := 22) rfl ok_Pl_device v_La_21 (cH_obj rfl h0) rfl rfl (Nat.le_of_ble_eq_true rfl) (Nat.le_of_ble_eq_true rfl) (Nat.le_of_ble_eq_true rfl) (Nat.le_of_ble_eq_true rfl) (by show c + 6 ≤ 672385; omega) (by show s + 22 ≤ 7085092; omega) rfl ?_
  refine c_Pl_device hW hI (fun F1 B1 C1 W1 E1 hI1 => ?_)
  show X M_La_law _ _ 137 [some (.inr (some (30, 0))), some (.inr (some (0, 0))), some (.inr (some (10, 0))), some (.inl (nI i))] [.inl ((sDev σ (xs (i + 1))).2)] (cH F1 B1 C1 W1 E1 (mH g I A)) (c + 6) (s + 22)
  rw [cH_mH]
  refine X_run 5 (pc' := 142) (L' := [some (.inr (some (30, 0))), some (.inr (some (0, 0))), some (.inr (some (10, 0))), some (.inl (nI i))]) (st' := [.inl ((nI i) + 1), .inr (some (30, 0)), .inr (some (10, 0)), .inl ((sDev σ (xs (i + 1))).2)]) rfl ?_
  refine X_eq (st' := [.inl (nI (i + 1)), .inr (some (30, 0)), .inr (some (10, 0)), .inl ((sDev σ (xs (i + 1))).2)]) rfl (congrArg (fun zz9 => Sum.inl zz9 :: _) (by first | rfl | exact congrArg nI (by omega) | (simp only [il_0, il_1, il_2, il_3, il_4, il_5, il_6, il_7, il_16, il_20, il_40, il_160, pk_mul, nI_add]; done) | (simp only [il_0, il_1, il_2, il_3, il_4, il_5, il_6, il_7, il_16, il_20, il_40, il_160, pk_mul, nI_add]; exact congrArg nI (by omega)))) rfl ?_
  refine X_iald (nx := 143) (t := 7) (len := n) (f := xs) rfl (scrM F1 B1 C1 W1 E1 I A hg) (Or.inr rfl) (vp_in_nI (by omega) (by omega)) rfl ?_
  rw [nI_clamp (show i + 1 < 2 ^ 31 by omega)]
  refine X_callV (vs := [.inl ((xs (i + 1)))]) (st := [.inl ((sDev σ (xs (i + 1))).2)]) (mc := 0) (ms := 0) rfl ok_Mo_device v_La_25 rfl rfl rfl (Nat.le_of_ble_eq_true rfl) (Nat.le_of_ble_eq_true rfl) (Nat.le_of_ble_eq_true rfl) (Nat.le_of_ble_eq_true rfl) (by show c + 6 + 0 ≤ 672385; omega) (by show s + 22 + 0 ≤ 7085092; omega) rfl ?_
  refine c_Mo_device hM (fun d f e => (hW.1.p12 d f e).1) (fun I1 A1 hM1 => ?_)
  show X M_La_law _ _ 146 [some (.inr (some (30, 0))), some (.inr (some (0, 0))), some (.inr (some (10, 0))), some (.inl (nI i))] [.inl ((sDev σ (xs (i + 1))).2), .inl ((sDev σ (xs (i + 1))).2)] (mH (cH F1 B1 C1 W1 E1 g) I1 A1) (c + 6) (s + 22)
  rw [← cH_mH]
  refine X_ic_eq (tgt := 742) (nx := 149) rfl rfl rfl (fun q => ?_) (fun q => ?_)
  · exact X_widen (by omega) (by omega) (kk _ _ _ _ _ _ _ _ (W2_dev hW (xs (i + 1))) hI1 hM1)
  · exact absurd rfl q
set_option maxRecDepth 100000 in
theorem law_1 (hg : g (30, 0) = some (.inl (7, n, xs))) (hn : n ≤ 2561) (hi : i + 5 ≤ n) (hc : c + 802 ≤ 672385) (hs : s + 4652 ≤ 7085092) (hW : W2 σ) (hI : CI σ F B C E) (hM : MB σ I A) (kk : KK g i c s) : X M_La_law room_1 Zl 151 [some (.inr (some (30, 0))), some (.inr (some (0, 0))), some (.inr (some (10, 0))), some (.inl (nI i))] [] (cH F B C Wr E (mH g I A)) c s := by
  obtain ⟨see0, hCD⟩ := id hI
  have h0 := hCD.1.1
  refine X_run 5 (pc' := 156) (L' := [some (.inr (some (30, 0))), some (.inr (some (0, 0))), some (.inr (some (10, 0))), some (.inl (nI i))]) (st' := [.inl ((nI i) + 1), .inr (some (30, 0)), .inr (some (0, 0))]) rfl ?_
  refine X_eq (st' := [.inl (nI (i + 1)), .inr (some (30, 0)), .inr (some (0, 0))]) rfl (congrArg (fun zz9 => Sum.inl zz9 :: _) (by first | rfl | exact congrArg nI (by omega) | (simp only [il_0, il_1, il_2, il_3, il_4, il_5, il_6, il_7, il_16, il_20, il_40, il_160, pk_mul, nI_add]; done) | (simp only [il_0, il_1, il_2, il_3, il_4, il_5, il_6, il_7, il_16, il_20, il_40, il_160, pk_mul, nI_add]; exact congrArg nI (by omega)))) rfl ?_
  refine X_iald (nx := 157) (t := 7) (len := n) (f := xs) rfl (scrH F B C Wr E I A hg) (Or.inr rfl) (vp_in_nI (by omega) (by omega)) rfl ?_
  rw [nI_clamp (show i + 1 < 2 ^ 31 by omega)]
  refine X_run 4 (pc' := 161) (L' := [some (.inr (some (30, 0))), some (.inr (some (0, 0))), some (.inr (some (10, 0))), some (.inl (nI i))]) (st' := [.inl ((nI i) + 2), .inr (some (30, 0)), .inl ((xs (i + 1))), .inr (some (0, 0))]) rfl ?_
  refine X_eq (st' := [.inl (nI (i + 2)), .inr (some (30, 0)), .inl ((xs (i + 1))), .inr (some (0, 0))]) rfl (congrArg (fun zz9 => Sum.inl zz9 :: _) (by first | rfl | exact congrArg nI (by omega) | (simp only [il_0, il_1, il_2, il_3, il_4, il_5, il_6, il_7, il_16, il_20, il_40, il_160, pk_mul, nI_add]; done) | (simp only [il_0, il_1, il_2, il_3, il_4, il_5, il_6, il_7, il_16, il_20, il_40, il_160, pk_mul, nI_add]; exact congrArg nI (by omega)))) rfl ?_
  refine X_iald (nx := 162) (t := 7) (len := n) (f := xs) rfl (scrH F B C Wr E I A hg) (Or.inr rfl) (vp_in_nI (by omega) (by omega)) rfl ?_
  rw [nI_clamp (show i + 2 < 2 ^ 31 by omega)]
  refine X_callV (vs := [.inl ((xs (i + 1))), .inl ((xs (i + 2)))]) (st := []) (mc := 0) (ms := 0) rfl ok_Pl_meet v_La_26 (cH_obj rfl h0) rfl rfl (Nat.le_of_ble_eq_true rfl) (Nat.le_of_ble_eq_true rfl) (Nat.le_of_ble_eq_true rfl) (Nat.le_of_ble_eq_true rfl) (by show c + 0 ≤ 672385; omega) (by show s + 0 ≤ 7085092; omega) rfl ?_
  refine c_Pl_meet hW hI (fun F1 B1 C1 W1 E1 hI1 => ?_)
  show X M_La_law _ _ 165 [some (.inr (some (30, 0))), some (.inr (some (0, 0))), some (.inr (some (10, 0))), some (.inl (nI i))] [.inl ((sMeet σ (xs (i + 1)) (xs (i + 2))).2)] (cH F1 B1 C1 W1 E1 (mH g I A)) (c + 0) (s + 0)
  rw [cH_mH]
  refine X_run 5 (pc' := 170) (L' := [some (.inr (some (30, 0))), some (.inr (some (0, 0))), some (.inr (some (10, 0))), some (.inl (nI i))]) (st' := [.inl ((nI i) + 1), .inr (some (30, 0)), .inr (some (10, 0)), .inl ((sMeet σ (xs (i + 1)) (xs (i + 2))).2)]) rfl ?_
  refine X_eq (st' := [.inl (nI (i + 1)), .inr (some (30, 0)), .inr (some (10, 0)), .inl ((sMeet σ (xs (i + 1)) (xs (i + 2))).2)]) rfl (congrArg (fun zz9 => Sum.inl zz9 :: _) (by first | rfl | exact congrArg nI (by omega) | (simp only [il_0, il_1, il_2, il_3, il_4, il_5, il_6, il_7, il_16, il_20, il_40, il_160, pk_mul, nI_add]; done) | (simp only [il_0, il_1, il_2, il_3, il_4, il_5, il_6, il_7, il_16, il_20, il_40, il_160, pk_mul, nI_add]; exact congrArg nI (by omega)))) rfl ?_
  refine X_iald (nx := 171) (t := 7) (len := n) (f := xs) rfl (scrM F1 B1 C1 W1 E1 I A hg) (Or.inr rfl) (vp_in_nI (by omega) (by omega)) rfl ?_
  rw [nI_clamp (show i + 1 < 2 ^ 31 by omega)]
  refine X_run 4 (pc' := 175) (L' := [some (.inr (some (30, 0))), some (.inr (some (0, 0))), some (.inr (some (10, 0))), some (.inl (nI i))]) (st' := [.inl ((nI i) + 2), .inr (some (30, 0)), .inl ((xs (i + 1))), .inr (some (10, 0)), .inl ((sMeet σ (xs (i + 1)) (xs (i + 2))).2)]) rfl ?_
  refine X_eq (st' := [.inl (nI (i + 2)), .inr (some (30, 0)), .inl ((xs (i + 1))), .inr (some (10, 0)), .inl ((sMeet σ (xs (i + 1)) (xs (i + 2))).2)]) rfl (congrArg (fun zz9 => Sum.inl zz9 :: _) (by first | rfl | exact congrArg nI (by omega) | (simp only [il_0, il_1, il_2, il_3, il_4, il_5, il_6, il_7, il_16, il_20, il_40, il_160, pk_mul, nI_add]; done) | (simp only [il_0, il_1, il_2, il_3, il_4, il_5, il_6, il_7, il_16, il_20, il_40, il_160, pk_mul, nI_add]; exact congrArg nI (by omega)))) rfl ?_
  refine X_iald (nx := 176) (t := 7) (len := n) (f := xs) rfl (scrM F1 B1 C1 W1 E1 I A hg) (Or.inr rfl) (vp_in_nI (by omega) (by omega)) rfl ?_
  rw [nI_clamp (show i + 2 < 2 ^ 31 by omega)]
  refine X_callV (vs := [.inl ((xs (i + 1))), .inl ((xs (i + 2)))]) (st := [.inl ((sMeet σ (xs (i + 1)) (xs (i + 2))).2)]) (mc := 0) (ms := 0) rfl ok_Mo_meet v_La_30 rfl rfl rfl (Nat.le_of_ble_eq_true rfl) (Nat.le_of_ble_eq_true rfl) (Nat.le_of_ble_eq_true rfl) (Nat.le_of_ble_eq_true rfl) (by show c + 0 + 0 ≤ 672385; omega) (by show s + 0 + 0 ≤ 7085092; omega) rfl ?_
  refine c_Mo_meet hM (fun d f e => (hW.1.p12 d f e).1) (fun A1 hM1 => ?_)
  show X M_La_law _ _ 179 [some (.inr (some (30, 0))), some (.inr (some (0, 0))), some (.inr (some (10, 0))), some (.inl (nI i))] [.inl ((sMeet σ (xs (i + 1)) (xs (i + 2))).2), .inl ((sMeet σ (xs (i + 1)) (xs (i + 2))).2)] (mH (cH F1 B1 C1 W1 E1 g) I A1) (c + 0) (s + 0)
  rw [← cH_mH]
  refine X_ic_eq (tgt := 742) (nx := 182) rfl rfl rfl (fun q => ?_) (fun q => ?_)
  · exact X_widen (by omega) (by omega) (kk _ _ _ _ _ _ _ _ (W2_meet hW (xs (i + 1)) (xs (i + 2))) hI1 hM1)
  · exact absurd rfl q
set_option maxRecDepth 100000 in
theorem law_2 (hg : g (30, 0) = some (.inl (7, n, xs))) (hn : n ≤ 2561) (hi : i + 5 ≤ n) (hc : c + 802 ≤ 672385) (hs : s + 4652 ≤ 7085092) (hW : W2 σ) (hI : CI σ F B C E) (hM : MB σ I A) (kk : KK g i c s) : X M_La_law room_1 Zl 184 [some (.inr (some (30, 0))), some (.inr (some (0, 0))), some (.inr (some (10, 0))), some (.inl (nI i))] [] (cH F B C Wr E (mH g I A)) c s := by
  obtain ⟨see0, hCD⟩ := id hI
  have h0 := hCD.1.1
  refine X_run 5 (pc' := 189) (L' := [some (.inr (some (30, 0))), some (.inr (some (0, 0))), some (.inr (some (10, 0))), some (.inl (nI i))]) (st' := [.inl ((nI i) + 1), .inr (some (30, 0)), .inr (some (0, 0))]) rfl ?_
  refine X_eq (st' := [.inl (nI (i + 1)), .inr (some (30, 0)), .inr (some (0, 0))]) rfl (congrArg (fun zz9 => Sum.inl zz9 :: _) (by first | rfl | exact congrArg nI (by omega) | (simp only [il_0, il_1, il_2, il_3, il_4, il_5, il_6, il_7, il_16, il_20, il_40, il_160, pk_mul, nI_add]; done) | (simp only [il_0, il_1, il_2, il_3, il_4, il_5, il_6, il_7, il_16, il_20, il_40, il_160, pk_mul, nI_add]; exact congrArg nI (by omega)))) rfl ?_
  refine X_iald (nx := 190) (t := 7) (len := n) (f := xs) rfl (scrH F B C Wr E I A hg) (Or.inr rfl) (vp_in_nI (by omega) (by omega)) rfl ?_
  rw [nI_clamp (show i + 1 < 2 ^ 31 by omega)]
  refine X_run 4 (pc' := 194) (L' := [some (.inr (some (30, 0))), some (.inr (some (0, 0))), some (.inr (some (10, 0))), some (.inl (nI i))]) (st' := [.inl ((nI i) + 2), .inr (some (30, 0)), .inl ((xs (i + 1))), .inr (some (0, 0))]) rfl ?_
  refine X_eq (st' := [.inl (nI (i + 2)), .inr (some (30, 0)), .inl ((xs (i + 1))), .inr (some (0, 0))]) rfl (congrArg (fun zz9 => Sum.inl zz9 :: _) (by first | rfl | exact congrArg nI (by omega) | (simp only [il_0, il_1, il_2, il_3, il_4, il_5, il_6, il_7, il_16, il_20, il_40, il_160, pk_mul, nI_add]; done) | (simp only [il_0, il_1, il_2, il_3, il_4, il_5, il_6, il_7, il_16, il_20, il_40, il_160, pk_mul, nI_add]; exact congrArg nI (by omega)))) rfl ?_
  refine X_iald (nx := 195) (t := 7) (len := n) (f := xs) rfl (scrH F B C Wr E I A hg) (Or.inr rfl) (vp_in_nI (by omega) (by omega)) rfl ?_
  rw [nI_clamp (show i + 2 < 2 ^ 31 by omega)]
  refine X_run 4 (pc' := 199) (L' := [some (.inr (some (30, 0))), some (.inr (some (0, 0))), some (.inr (some (10, 0))), some (.inl (nI i))]) (st' := [.inl ((nI i) + 3), .inr (some (30, 0)), .inl ((xs (i + 2))), .inl ((xs (i + 1))), .inr (some (0, 0))]) rfl ?_
  refine X_eq (st' := [.inl (nI (i + 3)), .inr (some (30, 0)), .inl ((xs (i + 2))), .inl ((xs (i + 1))), .inr (some (0, 0))]) rfl (congrArg (fun zz9 => Sum.inl zz9 :: _) (by first | rfl | exact congrArg nI (by omega) | (simp only [il_0, il_1, il_2, il_3, il_4, il_5, il_6, il_7, il_16, il_20, il_40, il_160, pk_mul, nI_add]; done) | (simp only [il_0, il_1, il_2, il_3, il_4, il_5, il_6, il_7, il_16, il_20, il_40, il_160, pk_mul, nI_add]; exact congrArg nI (by omega)))) rfl ?_
  refine X_iald (nx := 200) (t := 7) (len := n) (f := xs) rfl (scrH F B C Wr E I A hg) (Or.inr rfl) (vp_in_nI (by omega) (by omega)) rfl ?_
  rw [nI_clamp (show i + 3 < 2 ^ 31 by omega)]
  refine X_callV (vs := [.inl ((xs (i + 1))), .inl ((xs (i + 2))), .inl ((xs (i + 3)))]) (st := []) (mc := 2) (ms := 12) rfl ok_Pl_put v_La_31 (cH_obj rfl h0) rfl rfl (Nat.le_of_ble_eq_true rfl) (Nat.le_of_ble_eq_true rfl) (Nat.le_of_ble_eq_true rfl) (Nat.le_of_ble_eq_true rfl) (by show c + 2 ≤ 672385; omega) (by show s + 12 ≤ 7085092; omega) rfl ?_
  refine c_Pl_put hW hI (fun F1 B1 C1 W1 E1 hI1 => ?_)
  show X M_La_law _ _ 203 [some (.inr (some (30, 0))), some (.inr (some (0, 0))), some (.inr (some (10, 0))), some (.inl (nI i))] [.inl ((sPut σ (xs (i + 1)) (xs (i + 2)) (xs (i + 3))).2)] (cH F1 B1 C1 W1 E1 (mH g I A)) (c + 2) (s + 12)
  rw [cH_mH]
  refine X_run 5 (pc' := 208) (L' := [some (.inr (some (30, 0))), some (.inr (some (0, 0))), some (.inr (some (10, 0))), some (.inl (nI i))]) (st' := [.inl ((nI i) + 1), .inr (some (30, 0)), .inr (some (10, 0)), .inl ((sPut σ (xs (i + 1)) (xs (i + 2)) (xs (i + 3))).2)]) rfl ?_
  refine X_eq (st' := [.inl (nI (i + 1)), .inr (some (30, 0)), .inr (some (10, 0)), .inl ((sPut σ (xs (i + 1)) (xs (i + 2)) (xs (i + 3))).2)]) rfl (congrArg (fun zz9 => Sum.inl zz9 :: _) (by first | rfl | exact congrArg nI (by omega) | (simp only [il_0, il_1, il_2, il_3, il_4, il_5, il_6, il_7, il_16, il_20, il_40, il_160, pk_mul, nI_add]; done) | (simp only [il_0, il_1, il_2, il_3, il_4, il_5, il_6, il_7, il_16, il_20, il_40, il_160, pk_mul, nI_add]; exact congrArg nI (by omega)))) rfl ?_
  refine X_iald (nx := 209) (t := 7) (len := n) (f := xs) rfl (scrM F1 B1 C1 W1 E1 I A hg) (Or.inr rfl) (vp_in_nI (by omega) (by omega)) rfl ?_
  rw [nI_clamp (show i + 1 < 2 ^ 31 by omega)]
  refine X_run 4 (pc' := 213) (L' := [some (.inr (some (30, 0))), some (.inr (some (0, 0))), some (.inr (some (10, 0))), some (.inl (nI i))]) (st' := [.inl ((nI i) + 2), .inr (some (30, 0)), .inl ((xs (i + 1))), .inr (some (10, 0)), .inl ((sPut σ (xs (i + 1)) (xs (i + 2)) (xs (i + 3))).2)]) rfl ?_
  refine X_eq (st' := [.inl (nI (i + 2)), .inr (some (30, 0)), .inl ((xs (i + 1))), .inr (some (10, 0)), .inl ((sPut σ (xs (i + 1)) (xs (i + 2)) (xs (i + 3))).2)]) rfl (congrArg (fun zz9 => Sum.inl zz9 :: _) (by first | rfl | exact congrArg nI (by omega) | (simp only [il_0, il_1, il_2, il_3, il_4, il_5, il_6, il_7, il_16, il_20, il_40, il_160, pk_mul, nI_add]; done) | (simp only [il_0, il_1, il_2, il_3, il_4, il_5, il_6, il_7, il_16, il_20, il_40, il_160, pk_mul, nI_add]; exact congrArg nI (by omega)))) rfl ?_
  refine X_iald (nx := 214) (t := 7) (len := n) (f := xs) rfl (scrM F1 B1 C1 W1 E1 I A hg) (Or.inr rfl) (vp_in_nI (by omega) (by omega)) rfl ?_
  rw [nI_clamp (show i + 2 < 2 ^ 31 by omega)]
  refine X_run 4 (pc' := 218) (L' := [some (.inr (some (30, 0))), some (.inr (some (0, 0))), some (.inr (some (10, 0))), some (.inl (nI i))]) (st' := [.inl ((nI i) + 3), .inr (some (30, 0)), .inl ((xs (i + 2))), .inl ((xs (i + 1))), .inr (some (10, 0)), .inl ((sPut σ (xs (i + 1)) (xs (i + 2)) (xs (i + 3))).2)]) rfl ?_
  refine X_eq (st' := [.inl (nI (i + 3)), .inr (some (30, 0)), .inl ((xs (i + 2))), .inl ((xs (i + 1))), .inr (some (10, 0)), .inl ((sPut σ (xs (i + 1)) (xs (i + 2)) (xs (i + 3))).2)]) rfl (congrArg (fun zz9 => Sum.inl zz9 :: _) (by first | rfl | exact congrArg nI (by omega) | (simp only [il_0, il_1, il_2, il_3, il_4, il_5, il_6, il_7, il_16, il_20, il_40, il_160, pk_mul, nI_add]; done) | (simp only [il_0, il_1, il_2, il_3, il_4, il_5, il_6, il_7, il_16, il_20, il_40, il_160, pk_mul, nI_add]; exact congrArg nI (by omega)))) rfl ?_
  refine X_iald (nx := 219) (t := 7) (len := n) (f := xs) rfl (scrM F1 B1 C1 W1 E1 I A hg) (Or.inr rfl) (vp_in_nI (by omega) (by omega)) rfl ?_
  rw [nI_clamp (show i + 3 < 2 ^ 31 by omega)]
  refine X_callV (vs := [.inl ((xs (i + 1))), .inl ((xs (i + 2))), .inl ((xs (i + 3)))]) (st := [.inl ((sPut σ (xs (i + 1)) (xs (i + 2)) (xs (i + 3))).2)]) (mc := 0) (ms := 0) rfl ok_Mo_put v_La_35 rfl rfl rfl (Nat.le_of_ble_eq_true rfl) (Nat.le_of_ble_eq_true rfl) (Nat.le_of_ble_eq_true rfl) (Nat.le_of_ble_eq_true rfl) (by show c + 2 + 0 ≤ 672385; omega) (by show s + 12 + 0 ≤ 7085092; omega) rfl ?_
  refine c_Mo_put hM hW.1 (fun I1 A1 hM1 => ?_)
  show X M_La_law _ _ 222 [some (.inr (some (30, 0))), some (.inr (some (0, 0))), some (.inr (some (10, 0))), some (.inl (nI i))] [.inl ((sPut σ (xs (i + 1)) (xs (i + 2)) (xs (i + 3))).2), .inl ((sPut σ (xs (i + 1)) (xs (i + 2)) (xs (i + 3))).2)] (mH (cH F1 B1 C1 W1 E1 g) I1 A1) (c + 2) (s + 12)
  rw [← cH_mH]
  refine X_ic_eq (tgt := 742) (nx := 225) rfl rfl rfl (fun q => ?_) (fun q => ?_)
  · exact X_widen (by omega) (by omega) (kk _ _ _ _ _ _ _ _ (W2_put hW (xs (i + 1)) (xs (i + 2)) (xs (i + 3))) hI1 hM1)
  · exact absurd rfl q
set_option maxRecDepth 100000 in
theorem law_3 (hg : g (30, 0) = some (.inl (7, n, xs))) (hn : n ≤ 2561) (hi : i + 5 ≤ n) (hc : c + 802 ≤ 672385) (hs : s + 4652 ≤ 7085092) (hW : W2 σ) (hI : CI σ F B C E) (hM : MB σ I A) (kk : KK g i c s) : X M_La_law room_1 Zl 227 [some (.inr (some (30, 0))), some (.inr (some (0, 0))), some (.inr (some (10, 0))), some (.inl (nI i))] [] (cH F B C Wr E (mH g I A)) c s := by
  obtain ⟨see0, hCD⟩ := id hI
  have h0 := hCD.1.1
  refine X_run 5 (pc' := 232) (L' := [some (.inr (some (30, 0))), some (.inr (some (0, 0))), some (.inr (some (10, 0))), some (.inl (nI i))]) (st' := [.inl ((nI i) + 1), .inr (some (30, 0)), .inr (some (0, 0))]) rfl ?_
  refine X_eq (st' := [.inl (nI (i + 1)), .inr (some (30, 0)), .inr (some (0, 0))]) rfl (congrArg (fun zz9 => Sum.inl zz9 :: _) (by first | rfl | exact congrArg nI (by omega) | (simp only [il_0, il_1, il_2, il_3, il_4, il_5, il_6, il_7, il_16, il_20, il_40, il_160, pk_mul, nI_add]; done) | (simp only [il_0, il_1, il_2, il_3, il_4, il_5, il_6, il_7, il_16, il_20, il_40, il_160, pk_mul, nI_add]; exact congrArg nI (by omega)))) rfl ?_
  refine X_iald (nx := 233) (t := 7) (len := n) (f := xs) rfl (scrH F B C Wr E I A hg) (Or.inr rfl) (vp_in_nI (by omega) (by omega)) rfl ?_
  rw [nI_clamp (show i + 1 < 2 ^ 31 by omega)]
  refine X_run 4 (pc' := 237) (L' := [some (.inr (some (30, 0))), some (.inr (some (0, 0))), some (.inr (some (10, 0))), some (.inl (nI i))]) (st' := [.inl ((nI i) + 2), .inr (some (30, 0)), .inl ((xs (i + 1))), .inr (some (0, 0))]) rfl ?_
  refine X_eq (st' := [.inl (nI (i + 2)), .inr (some (30, 0)), .inl ((xs (i + 1))), .inr (some (0, 0))]) rfl (congrArg (fun zz9 => Sum.inl zz9 :: _) (by first | rfl | exact congrArg nI (by omega) | (simp only [il_0, il_1, il_2, il_3, il_4, il_5, il_6, il_7, il_16, il_20, il_40, il_160, pk_mul, nI_add]; done) | (simp only [il_0, il_1, il_2, il_3, il_4, il_5, il_6, il_7, il_16, il_20, il_40, il_160, pk_mul, nI_add]; exact congrArg nI (by omega)))) rfl ?_
  refine X_iald (nx := 238) (t := 7) (len := n) (f := xs) rfl (scrH F B C Wr E I A hg) (Or.inr rfl) (vp_in_nI (by omega) (by omega)) rfl ?_
  rw [nI_clamp (show i + 2 < 2 ^ 31 by omega)]
  refine X_run 4 (pc' := 242) (L' := [some (.inr (some (30, 0))), some (.inr (some (0, 0))), some (.inr (some (10, 0))), some (.inl (nI i))]) (st' := [.inl ((nI i) + 3), .inr (some (30, 0)), .inl ((xs (i + 2))), .inl ((xs (i + 1))), .inr (some (0, 0))]) rfl ?_
  refine X_eq (st' := [.inl (nI (i + 3)), .inr (some (30, 0)), .inl ((xs (i + 2))), .inl ((xs (i + 1))), .inr (some (0, 0))]) rfl (congrArg (fun zz9 => Sum.inl zz9 :: _) (by first | rfl | exact congrArg nI (by omega) | (simp only [il_0, il_1, il_2, il_3, il_4, il_5, il_6, il_7, il_16, il_20, il_40, il_160, pk_mul, nI_add]; done) | (simp only [il_0, il_1, il_2, il_3, il_4, il_5, il_6, il_7, il_16, il_20, il_40, il_160, pk_mul, nI_add]; exact congrArg nI (by omega)))) rfl ?_
  refine X_iald (nx := 243) (t := 7) (len := n) (f := xs) rfl (scrH F B C Wr E I A hg) (Or.inr rfl) (vp_in_nI (by omega) (by omega)) rfl ?_
  rw [nI_clamp (show i + 3 < 2 ^ 31 by omega)]
  refine X_callV (vs := [.inl ((xs (i + 1))), .inl ((xs (i + 2))), .inl ((xs (i + 3)))]) (st := []) (mc := 802) (ms := 4652) rfl ok_Pl_count v_La_36 (cH_obj rfl h0) rfl rfl (Nat.le_of_ble_eq_true rfl) (Nat.le_of_ble_eq_true rfl) (Nat.le_of_ble_eq_true rfl) (Nat.le_of_ble_eq_true rfl) (by show c + 802 ≤ 672385; omega) (by show s + 4652 ≤ 7085092; omega) rfl ?_
  refine c_Pl_count hW hI (fun F1 B1 C1 W1 E1 hI1 => ?_)
  show X M_La_law _ _ 246 [some (.inr (some (30, 0))), some (.inr (some (0, 0))), some (.inr (some (10, 0))), some (.inl (nI i))] [.inl ((sOn σ (xs (i + 1)) (xs (i + 2)) 1 false (xs (i + 3)) (decide (-99 ≤ (xs (i + 3)).toInt ∧ (xs (i + 3)).toInt ≤ 99) && decide ((xs (i + 3)) ≠ 0))).2)] (cH F1 B1 C1 W1 E1 (mH g I A)) (c + 802) (s + 4652)
  rw [cH_mH]
  refine X_run 5 (pc' := 251) (L' := [some (.inr (some (30, 0))), some (.inr (some (0, 0))), some (.inr (some (10, 0))), some (.inl (nI i))]) (st' := [.inl ((nI i) + 1), .inr (some (30, 0)), .inr (some (10, 0)), .inl ((sOn σ (xs (i + 1)) (xs (i + 2)) 1 false (xs (i + 3)) (decide (-99 ≤ (xs (i + 3)).toInt ∧ (xs (i + 3)).toInt ≤ 99) && decide ((xs (i + 3)) ≠ 0))).2)]) rfl ?_
  refine X_eq (st' := [.inl (nI (i + 1)), .inr (some (30, 0)), .inr (some (10, 0)), .inl ((sOn σ (xs (i + 1)) (xs (i + 2)) 1 false (xs (i + 3)) (decide (-99 ≤ (xs (i + 3)).toInt ∧ (xs (i + 3)).toInt ≤ 99) && decide ((xs (i + 3)) ≠ 0))).2)]) rfl (congrArg (fun zz9 => Sum.inl zz9 :: _) (by first | rfl | exact congrArg nI (by omega) | (simp only [il_0, il_1, il_2, il_3, il_4, il_5, il_6, il_7, il_16, il_20, il_40, il_160, pk_mul, nI_add]; done) | (simp only [il_0, il_1, il_2, il_3, il_4, il_5, il_6, il_7, il_16, il_20, il_40, il_160, pk_mul, nI_add]; exact congrArg nI (by omega)))) rfl ?_
  refine X_iald (nx := 252) (t := 7) (len := n) (f := xs) rfl (scrM F1 B1 C1 W1 E1 I A hg) (Or.inr rfl) (vp_in_nI (by omega) (by omega)) rfl ?_
  rw [nI_clamp (show i + 1 < 2 ^ 31 by omega)]
  refine X_run 4 (pc' := 256) (L' := [some (.inr (some (30, 0))), some (.inr (some (0, 0))), some (.inr (some (10, 0))), some (.inl (nI i))]) (st' := [.inl ((nI i) + 2), .inr (some (30, 0)), .inl ((xs (i + 1))), .inr (some (10, 0)), .inl ((sOn σ (xs (i + 1)) (xs (i + 2)) 1 false (xs (i + 3)) (decide (-99 ≤ (xs (i + 3)).toInt ∧ (xs (i + 3)).toInt ≤ 99) && decide ((xs (i + 3)) ≠ 0))).2)]) rfl ?_
  refine X_eq (st' := [.inl (nI (i + 2)), .inr (some (30, 0)), .inl ((xs (i + 1))), .inr (some (10, 0)), .inl ((sOn σ (xs (i + 1)) (xs (i + 2)) 1 false (xs (i + 3)) (decide (-99 ≤ (xs (i + 3)).toInt ∧ (xs (i + 3)).toInt ≤ 99) && decide ((xs (i + 3)) ≠ 0))).2)]) rfl (congrArg (fun zz9 => Sum.inl zz9 :: _) (by first | rfl | exact congrArg nI (by omega) | (simp only [il_0, il_1, il_2, il_3, il_4, il_5, il_6, il_7, il_16, il_20, il_40, il_160, pk_mul, nI_add]; done) | (simp only [il_0, il_1, il_2, il_3, il_4, il_5, il_6, il_7, il_16, il_20, il_40, il_160, pk_mul, nI_add]; exact congrArg nI (by omega)))) rfl ?_
  refine X_iald (nx := 257) (t := 7) (len := n) (f := xs) rfl (scrM F1 B1 C1 W1 E1 I A hg) (Or.inr rfl) (vp_in_nI (by omega) (by omega)) rfl ?_
  rw [nI_clamp (show i + 2 < 2 ^ 31 by omega)]
  refine X_run 4 (pc' := 261) (L' := [some (.inr (some (30, 0))), some (.inr (some (0, 0))), some (.inr (some (10, 0))), some (.inl (nI i))]) (st' := [.inl ((nI i) + 3), .inr (some (30, 0)), .inl ((xs (i + 2))), .inl ((xs (i + 1))), .inr (some (10, 0)), .inl ((sOn σ (xs (i + 1)) (xs (i + 2)) 1 false (xs (i + 3)) (decide (-99 ≤ (xs (i + 3)).toInt ∧ (xs (i + 3)).toInt ≤ 99) && decide ((xs (i + 3)) ≠ 0))).2)]) rfl ?_
  refine X_eq (st' := [.inl (nI (i + 3)), .inr (some (30, 0)), .inl ((xs (i + 2))), .inl ((xs (i + 1))), .inr (some (10, 0)), .inl ((sOn σ (xs (i + 1)) (xs (i + 2)) 1 false (xs (i + 3)) (decide (-99 ≤ (xs (i + 3)).toInt ∧ (xs (i + 3)).toInt ≤ 99) && decide ((xs (i + 3)) ≠ 0))).2)]) rfl (congrArg (fun zz9 => Sum.inl zz9 :: _) (by first | rfl | exact congrArg nI (by omega) | (simp only [il_0, il_1, il_2, il_3, il_4, il_5, il_6, il_7, il_16, il_20, il_40, il_160, pk_mul, nI_add]; done) | (simp only [il_0, il_1, il_2, il_3, il_4, il_5, il_6, il_7, il_16, il_20, il_40, il_160, pk_mul, nI_add]; exact congrArg nI (by omega)))) rfl ?_
  refine X_iald (nx := 262) (t := 7) (len := n) (f := xs) rfl (scrM F1 B1 C1 W1 E1 I A hg) (Or.inr rfl) (vp_in_nI (by omega) (by omega)) rfl ?_
  rw [nI_clamp (show i + 3 < 2 ^ 31 by omega)]
  refine X_callV (vs := [.inl ((xs (i + 1))), .inl ((xs (i + 2))), .inl ((xs (i + 3)))]) (st := [.inl ((sOn σ (xs (i + 1)) (xs (i + 2)) 1 false (xs (i + 3)) (decide (-99 ≤ (xs (i + 3)).toInt ∧ (xs (i + 3)).toInt ≤ 99) && decide ((xs (i + 3)) ≠ 0))).2)]) (mc := 0) (ms := 0) rfl ok_Mo_count v_La_40 rfl rfl rfl (Nat.le_of_ble_eq_true rfl) (Nat.le_of_ble_eq_true rfl) (Nat.le_of_ble_eq_true rfl) (Nat.le_of_ble_eq_true rfl) (by show c + 802 + 0 ≤ 672385; omega) (by show s + 4652 + 0 ≤ 7085092; omega) rfl ?_
  refine c_Mo_count hM hW.1 (fun I1 A1 hM1 => ?_)
  show X M_La_law _ _ 265 [some (.inr (some (30, 0))), some (.inr (some (0, 0))), some (.inr (some (10, 0))), some (.inl (nI i))] [.inl ((sOn σ (xs (i + 1)) (xs (i + 2)) 1 false (xs (i + 3)) (decide (-99 ≤ (xs (i + 3)).toInt ∧ (xs (i + 3)).toInt ≤ 99) && decide ((xs (i + 3)) ≠ 0))).2), .inl ((sOn σ (xs (i + 1)) (xs (i + 2)) 1 false (xs (i + 3)) (decide (-99 ≤ (xs (i + 3)).toInt ∧ (xs (i + 3)).toInt ≤ 99) && decide ((xs (i + 3)) ≠ 0))).2)] (mH (cH F1 B1 C1 W1 E1 g) I1 A1) (c + 802) (s + 4652)
  rw [← cH_mH]
  refine X_ic_eq (tgt := 742) (nx := 268) rfl rfl rfl (fun q => ?_) (fun q => ?_)
  · exact X_widen (by omega) (by omega) (kk _ _ _ _ _ _ _ _ (W2_on hW (by omega) (fun z _ => by omega) (fun z _ => by omega) (fun z _ => by omega)) hI1 hM1)
  · exact absurd rfl q
set_option maxRecDepth 100000 in
theorem law_4 (hg : g (30, 0) = some (.inl (7, n, xs))) (hn : n ≤ 2561) (hi : i + 5 ≤ n) (hc : c + 802 ≤ 672385) (hs : s + 4652 ≤ 7085092) (hW : W2 σ) (hI : CI σ F B C E) (hM : MB σ I A) (kk : KK g i c s) : X M_La_law room_1 Zl 270 [some (.inr (some (30, 0))), some (.inr (some (0, 0))), some (.inr (some (10, 0))), some (.inl (nI i))] [] (cH F B C Wr E (mH g I A)) c s := by
  obtain ⟨see0, hCD⟩ := id hI
  have h0 := hCD.1.1
  refine X_run 5 (pc' := 275) (L' := [some (.inr (some (30, 0))), some (.inr (some (0, 0))), some (.inr (some (10, 0))), some (.inl (nI i))]) (st' := [.inl ((nI i) + 1), .inr (some (30, 0)), .inr (some (0, 0))]) rfl ?_
  refine X_eq (st' := [.inl (nI (i + 1)), .inr (some (30, 0)), .inr (some (0, 0))]) rfl (congrArg (fun zz9 => Sum.inl zz9 :: _) (by first | rfl | exact congrArg nI (by omega) | (simp only [il_0, il_1, il_2, il_3, il_4, il_5, il_6, il_7, il_16, il_20, il_40, il_160, pk_mul, nI_add]; done) | (simp only [il_0, il_1, il_2, il_3, il_4, il_5, il_6, il_7, il_16, il_20, il_40, il_160, pk_mul, nI_add]; exact congrArg nI (by omega)))) rfl ?_
  refine X_iald (nx := 276) (t := 7) (len := n) (f := xs) rfl (scrH F B C Wr E I A hg) (Or.inr rfl) (vp_in_nI (by omega) (by omega)) rfl ?_
  rw [nI_clamp (show i + 1 < 2 ^ 31 by omega)]
  refine X_run 4 (pc' := 280) (L' := [some (.inr (some (30, 0))), some (.inr (some (0, 0))), some (.inr (some (10, 0))), some (.inl (nI i))]) (st' := [.inl ((nI i) + 2), .inr (some (30, 0)), .inl ((xs (i + 1))), .inr (some (0, 0))]) rfl ?_
  refine X_eq (st' := [.inl (nI (i + 2)), .inr (some (30, 0)), .inl ((xs (i + 1))), .inr (some (0, 0))]) rfl (congrArg (fun zz9 => Sum.inl zz9 :: _) (by first | rfl | exact congrArg nI (by omega) | (simp only [il_0, il_1, il_2, il_3, il_4, il_5, il_6, il_7, il_16, il_20, il_40, il_160, pk_mul, nI_add]; done) | (simp only [il_0, il_1, il_2, il_3, il_4, il_5, il_6, il_7, il_16, il_20, il_40, il_160, pk_mul, nI_add]; exact congrArg nI (by omega)))) rfl ?_
  refine X_iald (nx := 281) (t := 7) (len := n) (f := xs) rfl (scrH F B C Wr E I A hg) (Or.inr rfl) (vp_in_nI (by omega) (by omega)) rfl ?_
  rw [nI_clamp (show i + 2 < 2 ^ 31 by omega)]
  refine X_run 4 (pc' := 285) (L' := [some (.inr (some (30, 0))), some (.inr (some (0, 0))), some (.inr (some (10, 0))), some (.inl (nI i))]) (st' := [.inl ((nI i) + 3), .inr (some (30, 0)), .inl ((xs (i + 2))), .inl ((xs (i + 1))), .inr (some (0, 0))]) rfl ?_
  refine X_eq (st' := [.inl (nI (i + 3)), .inr (some (30, 0)), .inl ((xs (i + 2))), .inl ((xs (i + 1))), .inr (some (0, 0))]) rfl (congrArg (fun zz9 => Sum.inl zz9 :: _) (by first | rfl | exact congrArg nI (by omega) | (simp only [il_0, il_1, il_2, il_3, il_4, il_5, il_6, il_7, il_16, il_20, il_40, il_160, pk_mul, nI_add]; done) | (simp only [il_0, il_1, il_2, il_3, il_4, il_5, il_6, il_7, il_16, il_20, il_40, il_160, pk_mul, nI_add]; exact congrArg nI (by omega)))) rfl ?_
  refine X_iald (nx := 286) (t := 7) (len := n) (f := xs) rfl (scrH F B C Wr E I A hg) (Or.inr rfl) (vp_in_nI (by omega) (by omega)) rfl ?_
  rw [nI_clamp (show i + 3 < 2 ^ 31 by omega)]
  refine X_callV (vs := [.inl ((xs (i + 1))), .inl ((xs (i + 2))), .inl ((xs (i + 3)))]) (st := []) (mc := 802) (ms := 4652) rfl ok_Pl_buy v_La_41 (cH_obj rfl h0) rfl rfl (Nat.le_of_ble_eq_true rfl) (Nat.le_of_ble_eq_true rfl) (Nat.le_of_ble_eq_true rfl) (Nat.le_of_ble_eq_true rfl) (by show c + 802 ≤ 672385; omega) (by show s + 4652 ≤ 7085092; omega) rfl ?_
  refine c_Pl_buy hW hI (fun F1 B1 C1 W1 E1 hI1 => ?_)
  show X M_La_law _ _ 289 [some (.inr (some (30, 0))), some (.inr (some (0, 0))), some (.inr (some (10, 0))), some (.inl (nI i))] [.inl ((sOn σ (xs (i + 1)) (xs (i + 2)) 2 false (xs (i + 3)) (decide (1 ≤ (xs (i + 3)).toInt ∧ (xs (i + 3)).toInt ≤ 99))).2)] (cH F1 B1 C1 W1 E1 (mH g I A)) (c + 802) (s + 4652)
  rw [cH_mH]
  refine X_run 5 (pc' := 294) (L' := [some (.inr (some (30, 0))), some (.inr (some (0, 0))), some (.inr (some (10, 0))), some (.inl (nI i))]) (st' := [.inl ((nI i) + 1), .inr (some (30, 0)), .inr (some (10, 0)), .inl ((sOn σ (xs (i + 1)) (xs (i + 2)) 2 false (xs (i + 3)) (decide (1 ≤ (xs (i + 3)).toInt ∧ (xs (i + 3)).toInt ≤ 99))).2)]) rfl ?_
  refine X_eq (st' := [.inl (nI (i + 1)), .inr (some (30, 0)), .inr (some (10, 0)), .inl ((sOn σ (xs (i + 1)) (xs (i + 2)) 2 false (xs (i + 3)) (decide (1 ≤ (xs (i + 3)).toInt ∧ (xs (i + 3)).toInt ≤ 99))).2)]) rfl (congrArg (fun zz9 => Sum.inl zz9 :: _) (by first | rfl | exact congrArg nI (by omega) | (simp only [il_0, il_1, il_2, il_3, il_4, il_5, il_6, il_7, il_16, il_20, il_40, il_160, pk_mul, nI_add]; done) | (simp only [il_0, il_1, il_2, il_3, il_4, il_5, il_6, il_7, il_16, il_20, il_40, il_160, pk_mul, nI_add]; exact congrArg nI (by omega)))) rfl ?_
  refine X_iald (nx := 295) (t := 7) (len := n) (f := xs) rfl (scrM F1 B1 C1 W1 E1 I A hg) (Or.inr rfl) (vp_in_nI (by omega) (by omega)) rfl ?_
  rw [nI_clamp (show i + 1 < 2 ^ 31 by omega)]
  refine X_run 4 (pc' := 299) (L' := [some (.inr (some (30, 0))), some (.inr (some (0, 0))), some (.inr (some (10, 0))), some (.inl (nI i))]) (st' := [.inl ((nI i) + 2), .inr (some (30, 0)), .inl ((xs (i + 1))), .inr (some (10, 0)), .inl ((sOn σ (xs (i + 1)) (xs (i + 2)) 2 false (xs (i + 3)) (decide (1 ≤ (xs (i + 3)).toInt ∧ (xs (i + 3)).toInt ≤ 99))).2)]) rfl ?_
  refine X_eq (st' := [.inl (nI (i + 2)), .inr (some (30, 0)), .inl ((xs (i + 1))), .inr (some (10, 0)), .inl ((sOn σ (xs (i + 1)) (xs (i + 2)) 2 false (xs (i + 3)) (decide (1 ≤ (xs (i + 3)).toInt ∧ (xs (i + 3)).toInt ≤ 99))).2)]) rfl (congrArg (fun zz9 => Sum.inl zz9 :: _) (by first | rfl | exact congrArg nI (by omega) | (simp only [il_0, il_1, il_2, il_3, il_4, il_5, il_6, il_7, il_16, il_20, il_40, il_160, pk_mul, nI_add]; done) | (simp only [il_0, il_1, il_2, il_3, il_4, il_5, il_6, il_7, il_16, il_20, il_40, il_160, pk_mul, nI_add]; exact congrArg nI (by omega)))) rfl ?_
  refine X_iald (nx := 300) (t := 7) (len := n) (f := xs) rfl (scrM F1 B1 C1 W1 E1 I A hg) (Or.inr rfl) (vp_in_nI (by omega) (by omega)) rfl ?_
  rw [nI_clamp (show i + 2 < 2 ^ 31 by omega)]
  refine X_run 4 (pc' := 304) (L' := [some (.inr (some (30, 0))), some (.inr (some (0, 0))), some (.inr (some (10, 0))), some (.inl (nI i))]) (st' := [.inl ((nI i) + 3), .inr (some (30, 0)), .inl ((xs (i + 2))), .inl ((xs (i + 1))), .inr (some (10, 0)), .inl ((sOn σ (xs (i + 1)) (xs (i + 2)) 2 false (xs (i + 3)) (decide (1 ≤ (xs (i + 3)).toInt ∧ (xs (i + 3)).toInt ≤ 99))).2)]) rfl ?_
  refine X_eq (st' := [.inl (nI (i + 3)), .inr (some (30, 0)), .inl ((xs (i + 2))), .inl ((xs (i + 1))), .inr (some (10, 0)), .inl ((sOn σ (xs (i + 1)) (xs (i + 2)) 2 false (xs (i + 3)) (decide (1 ≤ (xs (i + 3)).toInt ∧ (xs (i + 3)).toInt ≤ 99))).2)]) rfl (congrArg (fun zz9 => Sum.inl zz9 :: _) (by first | rfl | exact congrArg nI (by omega) | (simp only [il_0, il_1, il_2, il_3, il_4, il_5, il_6, il_7, il_16, il_20, il_40, il_160, pk_mul, nI_add]; done) | (simp only [il_0, il_1, il_2, il_3, il_4, il_5, il_6, il_7, il_16, il_20, il_40, il_160, pk_mul, nI_add]; exact congrArg nI (by omega)))) rfl ?_
  refine X_iald (nx := 305) (t := 7) (len := n) (f := xs) rfl (scrM F1 B1 C1 W1 E1 I A hg) (Or.inr rfl) (vp_in_nI (by omega) (by omega)) rfl ?_
  rw [nI_clamp (show i + 3 < 2 ^ 31 by omega)]
  refine X_callV (vs := [.inl ((xs (i + 1))), .inl ((xs (i + 2))), .inl ((xs (i + 3)))]) (st := [.inl ((sOn σ (xs (i + 1)) (xs (i + 2)) 2 false (xs (i + 3)) (decide (1 ≤ (xs (i + 3)).toInt ∧ (xs (i + 3)).toInt ≤ 99))).2)]) (mc := 0) (ms := 0) rfl ok_Mo_buy v_La_44 rfl rfl rfl (Nat.le_of_ble_eq_true rfl) (Nat.le_of_ble_eq_true rfl) (Nat.le_of_ble_eq_true rfl) (Nat.le_of_ble_eq_true rfl) (by show c + 802 + 0 ≤ 672385; omega) (by show s + 4652 + 0 ≤ 7085092; omega) rfl ?_
  refine c_Mo_buy hM hW.1 (fun I1 A1 hM1 => ?_)
  show X M_La_law _ _ 308 [some (.inr (some (30, 0))), some (.inr (some (0, 0))), some (.inr (some (10, 0))), some (.inl (nI i))] [.inl ((sOn σ (xs (i + 1)) (xs (i + 2)) 2 false (xs (i + 3)) (decide (1 ≤ (xs (i + 3)).toInt ∧ (xs (i + 3)).toInt ≤ 99))).2), .inl ((sOn σ (xs (i + 1)) (xs (i + 2)) 2 false (xs (i + 3)) (decide (1 ≤ (xs (i + 3)).toInt ∧ (xs (i + 3)).toInt ≤ 99))).2)] (mH (cH F1 B1 C1 W1 E1 g) I1 A1) (c + 802) (s + 4652)
  rw [← cH_mH]
  refine X_ic_eq (tgt := 742) (nx := 311) rfl rfl rfl (fun q => ?_) (fun q => ?_)
  · exact X_widen (by omega) (by omega) (kk _ _ _ _ _ _ _ _ (W2_on hW (by omega) (fun z _ => by omega) (fun _ z => of_decide_eq_true z) (fun z _ => by omega)) hI1 hM1)
  · exact absurd rfl q
set_option maxRecDepth 100000 in
theorem law_5 (hg : g (30, 0) = some (.inl (7, n, xs))) (hn : n ≤ 2561) (hi : i + 5 ≤ n) (hc : c + 802 ≤ 672385) (hs : s + 4652 ≤ 7085092) (hW : W2 σ) (hI : CI σ F B C E) (hM : MB σ I A) (kk : KK g i c s) : X M_La_law room_1 Zl 313 [some (.inr (some (30, 0))), some (.inr (some (0, 0))), some (.inr (some (10, 0))), some (.inl (nI i))] [] (cH F B C Wr E (mH g I A)) c s := by
  obtain ⟨see0, hCD⟩ := id hI
  have h0 := hCD.1.1
  refine X_run 5 (pc' := 318) (L' := [some (.inr (some (30, 0))), some (.inr (some (0, 0))), some (.inr (some (10, 0))), some (.inl (nI i))]) (st' := [.inl ((nI i) + 1), .inr (some (30, 0)), .inr (some (0, 0))]) rfl ?_
  refine X_eq (st' := [.inl (nI (i + 1)), .inr (some (30, 0)), .inr (some (0, 0))]) rfl (congrArg (fun zz9 => Sum.inl zz9 :: _) (by first | rfl | exact congrArg nI (by omega) | (simp only [il_0, il_1, il_2, il_3, il_4, il_5, il_6, il_7, il_16, il_20, il_40, il_160, pk_mul, nI_add]; done) | (simp only [il_0, il_1, il_2, il_3, il_4, il_5, il_6, il_7, il_16, il_20, il_40, il_160, pk_mul, nI_add]; exact congrArg nI (by omega)))) rfl ?_
  refine X_iald (nx := 319) (t := 7) (len := n) (f := xs) rfl (scrH F B C Wr E I A hg) (Or.inr rfl) (vp_in_nI (by omega) (by omega)) rfl ?_
  rw [nI_clamp (show i + 1 < 2 ^ 31 by omega)]
  refine X_run 4 (pc' := 323) (L' := [some (.inr (some (30, 0))), some (.inr (some (0, 0))), some (.inr (some (10, 0))), some (.inl (nI i))]) (st' := [.inl ((nI i) + 2), .inr (some (30, 0)), .inl ((xs (i + 1))), .inr (some (0, 0))]) rfl ?_
  refine X_eq (st' := [.inl (nI (i + 2)), .inr (some (30, 0)), .inl ((xs (i + 1))), .inr (some (0, 0))]) rfl (congrArg (fun zz9 => Sum.inl zz9 :: _) (by first | rfl | exact congrArg nI (by omega) | (simp only [il_0, il_1, il_2, il_3, il_4, il_5, il_6, il_7, il_16, il_20, il_40, il_160, pk_mul, nI_add]; done) | (simp only [il_0, il_1, il_2, il_3, il_4, il_5, il_6, il_7, il_16, il_20, il_40, il_160, pk_mul, nI_add]; exact congrArg nI (by omega)))) rfl ?_
  refine X_iald (nx := 324) (t := 7) (len := n) (f := xs) rfl (scrH F B C Wr E I A hg) (Or.inr rfl) (vp_in_nI (by omega) (by omega)) rfl ?_
  rw [nI_clamp (show i + 2 < 2 ^ 31 by omega)]
  refine X_callV (vs := [.inl ((xs (i + 1))), .inl ((xs (i + 2)))]) (st := []) (mc := 802) (ms := 4652) rfl ok_Pl_strike v_La_45 (cH_obj rfl h0) rfl rfl (Nat.le_of_ble_eq_true rfl) (Nat.le_of_ble_eq_true rfl) (Nat.le_of_ble_eq_true rfl) (Nat.le_of_ble_eq_true rfl) (by show c + 802 ≤ 672385; omega) (by show s + 4652 ≤ 7085092; omega) rfl ?_
  refine c_Pl_strike hW hI (fun F1 B1 C1 W1 E1 hI1 => ?_)
  show X M_La_law _ _ 327 [some (.inr (some (30, 0))), some (.inr (some (0, 0))), some (.inr (some (10, 0))), some (.inl (nI i))] [.inl ((sOn σ (xs (i + 1)) (xs (i + 2)) 3 false 0 true).2)] (cH F1 B1 C1 W1 E1 (mH g I A)) (c + 802) (s + 4652)
  rw [cH_mH]
  refine X_run 5 (pc' := 332) (L' := [some (.inr (some (30, 0))), some (.inr (some (0, 0))), some (.inr (some (10, 0))), some (.inl (nI i))]) (st' := [.inl ((nI i) + 1), .inr (some (30, 0)), .inr (some (10, 0)), .inl ((sOn σ (xs (i + 1)) (xs (i + 2)) 3 false 0 true).2)]) rfl ?_
  refine X_eq (st' := [.inl (nI (i + 1)), .inr (some (30, 0)), .inr (some (10, 0)), .inl ((sOn σ (xs (i + 1)) (xs (i + 2)) 3 false 0 true).2)]) rfl (congrArg (fun zz9 => Sum.inl zz9 :: _) (by first | rfl | exact congrArg nI (by omega) | (simp only [il_0, il_1, il_2, il_3, il_4, il_5, il_6, il_7, il_16, il_20, il_40, il_160, pk_mul, nI_add]; done) | (simp only [il_0, il_1, il_2, il_3, il_4, il_5, il_6, il_7, il_16, il_20, il_40, il_160, pk_mul, nI_add]; exact congrArg nI (by omega)))) rfl ?_
  refine X_iald (nx := 333) (t := 7) (len := n) (f := xs) rfl (scrM F1 B1 C1 W1 E1 I A hg) (Or.inr rfl) (vp_in_nI (by omega) (by omega)) rfl ?_
  rw [nI_clamp (show i + 1 < 2 ^ 31 by omega)]
  refine X_run 4 (pc' := 337) (L' := [some (.inr (some (30, 0))), some (.inr (some (0, 0))), some (.inr (some (10, 0))), some (.inl (nI i))]) (st' := [.inl ((nI i) + 2), .inr (some (30, 0)), .inl ((xs (i + 1))), .inr (some (10, 0)), .inl ((sOn σ (xs (i + 1)) (xs (i + 2)) 3 false 0 true).2)]) rfl ?_
  refine X_eq (st' := [.inl (nI (i + 2)), .inr (some (30, 0)), .inl ((xs (i + 1))), .inr (some (10, 0)), .inl ((sOn σ (xs (i + 1)) (xs (i + 2)) 3 false 0 true).2)]) rfl (congrArg (fun zz9 => Sum.inl zz9 :: _) (by first | rfl | exact congrArg nI (by omega) | (simp only [il_0, il_1, il_2, il_3, il_4, il_5, il_6, il_7, il_16, il_20, il_40, il_160, pk_mul, nI_add]; done) | (simp only [il_0, il_1, il_2, il_3, il_4, il_5, il_6, il_7, il_16, il_20, il_40, il_160, pk_mul, nI_add]; exact congrArg nI (by omega)))) rfl ?_
  refine X_iald (nx := 338) (t := 7) (len := n) (f := xs) rfl (scrM F1 B1 C1 W1 E1 I A hg) (Or.inr rfl) (vp_in_nI (by omega) (by omega)) rfl ?_
  rw [nI_clamp (show i + 2 < 2 ^ 31 by omega)]
  refine X_callV (vs := [.inl ((xs (i + 1))), .inl ((xs (i + 2)))]) (st := [.inl ((sOn σ (xs (i + 1)) (xs (i + 2)) 3 false 0 true).2)]) (mc := 0) (ms := 0) rfl ok_Mo_strike v_La_49 rfl rfl rfl (Nat.le_of_ble_eq_true rfl) (Nat.le_of_ble_eq_true rfl) (Nat.le_of_ble_eq_true rfl) (Nat.le_of_ble_eq_true rfl) (by show c + 802 + 0 ≤ 672385; omega) (by show s + 4652 + 0 ≤ 7085092; omega) rfl ?_
  refine c_Mo_strike hM hW.1 (fun I1 A1 hM1 => ?_)
  show X M_La_law _ _ 341 [some (.inr (some (30, 0))), some (.inr (some (0, 0))), some (.inr (some (10, 0))), some (.inl (nI i))] [.inl ((sOn σ (xs (i + 1)) (xs (i + 2)) 3 false 0 true).2), .inl ((sOn σ (xs (i + 1)) (xs (i + 2)) 3 false 0 true).2)] (mH (cH F1 B1 C1 W1 E1 g) I1 A1) (c + 802) (s + 4652)
  rw [← cH_mH]
  refine X_ic_eq (tgt := 742) (nx := 344) rfl rfl rfl (fun q => ?_) (fun q => ?_)
  · exact X_widen (by omega) (by omega) (kk _ _ _ _ _ _ _ _ (W2_on hW (by omega) (fun z _ => by omega) (fun z _ => by omega) (fun z _ => by omega)) hI1 hM1)
  · exact absurd rfl q
set_option maxRecDepth 100000 in
theorem law_6 (hg : g (30, 0) = some (.inl (7, n, xs))) (hn : n ≤ 2561) (hi : i + 5 ≤ n) (hc : c + 802 ≤ 672385) (hs : s + 4652 ≤ 7085092) (hW : W2 σ) (hI : CI σ F B C E) (hM : MB σ I A) (kk : KK g i c s) : X M_La_law room_1 Zl 346 [some (.inr (some (30, 0))), some (.inr (some (0, 0))), some (.inr (some (10, 0))), some (.inl (nI i))] [] (cH F B C Wr E (mH g I A)) c s := by
  obtain ⟨see0, hCD⟩ := id hI
  have h0 := hCD.1.1
  refine X_run 5 (pc' := 351) (L' := [some (.inr (some (30, 0))), some (.inr (some (0, 0))), some (.inr (some (10, 0))), some (.inl (nI i))]) (st' := [.inl ((nI i) + 1), .inr (some (30, 0)), .inr (some (0, 0))]) rfl ?_
  refine X_eq (st' := [.inl (nI (i + 1)), .inr (some (30, 0)), .inr (some (0, 0))]) rfl (congrArg (fun zz9 => Sum.inl zz9 :: _) (by first | rfl | exact congrArg nI (by omega) | (simp only [il_0, il_1, il_2, il_3, il_4, il_5, il_6, il_7, il_16, il_20, il_40, il_160, pk_mul, nI_add]; done) | (simp only [il_0, il_1, il_2, il_3, il_4, il_5, il_6, il_7, il_16, il_20, il_40, il_160, pk_mul, nI_add]; exact congrArg nI (by omega)))) rfl ?_
  refine X_iald (nx := 352) (t := 7) (len := n) (f := xs) rfl (scrH F B C Wr E I A hg) (Or.inr rfl) (vp_in_nI (by omega) (by omega)) rfl ?_
  rw [nI_clamp (show i + 1 < 2 ^ 31 by omega)]
  refine X_run 4 (pc' := 356) (L' := [some (.inr (some (30, 0))), some (.inr (some (0, 0))), some (.inr (some (10, 0))), some (.inl (nI i))]) (st' := [.inl ((nI i) + 2), .inr (some (30, 0)), .inl ((xs (i + 1))), .inr (some (0, 0))]) rfl ?_
  refine X_eq (st' := [.inl (nI (i + 2)), .inr (some (30, 0)), .inl ((xs (i + 1))), .inr (some (0, 0))]) rfl (congrArg (fun zz9 => Sum.inl zz9 :: _) (by first | rfl | exact congrArg nI (by omega) | (simp only [il_0, il_1, il_2, il_3, il_4, il_5, il_6, il_7, il_16, il_20, il_40, il_160, pk_mul, nI_add]; done) | (simp only [il_0, il_1, il_2, il_3, il_4, il_5, il_6, il_7, il_16, il_20, il_40, il_160, pk_mul, nI_add]; exact congrArg nI (by omega)))) rfl ?_
  refine X_iald (nx := 357) (t := 7) (len := n) (f := xs) rfl (scrH F B C Wr E I A hg) (Or.inr rfl) (vp_in_nI (by omega) (by omega)) rfl ?_
  rw [nI_clamp (show i + 2 < 2 ^ 31 by omega)]
  refine X_callV (vs := [.inl ((xs (i + 1))), .inl ((xs (i + 2)))]) (st := []) (mc := 802) (ms := 4652) rfl ok_Pl_back v_La_50 (cH_obj rfl h0) rfl rfl (Nat.le_of_ble_eq_true rfl) (Nat.le_of_ble_eq_true rfl) (Nat.le_of_ble_eq_true rfl) (Nat.le_of_ble_eq_true rfl) (by show c + 802 ≤ 672385; omega) (by show s + 4652 ≤ 7085092; omega) rfl ?_
  refine c_Pl_back hW hI (fun F1 B1 C1 W1 E1 hI1 => ?_)
  show X M_La_law _ _ 360 [some (.inr (some (30, 0))), some (.inr (some (0, 0))), some (.inr (some (10, 0))), some (.inl (nI i))] [.inl ((sOn σ (xs (i + 1)) (xs (i + 2)) 4 true 0 true).2)] (cH F1 B1 C1 W1 E1 (mH g I A)) (c + 802) (s + 4652)
  rw [cH_mH]
  refine X_run 5 (pc' := 365) (L' := [some (.inr (some (30, 0))), some (.inr (some (0, 0))), some (.inr (some (10, 0))), some (.inl (nI i))]) (st' := [.inl ((nI i) + 1), .inr (some (30, 0)), .inr (some (10, 0)), .inl ((sOn σ (xs (i + 1)) (xs (i + 2)) 4 true 0 true).2)]) rfl ?_
  refine X_eq (st' := [.inl (nI (i + 1)), .inr (some (30, 0)), .inr (some (10, 0)), .inl ((sOn σ (xs (i + 1)) (xs (i + 2)) 4 true 0 true).2)]) rfl (congrArg (fun zz9 => Sum.inl zz9 :: _) (by first | rfl | exact congrArg nI (by omega) | (simp only [il_0, il_1, il_2, il_3, il_4, il_5, il_6, il_7, il_16, il_20, il_40, il_160, pk_mul, nI_add]; done) | (simp only [il_0, il_1, il_2, il_3, il_4, il_5, il_6, il_7, il_16, il_20, il_40, il_160, pk_mul, nI_add]; exact congrArg nI (by omega)))) rfl ?_
  refine X_iald (nx := 366) (t := 7) (len := n) (f := xs) rfl (scrM F1 B1 C1 W1 E1 I A hg) (Or.inr rfl) (vp_in_nI (by omega) (by omega)) rfl ?_
  rw [nI_clamp (show i + 1 < 2 ^ 31 by omega)]
  refine X_run 4 (pc' := 370) (L' := [some (.inr (some (30, 0))), some (.inr (some (0, 0))), some (.inr (some (10, 0))), some (.inl (nI i))]) (st' := [.inl ((nI i) + 2), .inr (some (30, 0)), .inl ((xs (i + 1))), .inr (some (10, 0)), .inl ((sOn σ (xs (i + 1)) (xs (i + 2)) 4 true 0 true).2)]) rfl ?_
  refine X_eq (st' := [.inl (nI (i + 2)), .inr (some (30, 0)), .inl ((xs (i + 1))), .inr (some (10, 0)), .inl ((sOn σ (xs (i + 1)) (xs (i + 2)) 4 true 0 true).2)]) rfl (congrArg (fun zz9 => Sum.inl zz9 :: _) (by first | rfl | exact congrArg nI (by omega) | (simp only [il_0, il_1, il_2, il_3, il_4, il_5, il_6, il_7, il_16, il_20, il_40, il_160, pk_mul, nI_add]; done) | (simp only [il_0, il_1, il_2, il_3, il_4, il_5, il_6, il_7, il_16, il_20, il_40, il_160, pk_mul, nI_add]; exact congrArg nI (by omega)))) rfl ?_
  refine X_iald (nx := 371) (t := 7) (len := n) (f := xs) rfl (scrM F1 B1 C1 W1 E1 I A hg) (Or.inr rfl) (vp_in_nI (by omega) (by omega)) rfl ?_
  rw [nI_clamp (show i + 2 < 2 ^ 31 by omega)]
  refine X_callV (vs := [.inl ((xs (i + 1))), .inl ((xs (i + 2)))]) (st := [.inl ((sOn σ (xs (i + 1)) (xs (i + 2)) 4 true 0 true).2)]) (mc := 0) (ms := 0) rfl ok_Mo_back v_La_53 rfl rfl rfl (Nat.le_of_ble_eq_true rfl) (Nat.le_of_ble_eq_true rfl) (Nat.le_of_ble_eq_true rfl) (Nat.le_of_ble_eq_true rfl) (by show c + 802 + 0 ≤ 672385; omega) (by show s + 4652 + 0 ≤ 7085092; omega) rfl ?_
  refine c_Mo_back hM hW.1 (fun I1 A1 hM1 => ?_)
  show X M_La_law _ _ 374 [some (.inr (some (30, 0))), some (.inr (some (0, 0))), some (.inr (some (10, 0))), some (.inl (nI i))] [.inl ((sOn σ (xs (i + 1)) (xs (i + 2)) 4 true 0 true).2), .inl ((sOn σ (xs (i + 1)) (xs (i + 2)) 4 true 0 true).2)] (mH (cH F1 B1 C1 W1 E1 g) I1 A1) (c + 802) (s + 4652)
  rw [← cH_mH]
  refine X_ic_eq (tgt := 742) (nx := 377) rfl rfl rfl (fun q => ?_) (fun q => ?_)
  · exact X_widen (by omega) (by omega) (kk _ _ _ _ _ _ _ _ (W2_on hW (by omega) (fun z _ => by omega) (fun z _ => by omega) (fun z _ => by omega)) hI1 hM1)
  · exact absurd rfl q
set_option maxRecDepth 100000 in
theorem law_7 (hg : g (30, 0) = some (.inl (7, n, xs))) (hn : n ≤ 2561) (hi : i + 5 ≤ n) (hc : c + 802 ≤ 672385) (hs : s + 4652 ≤ 7085092) (hW : W2 σ) (hI : CI σ F B C E) (hM : MB σ I A) (kk : KK g i c s) : X M_La_law room_1 Zl 379 [some (.inr (some (30, 0))), some (.inr (some (0, 0))), some (.inr (some (10, 0))), some (.inl (nI i))] [] (cH F B C Wr E (mH g I A)) c s := by
  obtain ⟨see0, hCD⟩ := id hI
  have h0 := hCD.1.1
  refine X_run 5 (pc' := 384) (L' := [some (.inr (some (30, 0))), some (.inr (some (0, 0))), some (.inr (some (10, 0))), some (.inl (nI i))]) (st' := [.inl ((nI i) + 1), .inr (some (30, 0)), .inr (some (0, 0))]) rfl ?_
  refine X_eq (st' := [.inl (nI (i + 1)), .inr (some (30, 0)), .inr (some (0, 0))]) rfl (congrArg (fun zz9 => Sum.inl zz9 :: _) (by first | rfl | exact congrArg nI (by omega) | (simp only [il_0, il_1, il_2, il_3, il_4, il_5, il_6, il_7, il_16, il_20, il_40, il_160, pk_mul, nI_add]; done) | (simp only [il_0, il_1, il_2, il_3, il_4, il_5, il_6, il_7, il_16, il_20, il_40, il_160, pk_mul, nI_add]; exact congrArg nI (by omega)))) rfl ?_
  refine X_iald (nx := 385) (t := 7) (len := n) (f := xs) rfl (scrH F B C Wr E I A hg) (Or.inr rfl) (vp_in_nI (by omega) (by omega)) rfl ?_
  rw [nI_clamp (show i + 1 < 2 ^ 31 by omega)]
  refine X_run 4 (pc' := 389) (L' := [some (.inr (some (30, 0))), some (.inr (some (0, 0))), some (.inr (some (10, 0))), some (.inl (nI i))]) (st' := [.inl ((nI i) + 2), .inr (some (30, 0)), .inl ((xs (i + 1))), .inr (some (0, 0))]) rfl ?_
  refine X_eq (st' := [.inl (nI (i + 2)), .inr (some (30, 0)), .inl ((xs (i + 1))), .inr (some (0, 0))]) rfl (congrArg (fun zz9 => Sum.inl zz9 :: _) (by first | rfl | exact congrArg nI (by omega) | (simp only [il_0, il_1, il_2, il_3, il_4, il_5, il_6, il_7, il_16, il_20, il_40, il_160, pk_mul, nI_add]; done) | (simp only [il_0, il_1, il_2, il_3, il_4, il_5, il_6, il_7, il_16, il_20, il_40, il_160, pk_mul, nI_add]; exact congrArg nI (by omega)))) rfl ?_
  refine X_iald (nx := 390) (t := 7) (len := n) (f := xs) rfl (scrH F B C Wr E I A hg) (Or.inr rfl) (vp_in_nI (by omega) (by omega)) rfl ?_
  rw [nI_clamp (show i + 2 < 2 ^ 31 by omega)]
  refine X_run 4 (pc' := 394) (L' := [some (.inr (some (30, 0))), some (.inr (some (0, 0))), some (.inr (some (10, 0))), some (.inl (nI i))]) (st' := [.inl ((nI i) + 3), .inr (some (30, 0)), .inl ((xs (i + 2))), .inl ((xs (i + 1))), .inr (some (0, 0))]) rfl ?_
  refine X_eq (st' := [.inl (nI (i + 3)), .inr (some (30, 0)), .inl ((xs (i + 2))), .inl ((xs (i + 1))), .inr (some (0, 0))]) rfl (congrArg (fun zz9 => Sum.inl zz9 :: _) (by first | rfl | exact congrArg nI (by omega) | (simp only [il_0, il_1, il_2, il_3, il_4, il_5, il_6, il_7, il_16, il_20, il_40, il_160, pk_mul, nI_add]; done) | (simp only [il_0, il_1, il_2, il_3, il_4, il_5, il_6, il_7, il_16, il_20, il_40, il_160, pk_mul, nI_add]; exact congrArg nI (by omega)))) rfl ?_
  refine X_iald (nx := 395) (t := 7) (len := n) (f := xs) rfl (scrH F B C Wr E I A hg) (Or.inr rfl) (vp_in_nI (by omega) (by omega)) rfl ?_
  rw [nI_clamp (show i + 3 < 2 ^ 31 by omega)]
  refine X_callV (vs := [.inl ((xs (i + 1))), .inl ((xs (i + 2))), .inl ((xs (i + 3)))]) (st := []) (mc := 802) (ms := 4652) rfl ok_Pl_move v_La_54 (cH_obj rfl h0) rfl rfl (Nat.le_of_ble_eq_true rfl) (Nat.le_of_ble_eq_true rfl) (Nat.le_of_ble_eq_true rfl) (Nat.le_of_ble_eq_true rfl) (by show c + 802 ≤ 672385; omega) (by show s + 4652 ≤ 7085092; omega) rfl ?_
  refine c_Pl_move hW hI (fun F1 B1 C1 W1 E1 hI1 => ?_)
  show X M_La_law _ _ 398 [some (.inr (some (30, 0))), some (.inr (some (0, 0))), some (.inr (some (10, 0))), some (.inl (nI i))] [.inl ((sOn σ (xs (i + 1)) (xs (i + 2)) 5 false (xs (i + 3)) (okM σ (xs (i + 1)) (xs (i + 2)) (xs (i + 3)))).2)] (cH F1 B1 C1 W1 E1 (mH g I A)) (c + 802) (s + 4652)
  rw [cH_mH]
  refine X_run 5 (pc' := 403) (L' := [some (.inr (some (30, 0))), some (.inr (some (0, 0))), some (.inr (some (10, 0))), some (.inl (nI i))]) (st' := [.inl ((nI i) + 1), .inr (some (30, 0)), .inr (some (10, 0)), .inl ((sOn σ (xs (i + 1)) (xs (i + 2)) 5 false (xs (i + 3)) (okM σ (xs (i + 1)) (xs (i + 2)) (xs (i + 3)))).2)]) rfl ?_
  refine X_eq (st' := [.inl (nI (i + 1)), .inr (some (30, 0)), .inr (some (10, 0)), .inl ((sOn σ (xs (i + 1)) (xs (i + 2)) 5 false (xs (i + 3)) (okM σ (xs (i + 1)) (xs (i + 2)) (xs (i + 3)))).2)]) rfl (congrArg (fun zz9 => Sum.inl zz9 :: _) (by first | rfl | exact congrArg nI (by omega) | (simp only [il_0, il_1, il_2, il_3, il_4, il_5, il_6, il_7, il_16, il_20, il_40, il_160, pk_mul, nI_add]; done) | (simp only [il_0, il_1, il_2, il_3, il_4, il_5, il_6, il_7, il_16, il_20, il_40, il_160, pk_mul, nI_add]; exact congrArg nI (by omega)))) rfl ?_
  refine X_iald (nx := 404) (t := 7) (len := n) (f := xs) rfl (scrM F1 B1 C1 W1 E1 I A hg) (Or.inr rfl) (vp_in_nI (by omega) (by omega)) rfl ?_
  rw [nI_clamp (show i + 1 < 2 ^ 31 by omega)]
  refine X_run 4 (pc' := 408) (L' := [some (.inr (some (30, 0))), some (.inr (some (0, 0))), some (.inr (some (10, 0))), some (.inl (nI i))]) (st' := [.inl ((nI i) + 2), .inr (some (30, 0)), .inl ((xs (i + 1))), .inr (some (10, 0)), .inl ((sOn σ (xs (i + 1)) (xs (i + 2)) 5 false (xs (i + 3)) (okM σ (xs (i + 1)) (xs (i + 2)) (xs (i + 3)))).2)]) rfl ?_
  refine X_eq (st' := [.inl (nI (i + 2)), .inr (some (30, 0)), .inl ((xs (i + 1))), .inr (some (10, 0)), .inl ((sOn σ (xs (i + 1)) (xs (i + 2)) 5 false (xs (i + 3)) (okM σ (xs (i + 1)) (xs (i + 2)) (xs (i + 3)))).2)]) rfl (congrArg (fun zz9 => Sum.inl zz9 :: _) (by first | rfl | exact congrArg nI (by omega) | (simp only [il_0, il_1, il_2, il_3, il_4, il_5, il_6, il_7, il_16, il_20, il_40, il_160, pk_mul, nI_add]; done) | (simp only [il_0, il_1, il_2, il_3, il_4, il_5, il_6, il_7, il_16, il_20, il_40, il_160, pk_mul, nI_add]; exact congrArg nI (by omega)))) rfl ?_
  refine X_iald (nx := 409) (t := 7) (len := n) (f := xs) rfl (scrM F1 B1 C1 W1 E1 I A hg) (Or.inr rfl) (vp_in_nI (by omega) (by omega)) rfl ?_
  rw [nI_clamp (show i + 2 < 2 ^ 31 by omega)]
  refine X_run 4 (pc' := 413) (L' := [some (.inr (some (30, 0))), some (.inr (some (0, 0))), some (.inr (some (10, 0))), some (.inl (nI i))]) (st' := [.inl ((nI i) + 3), .inr (some (30, 0)), .inl ((xs (i + 2))), .inl ((xs (i + 1))), .inr (some (10, 0)), .inl ((sOn σ (xs (i + 1)) (xs (i + 2)) 5 false (xs (i + 3)) (okM σ (xs (i + 1)) (xs (i + 2)) (xs (i + 3)))).2)]) rfl ?_
  refine X_eq (st' := [.inl (nI (i + 3)), .inr (some (30, 0)), .inl ((xs (i + 2))), .inl ((xs (i + 1))), .inr (some (10, 0)), .inl ((sOn σ (xs (i + 1)) (xs (i + 2)) 5 false (xs (i + 3)) (okM σ (xs (i + 1)) (xs (i + 2)) (xs (i + 3)))).2)]) rfl (congrArg (fun zz9 => Sum.inl zz9 :: _) (by first | rfl | exact congrArg nI (by omega) | (simp only [il_0, il_1, il_2, il_3, il_4, il_5, il_6, il_7, il_16, il_20, il_40, il_160, pk_mul, nI_add]; done) | (simp only [il_0, il_1, il_2, il_3, il_4, il_5, il_6, il_7, il_16, il_20, il_40, il_160, pk_mul, nI_add]; exact congrArg nI (by omega)))) rfl ?_
  refine X_iald (nx := 414) (t := 7) (len := n) (f := xs) rfl (scrM F1 B1 C1 W1 E1 I A hg) (Or.inr rfl) (vp_in_nI (by omega) (by omega)) rfl ?_
  rw [nI_clamp (show i + 3 < 2 ^ 31 by omega)]
  refine X_callV (vs := [.inl ((xs (i + 1))), .inl ((xs (i + 2))), .inl ((xs (i + 3)))]) (st := [.inl ((sOn σ (xs (i + 1)) (xs (i + 2)) 5 false (xs (i + 3)) (okM σ (xs (i + 1)) (xs (i + 2)) (xs (i + 3)))).2)]) (mc := 0) (ms := 0) rfl ok_Mo_move v_La_57 rfl rfl rfl (Nat.le_of_ble_eq_true rfl) (Nat.le_of_ble_eq_true rfl) (Nat.le_of_ble_eq_true rfl) (Nat.le_of_ble_eq_true rfl) (by show c + 802 + 0 ≤ 672385; omega) (by show s + 4652 + 0 ≤ 7085092; omega) rfl ?_
  refine c_Mo_move hM hW.1 (fun I1 A1 hM1 => ?_)
  show X M_La_law _ _ 417 [some (.inr (some (30, 0))), some (.inr (some (0, 0))), some (.inr (some (10, 0))), some (.inl (nI i))] [.inl ((sOn σ (xs (i + 1)) (xs (i + 2)) 5 false (xs (i + 3)) (okM σ (xs (i + 1)) (xs (i + 2)) (xs (i + 3)))).2), .inl ((sOn σ (xs (i + 1)) (xs (i + 2)) 5 false (xs (i + 3)) (okM σ (xs (i + 1)) (xs (i + 2)) (xs (i + 3)))).2)] (mH (cH F1 B1 C1 W1 E1 g) I1 A1) (c + 802) (s + 4652)
  rw [← cH_mH]
  refine X_ic_eq (tgt := 742) (nx := 420) rfl rfl rfl (fun q => ?_) (fun q => ?_)
  · exact X_widen (by omega) (by omega) (kk _ _ _ _ _ _ _ _ (W2_on hW (by omega) (fun _ z => okM_t z) (fun z _ => by omega) (fun z _ => by omega)) hI1 hM1)
  · exact absurd rfl q
set_option maxRecDepth 100000 in
theorem law_8 (hg : g (30, 0) = some (.inl (7, n, xs))) (hn : n ≤ 2561) (hi : i + 5 ≤ n) (hc : c + 802 ≤ 672385) (hs : s + 4652 ≤ 7085092) (hW : W2 σ) (hI : CI σ F B C E) (hM : MB σ I A) (kk : KK g i c s) : X M_La_law room_1 Zl 422 [some (.inr (some (30, 0))), some (.inr (some (0, 0))), some (.inr (some (10, 0))), some (.inl (nI i))] [] (cH F B C Wr E (mH g I A)) c s := by
  obtain ⟨see0, hCD⟩ := id hI
  have h0 := hCD.1.1
  refine X_run 5 (pc' := 427) (L' := [some (.inr (some (30, 0))), some (.inr (some (0, 0))), some (.inr (some (10, 0))), some (.inl (nI i))]) (st' := [.inl ((nI i) + 1), .inr (some (30, 0)), .inr (some (0, 0))]) rfl ?_
  refine X_eq (st' := [.inl (nI (i + 1)), .inr (some (30, 0)), .inr (some (0, 0))]) rfl (congrArg (fun zz9 => Sum.inl zz9 :: _) (by first | rfl | exact congrArg nI (by omega) | (simp only [il_0, il_1, il_2, il_3, il_4, il_5, il_6, il_7, il_16, il_20, il_40, il_160, pk_mul, nI_add]; done) | (simp only [il_0, il_1, il_2, il_3, il_4, il_5, il_6, il_7, il_16, il_20, il_40, il_160, pk_mul, nI_add]; exact congrArg nI (by omega)))) rfl ?_
  refine X_iald (nx := 428) (t := 7) (len := n) (f := xs) rfl (scrH F B C Wr E I A hg) (Or.inr rfl) (vp_in_nI (by omega) (by omega)) rfl ?_
  rw [nI_clamp (show i + 1 < 2 ^ 31 by omega)]
  refine X_run 4 (pc' := 432) (L' := [some (.inr (some (30, 0))), some (.inr (some (0, 0))), some (.inr (some (10, 0))), some (.inl (nI i))]) (st' := [.inl ((nI i) + 2), .inr (some (30, 0)), .inl ((xs (i + 1))), .inr (some (0, 0))]) rfl ?_
  refine X_eq (st' := [.inl (nI (i + 2)), .inr (some (30, 0)), .inl ((xs (i + 1))), .inr (some (0, 0))]) rfl (congrArg (fun zz9 => Sum.inl zz9 :: _) (by first | rfl | exact congrArg nI (by omega) | (simp only [il_0, il_1, il_2, il_3, il_4, il_5, il_6, il_7, il_16, il_20, il_40, il_160, pk_mul, nI_add]; done) | (simp only [il_0, il_1, il_2, il_3, il_4, il_5, il_6, il_7, il_16, il_20, il_40, il_160, pk_mul, nI_add]; exact congrArg nI (by omega)))) rfl ?_
  refine X_iald (nx := 433) (t := 7) (len := n) (f := xs) rfl (scrH F B C Wr E I A hg) (Or.inr rfl) (vp_in_nI (by omega) (by omega)) rfl ?_
  rw [nI_clamp (show i + 2 < 2 ^ 31 by omega)]
  refine X_run 4 (pc' := 437) (L' := [some (.inr (some (30, 0))), some (.inr (some (0, 0))), some (.inr (some (10, 0))), some (.inl (nI i))]) (st' := [.inl ((nI i) + 3), .inr (some (30, 0)), .inl ((xs (i + 2))), .inl ((xs (i + 1))), .inr (some (0, 0))]) rfl ?_
  refine X_eq (st' := [.inl (nI (i + 3)), .inr (some (30, 0)), .inl ((xs (i + 2))), .inl ((xs (i + 1))), .inr (some (0, 0))]) rfl (congrArg (fun zz9 => Sum.inl zz9 :: _) (by first | rfl | exact congrArg nI (by omega) | (simp only [il_0, il_1, il_2, il_3, il_4, il_5, il_6, il_7, il_16, il_20, il_40, il_160, pk_mul, nI_add]; done) | (simp only [il_0, il_1, il_2, il_3, il_4, il_5, il_6, il_7, il_16, il_20, il_40, il_160, pk_mul, nI_add]; exact congrArg nI (by omega)))) rfl ?_
  refine X_iald (nx := 438) (t := 7) (len := n) (f := xs) rfl (scrH F B C Wr E I A hg) (Or.inr rfl) (vp_in_nI (by omega) (by omega)) rfl ?_
  rw [nI_clamp (show i + 3 < 2 ^ 31 by omega)]
  refine X_callV (vs := [.inl ((xs (i + 1))), .inl ((xs (i + 2))), .inl ((xs (i + 3)))]) (st := []) (mc := 802) (ms := 4652) rfl ok_Pl_name v_La_58 (cH_obj rfl h0) rfl rfl (Nat.le_of_ble_eq_true rfl) (Nat.le_of_ble_eq_true rfl) (Nat.le_of_ble_eq_true rfl) (Nat.le_of_ble_eq_true rfl) (by show c + 802 ≤ 672385; omega) (by show s + 4652 ≤ 7085092; omega) rfl ?_
  refine c_Pl_name hW hI (fun F1 B1 C1 W1 E1 hI1 => ?_)
  show X M_La_law _ _ 441 [some (.inr (some (30, 0))), some (.inr (some (0, 0))), some (.inr (some (10, 0))), some (.inl (nI i))] [.inl ((sOn σ (xs (i + 1)) (xs (i + 2)) 6 false (xs (i + 3)) (decide (1 ≤ (xs (i + 3)).toInt ∧ (xs (i + 3)).toInt ≤ 999))).2)] (cH F1 B1 C1 W1 E1 (mH g I A)) (c + 802) (s + 4652)
  rw [cH_mH]
  refine X_run 5 (pc' := 446) (L' := [some (.inr (some (30, 0))), some (.inr (some (0, 0))), some (.inr (some (10, 0))), some (.inl (nI i))]) (st' := [.inl ((nI i) + 1), .inr (some (30, 0)), .inr (some (10, 0)), .inl ((sOn σ (xs (i + 1)) (xs (i + 2)) 6 false (xs (i + 3)) (decide (1 ≤ (xs (i + 3)).toInt ∧ (xs (i + 3)).toInt ≤ 999))).2)]) rfl ?_
  refine X_eq (st' := [.inl (nI (i + 1)), .inr (some (30, 0)), .inr (some (10, 0)), .inl ((sOn σ (xs (i + 1)) (xs (i + 2)) 6 false (xs (i + 3)) (decide (1 ≤ (xs (i + 3)).toInt ∧ (xs (i + 3)).toInt ≤ 999))).2)]) rfl (congrArg (fun zz9 => Sum.inl zz9 :: _) (by first | rfl | exact congrArg nI (by omega) | (simp only [il_0, il_1, il_2, il_3, il_4, il_5, il_6, il_7, il_16, il_20, il_40, il_160, pk_mul, nI_add]; done) | (simp only [il_0, il_1, il_2, il_3, il_4, il_5, il_6, il_7, il_16, il_20, il_40, il_160, pk_mul, nI_add]; exact congrArg nI (by omega)))) rfl ?_
  refine X_iald (nx := 447) (t := 7) (len := n) (f := xs) rfl (scrM F1 B1 C1 W1 E1 I A hg) (Or.inr rfl) (vp_in_nI (by omega) (by omega)) rfl ?_
  rw [nI_clamp (show i + 1 < 2 ^ 31 by omega)]
  refine X_run 4 (pc' := 451) (L' := [some (.inr (some (30, 0))), some (.inr (some (0, 0))), some (.inr (some (10, 0))), some (.inl (nI i))]) (st' := [.inl ((nI i) + 2), .inr (some (30, 0)), .inl ((xs (i + 1))), .inr (some (10, 0)), .inl ((sOn σ (xs (i + 1)) (xs (i + 2)) 6 false (xs (i + 3)) (decide (1 ≤ (xs (i + 3)).toInt ∧ (xs (i + 3)).toInt ≤ 999))).2)]) rfl ?_
  refine X_eq (st' := [.inl (nI (i + 2)), .inr (some (30, 0)), .inl ((xs (i + 1))), .inr (some (10, 0)), .inl ((sOn σ (xs (i + 1)) (xs (i + 2)) 6 false (xs (i + 3)) (decide (1 ≤ (xs (i + 3)).toInt ∧ (xs (i + 3)).toInt ≤ 999))).2)]) rfl (congrArg (fun zz9 => Sum.inl zz9 :: _) (by first | rfl | exact congrArg nI (by omega) | (simp only [il_0, il_1, il_2, il_3, il_4, il_5, il_6, il_7, il_16, il_20, il_40, il_160, pk_mul, nI_add]; done) | (simp only [il_0, il_1, il_2, il_3, il_4, il_5, il_6, il_7, il_16, il_20, il_40, il_160, pk_mul, nI_add]; exact congrArg nI (by omega)))) rfl ?_
  refine X_iald (nx := 452) (t := 7) (len := n) (f := xs) rfl (scrM F1 B1 C1 W1 E1 I A hg) (Or.inr rfl) (vp_in_nI (by omega) (by omega)) rfl ?_
  rw [nI_clamp (show i + 2 < 2 ^ 31 by omega)]
  refine X_run 4 (pc' := 456) (L' := [some (.inr (some (30, 0))), some (.inr (some (0, 0))), some (.inr (some (10, 0))), some (.inl (nI i))]) (st' := [.inl ((nI i) + 3), .inr (some (30, 0)), .inl ((xs (i + 2))), .inl ((xs (i + 1))), .inr (some (10, 0)), .inl ((sOn σ (xs (i + 1)) (xs (i + 2)) 6 false (xs (i + 3)) (decide (1 ≤ (xs (i + 3)).toInt ∧ (xs (i + 3)).toInt ≤ 999))).2)]) rfl ?_
  refine X_eq (st' := [.inl (nI (i + 3)), .inr (some (30, 0)), .inl ((xs (i + 2))), .inl ((xs (i + 1))), .inr (some (10, 0)), .inl ((sOn σ (xs (i + 1)) (xs (i + 2)) 6 false (xs (i + 3)) (decide (1 ≤ (xs (i + 3)).toInt ∧ (xs (i + 3)).toInt ≤ 999))).2)]) rfl (congrArg (fun zz9 => Sum.inl zz9 :: _) (by first | rfl | exact congrArg nI (by omega) | (simp only [il_0, il_1, il_2, il_3, il_4, il_5, il_6, il_7, il_16, il_20, il_40, il_160, pk_mul, nI_add]; done) | (simp only [il_0, il_1, il_2, il_3, il_4, il_5, il_6, il_7, il_16, il_20, il_40, il_160, pk_mul, nI_add]; exact congrArg nI (by omega)))) rfl ?_
  refine X_iald (nx := 457) (t := 7) (len := n) (f := xs) rfl (scrM F1 B1 C1 W1 E1 I A hg) (Or.inr rfl) (vp_in_nI (by omega) (by omega)) rfl ?_
  rw [nI_clamp (show i + 3 < 2 ^ 31 by omega)]
  refine X_callV (vs := [.inl ((xs (i + 1))), .inl ((xs (i + 2))), .inl ((xs (i + 3)))]) (st := [.inl ((sOn σ (xs (i + 1)) (xs (i + 2)) 6 false (xs (i + 3)) (decide (1 ≤ (xs (i + 3)).toInt ∧ (xs (i + 3)).toInt ≤ 999))).2)]) (mc := 0) (ms := 0) rfl ok_Mo_name v_La_61 rfl rfl rfl (Nat.le_of_ble_eq_true rfl) (Nat.le_of_ble_eq_true rfl) (Nat.le_of_ble_eq_true rfl) (Nat.le_of_ble_eq_true rfl) (by show c + 802 + 0 ≤ 672385; omega) (by show s + 4652 + 0 ≤ 7085092; omega) rfl ?_
  refine c_Mo_name hM hW.1 (fun I1 A1 hM1 => ?_)
  show X M_La_law _ _ 460 [some (.inr (some (30, 0))), some (.inr (some (0, 0))), some (.inr (some (10, 0))), some (.inl (nI i))] [.inl ((sOn σ (xs (i + 1)) (xs (i + 2)) 6 false (xs (i + 3)) (decide (1 ≤ (xs (i + 3)).toInt ∧ (xs (i + 3)).toInt ≤ 999))).2), .inl ((sOn σ (xs (i + 1)) (xs (i + 2)) 6 false (xs (i + 3)) (decide (1 ≤ (xs (i + 3)).toInt ∧ (xs (i + 3)).toInt ≤ 999))).2)] (mH (cH F1 B1 C1 W1 E1 g) I1 A1) (c + 802) (s + 4652)
  rw [← cH_mH]
  refine X_ic_eq (tgt := 742) (nx := 463) rfl rfl rfl (fun q => ?_) (fun q => ?_)
  · exact X_widen (by omega) (by omega) (kk _ _ _ _ _ _ _ _ (W2_on hW (by omega) (fun z _ => by omega) (fun z _ => by omega) (fun _ z => of_decide_eq_true z)) hI1 hM1)
  · exact absurd rfl q
set_option maxRecDepth 100000 in
theorem law_9 (hg : g (30, 0) = some (.inl (7, n, xs))) (hn : n ≤ 2561) (hi : i + 5 ≤ n) (hc : c + 802 ≤ 672385) (hs : s + 4652 ≤ 7085092) (hW : W2 σ) (hI : CI σ F B C E) (hM : MB σ I A) (kk : KK g i c s) : X M_La_law room_1 Zl 465 [some (.inr (some (30, 0))), some (.inr (some (0, 0))), some (.inr (some (10, 0))), some (.inl (nI i))] [] (cH F B C Wr E (mH g I A)) c s := by
  obtain ⟨see0, hCD⟩ := id hI
  have h0 := hCD.1.1
  refine X_run 5 (pc' := 470) (L' := [some (.inr (some (30, 0))), some (.inr (some (0, 0))), some (.inr (some (10, 0))), some (.inl (nI i))]) (st' := [.inl ((nI i) + 1), .inr (some (30, 0)), .inr (some (0, 0))]) rfl ?_
  refine X_eq (st' := [.inl (nI (i + 1)), .inr (some (30, 0)), .inr (some (0, 0))]) rfl (congrArg (fun zz9 => Sum.inl zz9 :: _) (by first | rfl | exact congrArg nI (by omega) | (simp only [il_0, il_1, il_2, il_3, il_4, il_5, il_6, il_7, il_16, il_20, il_40, il_160, pk_mul, nI_add]; done) | (simp only [il_0, il_1, il_2, il_3, il_4, il_5, il_6, il_7, il_16, il_20, il_40, il_160, pk_mul, nI_add]; exact congrArg nI (by omega)))) rfl ?_
  refine X_iald (nx := 471) (t := 7) (len := n) (f := xs) rfl (scrH F B C Wr E I A hg) (Or.inr rfl) (vp_in_nI (by omega) (by omega)) rfl ?_
  rw [nI_clamp (show i + 1 < 2 ^ 31 by omega)]
  refine X_callV (vs := [.inl ((xs (i + 1)))]) (st := []) (mc := 2) (ms := 12) rfl ok_Pl_undo v_La_62 (cH_obj rfl h0) rfl rfl (Nat.le_of_ble_eq_true rfl) (Nat.le_of_ble_eq_true rfl) (Nat.le_of_ble_eq_true rfl) (Nat.le_of_ble_eq_true rfl) (by show c + 2 ≤ 672385; omega) (by show s + 12 ≤ 7085092; omega) rfl ?_
  refine c_Pl_undo hW hI (fun F1 B1 C1 W1 E1 hI1 => ?_)
  show X M_La_law _ _ 474 [some (.inr (some (30, 0))), some (.inr (some (0, 0))), some (.inr (some (10, 0))), some (.inl (nI i))] [.inl ((sUndo σ (xs (i + 1))).2)] (cH F1 B1 C1 W1 E1 (mH g I A)) (c + 2) (s + 12)
  rw [cH_mH]
  refine X_run 5 (pc' := 479) (L' := [some (.inr (some (30, 0))), some (.inr (some (0, 0))), some (.inr (some (10, 0))), some (.inl (nI i))]) (st' := [.inl ((nI i) + 1), .inr (some (30, 0)), .inr (some (10, 0)), .inl ((sUndo σ (xs (i + 1))).2)]) rfl ?_
  refine X_eq (st' := [.inl (nI (i + 1)), .inr (some (30, 0)), .inr (some (10, 0)), .inl ((sUndo σ (xs (i + 1))).2)]) rfl (congrArg (fun zz9 => Sum.inl zz9 :: _) (by first | rfl | exact congrArg nI (by omega) | (simp only [il_0, il_1, il_2, il_3, il_4, il_5, il_6, il_7, il_16, il_20, il_40, il_160, pk_mul, nI_add]; done) | (simp only [il_0, il_1, il_2, il_3, il_4, il_5, il_6, il_7, il_16, il_20, il_40, il_160, pk_mul, nI_add]; exact congrArg nI (by omega)))) rfl ?_
  refine X_iald (nx := 480) (t := 7) (len := n) (f := xs) rfl (scrM F1 B1 C1 W1 E1 I A hg) (Or.inr rfl) (vp_in_nI (by omega) (by omega)) rfl ?_
  rw [nI_clamp (show i + 1 < 2 ^ 31 by omega)]
  refine X_callV (vs := [.inl ((xs (i + 1)))]) (st := [.inl ((sUndo σ (xs (i + 1))).2)]) (mc := 0) (ms := 0) rfl ok_Mo_undo v_La_65 rfl rfl rfl (Nat.le_of_ble_eq_true rfl) (Nat.le_of_ble_eq_true rfl) (Nat.le_of_ble_eq_true rfl) (Nat.le_of_ble_eq_true rfl) (by show c + 2 + 0 ≤ 672385; omega) (by show s + 12 + 0 ≤ 7085092; omega) rfl ?_
  refine c_Mo_undo hM hW.1 (fun I1 A1 hM1 => ?_)
  show X M_La_law _ _ 483 [some (.inr (some (30, 0))), some (.inr (some (0, 0))), some (.inr (some (10, 0))), some (.inl (nI i))] [.inl ((sUndo σ (xs (i + 1))).2), .inl ((sUndo σ (xs (i + 1))).2)] (mH (cH F1 B1 C1 W1 E1 g) I1 A1) (c + 2) (s + 12)
  rw [← cH_mH]
  refine X_ic_eq (tgt := 742) (nx := 486) rfl rfl rfl (fun q => ?_) (fun q => ?_)
  · exact X_widen (by omega) (by omega) (kk _ _ _ _ _ _ _ _ (W2_undo hW (xs (i + 1))) hI1 hM1)
  · exact absurd rfl q
set_option maxRecDepth 100000 in
theorem law_10 (hg : g (30, 0) = some (.inl (7, n, xs))) (hn : n ≤ 2561) (hi : i + 5 ≤ n) (hc : c + 802 ≤ 672385) (hs : s + 4652 ≤ 7085092) (hW : W2 σ) (hI : CI σ F B C E) (hM : MB σ I A) (kk : KK g i c s) : X M_La_law room_1 Zl 488 [some (.inr (some (30, 0))), some (.inr (some (0, 0))), some (.inr (some (10, 0))), some (.inl (nI i))] [] (cH F B C Wr E (mH g I A)) c s := by
  obtain ⟨see0, hCD⟩ := id hI
  have h0 := hCD.1.1
  refine X_run 5 (pc' := 493) (L' := [some (.inr (some (30, 0))), some (.inr (some (0, 0))), some (.inr (some (10, 0))), some (.inl (nI i))]) (st' := [.inl ((nI i) + 1), .inr (some (30, 0)), .inr (some (0, 0))]) rfl ?_
  refine X_eq (st' := [.inl (nI (i + 1)), .inr (some (30, 0)), .inr (some (0, 0))]) rfl (congrArg (fun zz9 => Sum.inl zz9 :: _) (by first | rfl | exact congrArg nI (by omega) | (simp only [il_0, il_1, il_2, il_3, il_4, il_5, il_6, il_7, il_16, il_20, il_40, il_160, pk_mul, nI_add]; done) | (simp only [il_0, il_1, il_2, il_3, il_4, il_5, il_6, il_7, il_16, il_20, il_40, il_160, pk_mul, nI_add]; exact congrArg nI (by omega)))) rfl ?_
  refine X_iald (nx := 494) (t := 7) (len := n) (f := xs) rfl (scrH F B C Wr E I A hg) (Or.inr rfl) (vp_in_nI (by omega) (by omega)) rfl ?_
  rw [nI_clamp (show i + 1 < 2 ^ 31 by omega)]
  refine X_run 4 (pc' := 498) (L' := [some (.inr (some (30, 0))), some (.inr (some (0, 0))), some (.inr (some (10, 0))), some (.inl (nI i))]) (st' := [.inl ((nI i) + 2), .inr (some (30, 0)), .inl ((xs (i + 1))), .inr (some (0, 0))]) rfl ?_
  refine X_eq (st' := [.inl (nI (i + 2)), .inr (some (30, 0)), .inl ((xs (i + 1))), .inr (some (0, 0))]) rfl (congrArg (fun zz9 => Sum.inl zz9 :: _) (by first | rfl | exact congrArg nI (by omega) | (simp only [il_0, il_1, il_2, il_3, il_4, il_5, il_6, il_7, il_16, il_20, il_40, il_160, pk_mul, nI_add]; done) | (simp only [il_0, il_1, il_2, il_3, il_4, il_5, il_6, il_7, il_16, il_20, il_40, il_160, pk_mul, nI_add]; exact congrArg nI (by omega)))) rfl ?_
  refine X_iald (nx := 499) (t := 7) (len := n) (f := xs) rfl (scrH F B C Wr E I A hg) (Or.inr rfl) (vp_in_nI (by omega) (by omega)) rfl ?_
  rw [nI_clamp (show i + 2 < 2 ^ 31 by omega)]
  refine X_callV (vs := [.inl ((xs (i + 1))), .inl ((xs (i + 2)))]) (st := []) (mc := 0) (ms := 0) rfl ok_Pl_view v_La_66 (cH_obj rfl h0) rfl rfl (Nat.le_of_ble_eq_true rfl) (Nat.le_of_ble_eq_true rfl) (Nat.le_of_ble_eq_true rfl) (Nat.le_of_ble_eq_true rfl) (by show c + 0 ≤ 672385; omega) (by show s + 0 ≤ 7085092; omega) rfl ?_
  refine c_Pl_view hW hI (fun F1 B1 C1 W1 E1 hI1 => ?_)
  show X M_La_law _ _ 502 [some (.inr (some (30, 0))), some (.inr (some (0, 0))), some (.inr (some (10, 0))), some (.inl (nI i))] [.inl ((sView σ (xs (i + 1)) (xs (i + 2))).2)] (cH F1 B1 C1 W1 E1 (mH g I A)) (c + 0) (s + 0)
  rw [cH_mH]
  refine X_run 5 (pc' := 507) (L' := [some (.inr (some (30, 0))), some (.inr (some (0, 0))), some (.inr (some (10, 0))), some (.inl (nI i))]) (st' := [.inl ((nI i) + 1), .inr (some (30, 0)), .inr (some (10, 0)), .inl ((sView σ (xs (i + 1)) (xs (i + 2))).2)]) rfl ?_
  refine X_eq (st' := [.inl (nI (i + 1)), .inr (some (30, 0)), .inr (some (10, 0)), .inl ((sView σ (xs (i + 1)) (xs (i + 2))).2)]) rfl (congrArg (fun zz9 => Sum.inl zz9 :: _) (by first | rfl | exact congrArg nI (by omega) | (simp only [il_0, il_1, il_2, il_3, il_4, il_5, il_6, il_7, il_16, il_20, il_40, il_160, pk_mul, nI_add]; done) | (simp only [il_0, il_1, il_2, il_3, il_4, il_5, il_6, il_7, il_16, il_20, il_40, il_160, pk_mul, nI_add]; exact congrArg nI (by omega)))) rfl ?_
  refine X_iald (nx := 508) (t := 7) (len := n) (f := xs) rfl (scrM F1 B1 C1 W1 E1 I A hg) (Or.inr rfl) (vp_in_nI (by omega) (by omega)) rfl ?_
  rw [nI_clamp (show i + 1 < 2 ^ 31 by omega)]
  refine X_run 4 (pc' := 512) (L' := [some (.inr (some (30, 0))), some (.inr (some (0, 0))), some (.inr (some (10, 0))), some (.inl (nI i))]) (st' := [.inl ((nI i) + 2), .inr (some (30, 0)), .inl ((xs (i + 1))), .inr (some (10, 0)), .inl ((sView σ (xs (i + 1)) (xs (i + 2))).2)]) rfl ?_
  refine X_eq (st' := [.inl (nI (i + 2)), .inr (some (30, 0)), .inl ((xs (i + 1))), .inr (some (10, 0)), .inl ((sView σ (xs (i + 1)) (xs (i + 2))).2)]) rfl (congrArg (fun zz9 => Sum.inl zz9 :: _) (by first | rfl | exact congrArg nI (by omega) | (simp only [il_0, il_1, il_2, il_3, il_4, il_5, il_6, il_7, il_16, il_20, il_40, il_160, pk_mul, nI_add]; done) | (simp only [il_0, il_1, il_2, il_3, il_4, il_5, il_6, il_7, il_16, il_20, il_40, il_160, pk_mul, nI_add]; exact congrArg nI (by omega)))) rfl ?_
  refine X_iald (nx := 513) (t := 7) (len := n) (f := xs) rfl (scrM F1 B1 C1 W1 E1 I A hg) (Or.inr rfl) (vp_in_nI (by omega) (by omega)) rfl ?_
  rw [nI_clamp (show i + 2 < 2 ^ 31 by omega)]
  refine X_callV (vs := [.inl ((xs (i + 1))), .inl ((xs (i + 2)))]) (st := [.inl ((sView σ (xs (i + 1)) (xs (i + 2))).2)]) (mc := 0) (ms := 0) rfl ok_Mo_view v_La_69 rfl rfl rfl (Nat.le_of_ble_eq_true rfl) (Nat.le_of_ble_eq_true rfl) (Nat.le_of_ble_eq_true rfl) (Nat.le_of_ble_eq_true rfl) (by show c + 0 + 0 ≤ 672385; omega) (by show s + 0 + 0 ≤ 7085092; omega) rfl ?_
  refine c_Mo_view hM (fun I1 A1 hM1 => ?_)
  show X M_La_law _ _ 516 [some (.inr (some (30, 0))), some (.inr (some (0, 0))), some (.inr (some (10, 0))), some (.inl (nI i))] [.inl ((sView σ (xs (i + 1)) (xs (i + 2))).2), .inl ((sView σ (xs (i + 1)) (xs (i + 2))).2)] (mH (cH F1 B1 C1 W1 E1 g) I1 A1) (c + 0) (s + 0)
  rw [← cH_mH]
  refine X_ic_eq (tgt := 742) (nx := 519) rfl rfl rfl (fun q => ?_) (fun q => ?_)
  · exact X_widen (by omega) (by omega) (kk _ _ _ _ _ _ _ _ (W2_view hW (xs (i + 1)) (xs (i + 2))) hI1 hM1)
  · exact absurd rfl q
set_option maxRecDepth 100000 in
theorem law_11 (hg : g (30, 0) = some (.inl (7, n, xs))) (hn : n ≤ 2561) (hi : i + 5 ≤ n) (hc : c + 802 ≤ 672385) (hs : s + 4652 ≤ 7085092) (hW : W2 σ) (hI : CI σ F B C E) (hM : MB σ I A) (kk : KK g i c s) : X M_La_law room_1 Zl 521 [some (.inr (some (30, 0))), some (.inr (some (0, 0))), some (.inr (some (10, 0))), some (.inl (nI i))] [] (cH F B C Wr E (mH g I A)) c s := by
  obtain ⟨see0, hCD⟩ := id hI
  have h0 := hCD.1.1
  refine X_run 1 (pc' := 522) (L' := [some (.inr (some (30, 0))), some (.inr (some (0, 0))), some (.inr (some (10, 0))), some (.inl (nI i))]) (st' := [.inr (some (0, 0))]) rfl ?_
  refine X_callV (vs := []) (st := []) (mc := 800) (ms := 4640) rfl ok_Pl_rows v_La_70 (cH_obj rfl h0) rfl rfl (Nat.le_of_ble_eq_true rfl) (Nat.le_of_ble_eq_true rfl) (Nat.le_of_ble_eq_true rfl) (Nat.le_of_ble_eq_true rfl) (by show c + 800 ≤ 672385; omega) (by show s + 4640 ≤ 7085092; omega) rfl ?_
  refine c_Pl_rows hW hI (fun F1 B1 C1 W1 E1 hI1 => ?_)
  show X M_La_law _ _ 525 [some (.inr (some (30, 0))), some (.inr (some (0, 0))), some (.inr (some (10, 0))), some (.inl (nI i))] [.inl ((sRows σ))] (cH F1 B1 C1 W1 E1 (mH g I A)) (c + 800) (s + 4640)
  rw [cH_mH]
  refine X_run 1 (pc' := 526) (L' := [some (.inr (some (30, 0))), some (.inr (some (0, 0))), some (.inr (some (10, 0))), some (.inl (nI i))]) (st' := [.inr (some (10, 0)), .inl ((sRows σ))]) rfl ?_
  refine X_callV (vs := []) (st := [.inl ((sRows σ))]) (mc := 0) (ms := 0) rfl ok_Mo_rows v_La_74 rfl rfl rfl (Nat.le_of_ble_eq_true rfl) (Nat.le_of_ble_eq_true rfl) (Nat.le_of_ble_eq_true rfl) (Nat.le_of_ble_eq_true rfl) (by show c + 800 + 0 ≤ 672385; omega) (by show s + 4640 + 0 ≤ 7085092; omega) rfl ?_
  refine c_Mo_rows hM hW.1 (fun I1 A1 hM1 _ => ?_)
  show X M_La_law _ _ 529 [some (.inr (some (30, 0))), some (.inr (some (0, 0))), some (.inr (some (10, 0))), some (.inl (nI i))] [.inl ((sRows σ)), .inl ((sRows σ))] (mH (cH F1 B1 C1 W1 E1 g) I1 A1) (c + 800) (s + 4640)
  rw [← cH_mH]
  refine X_ic_eq (tgt := 742) (nx := 532) rfl rfl rfl (fun q => ?_) (fun q => ?_)
  · exact X_widen (by omega) (by omega) (kk _ _ _ _ _ _ _ _ hW hI1 hM1)
  · exact absurd rfl q
set_option maxRecDepth 100000 in
theorem law_12 (hg : g (30, 0) = some (.inl (7, n, xs))) (hn : n ≤ 2561) (hi : i + 5 ≤ n) (hc : c + 802 ≤ 672385) (hs : s + 4652 ≤ 7085092) (hW : W2 σ) (hI : CI σ F B C E) (hM : MB σ I A) (kk : KK g i c s) : X M_La_law room_1 Zl 534 [some (.inr (some (30, 0))), some (.inr (some (0, 0))), some (.inr (some (10, 0))), some (.inl (nI i))] [] (cH F B C Wr E (mH g I A)) c s := by
  obtain ⟨see0, hCD⟩ := id hI
  have h0 := hCD.1.1
  refine X_run 5 (pc' := 539) (L' := [some (.inr (some (30, 0))), some (.inr (some (0, 0))), some (.inr (some (10, 0))), some (.inl (nI i))]) (st' := [.inl ((nI i) + 1), .inr (some (30, 0)), .inr (some (0, 0))]) rfl ?_
  refine X_eq (st' := [.inl (nI (i + 1)), .inr (some (30, 0)), .inr (some (0, 0))]) rfl (congrArg (fun zz9 => Sum.inl zz9 :: _) (by first | rfl | exact congrArg nI (by omega) | (simp only [il_0, il_1, il_2, il_3, il_4, il_5, il_6, il_7, il_16, il_20, il_40, il_160, pk_mul, nI_add]; done) | (simp only [il_0, il_1, il_2, il_3, il_4, il_5, il_6, il_7, il_16, il_20, il_40, il_160, pk_mul, nI_add]; exact congrArg nI (by omega)))) rfl ?_
  refine X_iald (nx := 540) (t := 7) (len := n) (f := xs) rfl (scrH F B C Wr E I A hg) (Or.inr rfl) (vp_in_nI (by omega) (by omega)) rfl ?_
  rw [nI_clamp (show i + 1 < 2 ^ 31 by omega)]
  refine X_run 4 (pc' := 544) (L' := [some (.inr (some (30, 0))), some (.inr (some (0, 0))), some (.inr (some (10, 0))), some (.inl (nI i))]) (st' := [.inl ((nI i) + 2), .inr (some (30, 0)), .inl ((xs (i + 1))), .inr (some (0, 0))]) rfl ?_
  refine X_eq (st' := [.inl (nI (i + 2)), .inr (some (30, 0)), .inl ((xs (i + 1))), .inr (some (0, 0))]) rfl (congrArg (fun zz9 => Sum.inl zz9 :: _) (by first | rfl | exact congrArg nI (by omega) | (simp only [il_0, il_1, il_2, il_3, il_4, il_5, il_6, il_7, il_16, il_20, il_40, il_160, pk_mul, nI_add]; done) | (simp only [il_0, il_1, il_2, il_3, il_4, il_5, il_6, il_7, il_16, il_20, il_40, il_160, pk_mul, nI_add]; exact congrArg nI (by omega)))) rfl ?_
  refine X_iald (nx := 545) (t := 7) (len := n) (f := xs) rfl (scrH F B C Wr E I A hg) (Or.inr rfl) (vp_in_nI (by omega) (by omega)) rfl ?_
  rw [nI_clamp (show i + 2 < 2 ^ 31 by omega)]
  refine X_callV (vs := [.inl ((xs (i + 1))), .inl ((xs (i + 2)))]) (st := []) (mc := 800) (ms := 4640) rfl ok_Pl_row v_La_75 (cH_obj rfl h0) rfl rfl (Nat.le_of_ble_eq_true rfl) (Nat.le_of_ble_eq_true rfl) (Nat.le_of_ble_eq_true rfl) (Nat.le_of_ble_eq_true rfl) (by show c + 800 ≤ 672385; omega) (by show s + 4640 ≤ 7085092; omega) rfl ?_
  refine c_Pl_row hW hI (fun F1 B1 C1 W1 E1 hI1 => ?_)
  show X M_La_law _ _ 548 [some (.inr (some (30, 0))), some (.inr (some (0, 0))), some (.inr (some (10, 0))), some (.inl (nI i))] [.inl ((sRow σ (xs (i + 1)) (xs (i + 2))))] (cH F1 B1 C1 W1 E1 (mH g I A)) (c + 800) (s + 4640)
  rw [cH_mH]
  refine X_run 5 (pc' := 553) (L' := [some (.inr (some (30, 0))), some (.inr (some (0, 0))), some (.inr (some (10, 0))), some (.inl (nI i))]) (st' := [.inl ((nI i) + 1), .inr (some (30, 0)), .inr (some (10, 0)), .inl ((sRow σ (xs (i + 1)) (xs (i + 2))))]) rfl ?_
  refine X_eq (st' := [.inl (nI (i + 1)), .inr (some (30, 0)), .inr (some (10, 0)), .inl ((sRow σ (xs (i + 1)) (xs (i + 2))))]) rfl (congrArg (fun zz9 => Sum.inl zz9 :: _) (by first | rfl | exact congrArg nI (by omega) | (simp only [il_0, il_1, il_2, il_3, il_4, il_5, il_6, il_7, il_16, il_20, il_40, il_160, pk_mul, nI_add]; done) | (simp only [il_0, il_1, il_2, il_3, il_4, il_5, il_6, il_7, il_16, il_20, il_40, il_160, pk_mul, nI_add]; exact congrArg nI (by omega)))) rfl ?_
  refine X_iald (nx := 554) (t := 7) (len := n) (f := xs) rfl (scrM F1 B1 C1 W1 E1 I A hg) (Or.inr rfl) (vp_in_nI (by omega) (by omega)) rfl ?_
  rw [nI_clamp (show i + 1 < 2 ^ 31 by omega)]
  refine X_run 4 (pc' := 558) (L' := [some (.inr (some (30, 0))), some (.inr (some (0, 0))), some (.inr (some (10, 0))), some (.inl (nI i))]) (st' := [.inl ((nI i) + 2), .inr (some (30, 0)), .inl ((xs (i + 1))), .inr (some (10, 0)), .inl ((sRow σ (xs (i + 1)) (xs (i + 2))))]) rfl ?_
  refine X_eq (st' := [.inl (nI (i + 2)), .inr (some (30, 0)), .inl ((xs (i + 1))), .inr (some (10, 0)), .inl ((sRow σ (xs (i + 1)) (xs (i + 2))))]) rfl (congrArg (fun zz9 => Sum.inl zz9 :: _) (by first | rfl | exact congrArg nI (by omega) | (simp only [il_0, il_1, il_2, il_3, il_4, il_5, il_6, il_7, il_16, il_20, il_40, il_160, pk_mul, nI_add]; done) | (simp only [il_0, il_1, il_2, il_3, il_4, il_5, il_6, il_7, il_16, il_20, il_40, il_160, pk_mul, nI_add]; exact congrArg nI (by omega)))) rfl ?_
  refine X_iald (nx := 559) (t := 7) (len := n) (f := xs) rfl (scrM F1 B1 C1 W1 E1 I A hg) (Or.inr rfl) (vp_in_nI (by omega) (by omega)) rfl ?_
  rw [nI_clamp (show i + 2 < 2 ^ 31 by omega)]
  refine X_callV (vs := [.inl ((xs (i + 1))), .inl ((xs (i + 2)))]) (st := [.inl ((sRow σ (xs (i + 1)) (xs (i + 2))))]) (mc := 0) (ms := 0) rfl ok_Mo_row v_La_78 rfl rfl rfl (Nat.le_of_ble_eq_true rfl) (Nat.le_of_ble_eq_true rfl) (Nat.le_of_ble_eq_true rfl) (Nat.le_of_ble_eq_true rfl) (by show c + 800 + 0 ≤ 672385; omega) (by show s + 4640 + 0 ≤ 7085092; omega) rfl ?_
  refine c_Mo_row hM hW.1 (fun I1 A1 hM1 => ?_)
  show X M_La_law _ _ 562 [some (.inr (some (30, 0))), some (.inr (some (0, 0))), some (.inr (some (10, 0))), some (.inl (nI i))] [.inl ((sRow σ (xs (i + 1)) (xs (i + 2)))), .inl ((sRow σ (xs (i + 1)) (xs (i + 2))))] (mH (cH F1 B1 C1 W1 E1 g) I1 A1) (c + 800) (s + 4640)
  rw [← cH_mH]
  refine X_ic_eq (tgt := 742) (nx := 565) rfl rfl rfl (fun q => ?_) (fun q => ?_)
  · exact X_widen (by omega) (by omega) (kk _ _ _ _ _ _ _ _ hW hI1 hM1)
  · exact absurd rfl q
set_option maxRecDepth 100000 in
theorem law_13 (hg : g (30, 0) = some (.inl (7, n, xs))) (hn : n ≤ 2561) (hi : i + 5 ≤ n) (hc : c + 802 ≤ 672385) (hs : s + 4652 ≤ 7085092) (hW : W2 σ) (hI : CI σ F B C E) (hM : MB σ I A) (kk : KK g i c s) : X M_La_law room_1 Zl 567 [some (.inr (some (30, 0))), some (.inr (some (0, 0))), some (.inr (some (10, 0))), some (.inl (nI i))] [] (cH F B C Wr E (mH g I A)) c s := by
  obtain ⟨see0, hCD⟩ := id hI
  have h0 := hCD.1.1
  refine X_run 5 (pc' := 572) (L' := [some (.inr (some (30, 0))), some (.inr (some (0, 0))), some (.inr (some (10, 0))), some (.inl (nI i))]) (st' := [.inl ((nI i) + 1), .inr (some (30, 0)), .inr (some (0, 0))]) rfl ?_
  refine X_eq (st' := [.inl (nI (i + 1)), .inr (some (30, 0)), .inr (some (0, 0))]) rfl (congrArg (fun zz9 => Sum.inl zz9 :: _) (by first | rfl | exact congrArg nI (by omega) | (simp only [il_0, il_1, il_2, il_3, il_4, il_5, il_6, il_7, il_16, il_20, il_40, il_160, pk_mul, nI_add]; done) | (simp only [il_0, il_1, il_2, il_3, il_4, il_5, il_6, il_7, il_16, il_20, il_40, il_160, pk_mul, nI_add]; exact congrArg nI (by omega)))) rfl ?_
  refine X_iald (nx := 573) (t := 7) (len := n) (f := xs) rfl (scrH F B C Wr E I A hg) (Or.inr rfl) (vp_in_nI (by omega) (by omega)) rfl ?_
  rw [nI_clamp (show i + 1 < 2 ^ 31 by omega)]
  refine X_run 4 (pc' := 577) (L' := [some (.inr (some (30, 0))), some (.inr (some (0, 0))), some (.inr (some (10, 0))), some (.inl (nI i))]) (st' := [.inl ((nI i) + 2), .inr (some (30, 0)), .inl ((xs (i + 1))), .inr (some (0, 0))]) rfl ?_
  refine X_eq (st' := [.inl (nI (i + 2)), .inr (some (30, 0)), .inl ((xs (i + 1))), .inr (some (0, 0))]) rfl (congrArg (fun zz9 => Sum.inl zz9 :: _) (by first | rfl | exact congrArg nI (by omega) | (simp only [il_0, il_1, il_2, il_3, il_4, il_5, il_6, il_7, il_16, il_20, il_40, il_160, pk_mul, nI_add]; done) | (simp only [il_0, il_1, il_2, il_3, il_4, il_5, il_6, il_7, il_16, il_20, il_40, il_160, pk_mul, nI_add]; exact congrArg nI (by omega)))) rfl ?_
  refine X_iald (nx := 578) (t := 7) (len := n) (f := xs) rfl (scrH F B C Wr E I A hg) (Or.inr rfl) (vp_in_nI (by omega) (by omega)) rfl ?_
  rw [nI_clamp (show i + 2 < 2 ^ 31 by omega)]
  refine X_callV (vs := [.inl ((xs (i + 1))), .inl ((xs (i + 2)))]) (st := []) (mc := 800) (ms := 4640) rfl ok_Pl_thing v_La_79 (cH_obj rfl h0) rfl rfl (Nat.le_of_ble_eq_true rfl) (Nat.le_of_ble_eq_true rfl) (Nat.le_of_ble_eq_true rfl) (Nat.le_of_ble_eq_true rfl) (by show c + 800 ≤ 672385; omega) (by show s + 4640 ≤ 7085092; omega) rfl ?_
  refine c_Pl_thing hW hI (fun F1 B1 C1 W1 E1 hI1 => ?_)
  show X M_La_law _ _ 581 [some (.inr (some (30, 0))), some (.inr (some (0, 0))), some (.inr (some (10, 0))), some (.inl (nI i))] [.inl ((sThing σ (xs (i + 1)) (xs (i + 2))))] (cH F1 B1 C1 W1 E1 (mH g I A)) (c + 800) (s + 4640)
  rw [cH_mH]
  refine X_run 5 (pc' := 586) (L' := [some (.inr (some (30, 0))), some (.inr (some (0, 0))), some (.inr (some (10, 0))), some (.inl (nI i))]) (st' := [.inl ((nI i) + 1), .inr (some (30, 0)), .inr (some (10, 0)), .inl ((sThing σ (xs (i + 1)) (xs (i + 2))))]) rfl ?_
  refine X_eq (st' := [.inl (nI (i + 1)), .inr (some (30, 0)), .inr (some (10, 0)), .inl ((sThing σ (xs (i + 1)) (xs (i + 2))))]) rfl (congrArg (fun zz9 => Sum.inl zz9 :: _) (by first | rfl | exact congrArg nI (by omega) | (simp only [il_0, il_1, il_2, il_3, il_4, il_5, il_6, il_7, il_16, il_20, il_40, il_160, pk_mul, nI_add]; done) | (simp only [il_0, il_1, il_2, il_3, il_4, il_5, il_6, il_7, il_16, il_20, il_40, il_160, pk_mul, nI_add]; exact congrArg nI (by omega)))) rfl ?_
  refine X_iald (nx := 587) (t := 7) (len := n) (f := xs) rfl (scrM F1 B1 C1 W1 E1 I A hg) (Or.inr rfl) (vp_in_nI (by omega) (by omega)) rfl ?_
  rw [nI_clamp (show i + 1 < 2 ^ 31 by omega)]
  refine X_run 4 (pc' := 591) (L' := [some (.inr (some (30, 0))), some (.inr (some (0, 0))), some (.inr (some (10, 0))), some (.inl (nI i))]) (st' := [.inl ((nI i) + 2), .inr (some (30, 0)), .inl ((xs (i + 1))), .inr (some (10, 0)), .inl ((sThing σ (xs (i + 1)) (xs (i + 2))))]) rfl ?_
  refine X_eq (st' := [.inl (nI (i + 2)), .inr (some (30, 0)), .inl ((xs (i + 1))), .inr (some (10, 0)), .inl ((sThing σ (xs (i + 1)) (xs (i + 2))))]) rfl (congrArg (fun zz9 => Sum.inl zz9 :: _) (by first | rfl | exact congrArg nI (by omega) | (simp only [il_0, il_1, il_2, il_3, il_4, il_5, il_6, il_7, il_16, il_20, il_40, il_160, pk_mul, nI_add]; done) | (simp only [il_0, il_1, il_2, il_3, il_4, il_5, il_6, il_7, il_16, il_20, il_40, il_160, pk_mul, nI_add]; exact congrArg nI (by omega)))) rfl ?_
  refine X_iald (nx := 592) (t := 7) (len := n) (f := xs) rfl (scrM F1 B1 C1 W1 E1 I A hg) (Or.inr rfl) (vp_in_nI (by omega) (by omega)) rfl ?_
  rw [nI_clamp (show i + 2 < 2 ^ 31 by omega)]
  refine X_callV (vs := [.inl ((xs (i + 1))), .inl ((xs (i + 2)))]) (st := [.inl ((sThing σ (xs (i + 1)) (xs (i + 2))))]) (mc := 0) (ms := 0) rfl ok_Mo_thing v_La_82 rfl rfl rfl (Nat.le_of_ble_eq_true rfl) (Nat.le_of_ble_eq_true rfl) (Nat.le_of_ble_eq_true rfl) (Nat.le_of_ble_eq_true rfl) (by show c + 800 + 0 ≤ 672385; omega) (by show s + 4640 + 0 ≤ 7085092; omega) rfl ?_
  refine c_Mo_thing hM hW.1 (fun I1 A1 hM1 => ?_)
  show X M_La_law _ _ 595 [some (.inr (some (30, 0))), some (.inr (some (0, 0))), some (.inr (some (10, 0))), some (.inl (nI i))] [.inl ((sThing σ (xs (i + 1)) (xs (i + 2)))), .inl ((sThing σ (xs (i + 1)) (xs (i + 2))))] (mH (cH F1 B1 C1 W1 E1 g) I1 A1) (c + 800) (s + 4640)
  rw [← cH_mH]
  refine X_ic_eq (tgt := 742) (nx := 598) rfl rfl rfl (fun q => ?_) (fun q => ?_)
  · exact X_widen (by omega) (by omega) (kk _ _ _ _ _ _ _ _ hW hI1 hM1)
  · exact absurd rfl q
set_option maxRecDepth 100000 in
theorem law_14 (hg : g (30, 0) = some (.inl (7, n, xs))) (hn : n ≤ 2561) (hi : i + 5 ≤ n) (hc : c + 802 ≤ 672385) (hs : s + 4652 ≤ 7085092) (hW : W2 σ) (hI : CI σ F B C E) (hM : MB σ I A) (kk : KK g i c s) : X M_La_law room_1 Zl 600 [some (.inr (some (30, 0))), some (.inr (some (0, 0))), some (.inr (some (10, 0))), some (.inl (nI i))] [] (cH F B C Wr E (mH g I A)) c s := by
  obtain ⟨see0, hCD⟩ := id hI
  have h0 := hCD.1.1
  refine X_run 5 (pc' := 605) (L' := [some (.inr (some (30, 0))), some (.inr (some (0, 0))), some (.inr (some (10, 0))), some (.inl (nI i))]) (st' := [.inl ((nI i) + 1), .inr (some (30, 0)), .inr (some (0, 0))]) rfl ?_
  refine X_eq (st' := [.inl (nI (i + 1)), .inr (some (30, 0)), .inr (some (0, 0))]) rfl (congrArg (fun zz9 => Sum.inl zz9 :: _) (by first | rfl | exact congrArg nI (by omega) | (simp only [il_0, il_1, il_2, il_3, il_4, il_5, il_6, il_7, il_16, il_20, il_40, il_160, pk_mul, nI_add]; done) | (simp only [il_0, il_1, il_2, il_3, il_4, il_5, il_6, il_7, il_16, il_20, il_40, il_160, pk_mul, nI_add]; exact congrArg nI (by omega)))) rfl ?_
  refine X_iald (nx := 606) (t := 7) (len := n) (f := xs) rfl (scrH F B C Wr E I A hg) (Or.inr rfl) (vp_in_nI (by omega) (by omega)) rfl ?_
  rw [nI_clamp (show i + 1 < 2 ^ 31 by omega)]
  refine X_run 4 (pc' := 610) (L' := [some (.inr (some (30, 0))), some (.inr (some (0, 0))), some (.inr (some (10, 0))), some (.inl (nI i))]) (st' := [.inl ((nI i) + 2), .inr (some (30, 0)), .inl ((xs (i + 1))), .inr (some (0, 0))]) rfl ?_
  refine X_eq (st' := [.inl (nI (i + 2)), .inr (some (30, 0)), .inl ((xs (i + 1))), .inr (some (0, 0))]) rfl (congrArg (fun zz9 => Sum.inl zz9 :: _) (by first | rfl | exact congrArg nI (by omega) | (simp only [il_0, il_1, il_2, il_3, il_4, il_5, il_6, il_7, il_16, il_20, il_40, il_160, pk_mul, nI_add]; done) | (simp only [il_0, il_1, il_2, il_3, il_4, il_5, il_6, il_7, il_16, il_20, il_40, il_160, pk_mul, nI_add]; exact congrArg nI (by omega)))) rfl ?_
  refine X_iald (nx := 611) (t := 7) (len := n) (f := xs) rfl (scrH F B C Wr E I A hg) (Or.inr rfl) (vp_in_nI (by omega) (by omega)) rfl ?_
  rw [nI_clamp (show i + 2 < 2 ^ 31 by omega)]
  refine X_run 4 (pc' := 615) (L' := [some (.inr (some (30, 0))), some (.inr (some (0, 0))), some (.inr (some (10, 0))), some (.inl (nI i))]) (st' := [.inl ((nI i) + 3), .inr (some (30, 0)), .inl ((xs (i + 2))), .inl ((xs (i + 1))), .inr (some (0, 0))]) rfl ?_
  refine X_eq (st' := [.inl (nI (i + 3)), .inr (some (30, 0)), .inl ((xs (i + 2))), .inl ((xs (i + 1))), .inr (some (0, 0))]) rfl (congrArg (fun zz9 => Sum.inl zz9 :: _) (by first | rfl | exact congrArg nI (by omega) | (simp only [il_0, il_1, il_2, il_3, il_4, il_5, il_6, il_7, il_16, il_20, il_40, il_160, pk_mul, nI_add]; done) | (simp only [il_0, il_1, il_2, il_3, il_4, il_5, il_6, il_7, il_16, il_20, il_40, il_160, pk_mul, nI_add]; exact congrArg nI (by omega)))) rfl ?_
  refine X_iald (nx := 616) (t := 7) (len := n) (f := xs) rfl (scrH F B C Wr E I A hg) (Or.inr rfl) (vp_in_nI (by omega) (by omega)) rfl ?_
  rw [nI_clamp (show i + 3 < 2 ^ 31 by omega)]
  refine X_run 4 (pc' := 620) (L' := [some (.inr (some (30, 0))), some (.inr (some (0, 0))), some (.inr (some (10, 0))), some (.inl (nI i))]) (st' := [.inl ((nI i) + 4), .inr (some (30, 0)), .inl ((xs (i + 3))), .inl ((xs (i + 2))), .inl ((xs (i + 1))), .inr (some (0, 0))]) rfl ?_
  refine X_eq (st' := [.inl (nI (i + 4)), .inr (some (30, 0)), .inl ((xs (i + 3))), .inl ((xs (i + 2))), .inl ((xs (i + 1))), .inr (some (0, 0))]) rfl (congrArg (fun zz9 => Sum.inl zz9 :: _) (by first | rfl | exact congrArg nI (by omega) | (simp only [il_0, il_1, il_2, il_3, il_4, il_5, il_6, il_7, il_16, il_20, il_40, il_160, pk_mul, nI_add]; done) | (simp only [il_0, il_1, il_2, il_3, il_4, il_5, il_6, il_7, il_16, il_20, il_40, il_160, pk_mul, nI_add]; exact congrArg nI (by omega)))) rfl ?_
  refine X_iald (nx := 621) (t := 7) (len := n) (f := xs) rfl (scrH F B C Wr E I A hg) (Or.inr rfl) (vp_in_nI (by omega) (by omega)) rfl ?_
  rw [nI_clamp (show i + 4 < 2 ^ 31 by omega)]
  refine X_callV (vs := [.inl ((xs (i + 1))), .inl ((xs (i + 2))), .inl ((xs (i + 3))), .inl ((xs (i + 4)))]) (st := []) (mc := 0) (ms := 0) rfl ok_Pl_knows v_La_83 (cH_obj rfl h0) rfl rfl (Nat.le_of_ble_eq_true rfl) (Nat.le_of_ble_eq_true rfl) (Nat.le_of_ble_eq_true rfl) (Nat.le_of_ble_eq_true rfl) (by show c + 0 ≤ 672385; omega) (by show s + 0 ≤ 7085092; omega) rfl ?_
  refine c_Pl_knows hW hCD.1 ?_
  show X M_La_law _ _ 624 [some (.inr (some (30, 0))), some (.inr (some (0, 0))), some (.inr (some (10, 0))), some (.inl (nI i))] [.inl ((sKnows σ (xs (i + 1)) (xs (i + 2)) (xs (i + 3)) (xs (i + 4))))] (cH F B C Wr E (mH g I A)) (c + 0) (s + 0)
  rw [cH_mH]
  refine X_run 5 (pc' := 629) (L' := [some (.inr (some (30, 0))), some (.inr (some (0, 0))), some (.inr (some (10, 0))), some (.inl (nI i))]) (st' := [.inl ((nI i) + 1), .inr (some (30, 0)), .inr (some (10, 0)), .inl ((sKnows σ (xs (i + 1)) (xs (i + 2)) (xs (i + 3)) (xs (i + 4))))]) rfl ?_
  refine X_eq (st' := [.inl (nI (i + 1)), .inr (some (30, 0)), .inr (some (10, 0)), .inl ((sKnows σ (xs (i + 1)) (xs (i + 2)) (xs (i + 3)) (xs (i + 4))))]) rfl (congrArg (fun zz9 => Sum.inl zz9 :: _) (by first | rfl | exact congrArg nI (by omega) | (simp only [il_0, il_1, il_2, il_3, il_4, il_5, il_6, il_7, il_16, il_20, il_40, il_160, pk_mul, nI_add]; done) | (simp only [il_0, il_1, il_2, il_3, il_4, il_5, il_6, il_7, il_16, il_20, il_40, il_160, pk_mul, nI_add]; exact congrArg nI (by omega)))) rfl ?_
  refine X_iald (nx := 630) (t := 7) (len := n) (f := xs) rfl (scrM F B C Wr E I A hg) (Or.inr rfl) (vp_in_nI (by omega) (by omega)) rfl ?_
  rw [nI_clamp (show i + 1 < 2 ^ 31 by omega)]
  refine X_run 4 (pc' := 634) (L' := [some (.inr (some (30, 0))), some (.inr (some (0, 0))), some (.inr (some (10, 0))), some (.inl (nI i))]) (st' := [.inl ((nI i) + 2), .inr (some (30, 0)), .inl ((xs (i + 1))), .inr (some (10, 0)), .inl ((sKnows σ (xs (i + 1)) (xs (i + 2)) (xs (i + 3)) (xs (i + 4))))]) rfl ?_
  refine X_eq (st' := [.inl (nI (i + 2)), .inr (some (30, 0)), .inl ((xs (i + 1))), .inr (some (10, 0)), .inl ((sKnows σ (xs (i + 1)) (xs (i + 2)) (xs (i + 3)) (xs (i + 4))))]) rfl (congrArg (fun zz9 => Sum.inl zz9 :: _) (by first | rfl | exact congrArg nI (by omega) | (simp only [il_0, il_1, il_2, il_3, il_4, il_5, il_6, il_7, il_16, il_20, il_40, il_160, pk_mul, nI_add]; done) | (simp only [il_0, il_1, il_2, il_3, il_4, il_5, il_6, il_7, il_16, il_20, il_40, il_160, pk_mul, nI_add]; exact congrArg nI (by omega)))) rfl ?_
  refine X_iald (nx := 635) (t := 7) (len := n) (f := xs) rfl (scrM F B C Wr E I A hg) (Or.inr rfl) (vp_in_nI (by omega) (by omega)) rfl ?_
  rw [nI_clamp (show i + 2 < 2 ^ 31 by omega)]
  refine X_run 4 (pc' := 639) (L' := [some (.inr (some (30, 0))), some (.inr (some (0, 0))), some (.inr (some (10, 0))), some (.inl (nI i))]) (st' := [.inl ((nI i) + 3), .inr (some (30, 0)), .inl ((xs (i + 2))), .inl ((xs (i + 1))), .inr (some (10, 0)), .inl ((sKnows σ (xs (i + 1)) (xs (i + 2)) (xs (i + 3)) (xs (i + 4))))]) rfl ?_
  refine X_eq (st' := [.inl (nI (i + 3)), .inr (some (30, 0)), .inl ((xs (i + 2))), .inl ((xs (i + 1))), .inr (some (10, 0)), .inl ((sKnows σ (xs (i + 1)) (xs (i + 2)) (xs (i + 3)) (xs (i + 4))))]) rfl (congrArg (fun zz9 => Sum.inl zz9 :: _) (by first | rfl | exact congrArg nI (by omega) | (simp only [il_0, il_1, il_2, il_3, il_4, il_5, il_6, il_7, il_16, il_20, il_40, il_160, pk_mul, nI_add]; done) | (simp only [il_0, il_1, il_2, il_3, il_4, il_5, il_6, il_7, il_16, il_20, il_40, il_160, pk_mul, nI_add]; exact congrArg nI (by omega)))) rfl ?_
  refine X_iald (nx := 640) (t := 7) (len := n) (f := xs) rfl (scrM F B C Wr E I A hg) (Or.inr rfl) (vp_in_nI (by omega) (by omega)) rfl ?_
  rw [nI_clamp (show i + 3 < 2 ^ 31 by omega)]
  refine X_run 4 (pc' := 644) (L' := [some (.inr (some (30, 0))), some (.inr (some (0, 0))), some (.inr (some (10, 0))), some (.inl (nI i))]) (st' := [.inl ((nI i) + 4), .inr (some (30, 0)), .inl ((xs (i + 3))), .inl ((xs (i + 2))), .inl ((xs (i + 1))), .inr (some (10, 0)), .inl ((sKnows σ (xs (i + 1)) (xs (i + 2)) (xs (i + 3)) (xs (i + 4))))]) rfl ?_
  refine X_eq (st' := [.inl (nI (i + 4)), .inr (some (30, 0)), .inl ((xs (i + 3))), .inl ((xs (i + 2))), .inl ((xs (i + 1))), .inr (some (10, 0)), .inl ((sKnows σ (xs (i + 1)) (xs (i + 2)) (xs (i + 3)) (xs (i + 4))))]) rfl (congrArg (fun zz9 => Sum.inl zz9 :: _) (by first | rfl | exact congrArg nI (by omega) | (simp only [il_0, il_1, il_2, il_3, il_4, il_5, il_6, il_7, il_16, il_20, il_40, il_160, pk_mul, nI_add]; done) | (simp only [il_0, il_1, il_2, il_3, il_4, il_5, il_6, il_7, il_16, il_20, il_40, il_160, pk_mul, nI_add]; exact congrArg nI (by omega)))) rfl ?_
  refine X_iald (nx := 645) (t := 7) (len := n) (f := xs) rfl (scrM F B C Wr E I A hg) (Or.inr rfl) (vp_in_nI (by omega) (by omega)) rfl ?_
  rw [nI_clamp (show i + 4 < 2 ^ 31 by omega)]
  refine X_callV (vs := [.inl ((xs (i + 1))), .inl ((xs (i + 2))), .inl ((xs (i + 3))), .inl ((xs (i + 4)))]) (st := [.inl ((sKnows σ (xs (i + 1)) (xs (i + 2)) (xs (i + 3)) (xs (i + 4))))]) (mc := 0) (ms := 0) rfl ok_Mo_knows4 v_La_87 rfl rfl rfl (Nat.le_of_ble_eq_true rfl) (Nat.le_of_ble_eq_true rfl) (Nat.le_of_ble_eq_true rfl) (Nat.le_of_ble_eq_true rfl) (by show c + 0 + 0 ≤ 672385; omega) (by show s + 0 + 0 ≤ 7085092; omega) rfl ?_
  refine c_Mo_knows4 hM ?_
  show X M_La_law _ _ 648 [some (.inr (some (30, 0))), some (.inr (some (0, 0))), some (.inr (some (10, 0))), some (.inl (nI i))] [.inl ((sKnows σ (xs (i + 1)) (xs (i + 2)) (xs (i + 3)) (xs (i + 4)))), .inl ((sKnows σ (xs (i + 1)) (xs (i + 2)) (xs (i + 3)) (xs (i + 4))))] (mH (cH F B C Wr E g) I A) (c + 0) (s + 0)
  rw [← cH_mH]
  refine X_ic_eq (tgt := 742) (nx := 651) rfl rfl rfl (fun q => ?_) (fun q => ?_)
  · exact X_widen (by omega) (by omega) (kk _ _ _ _ _ _ _ _ hW hI hM)
  · exact absurd rfl q
set_option maxRecDepth 100000 in
theorem law_15 (hg : g (30, 0) = some (.inl (7, n, xs))) (hn : n ≤ 2561) (hi : i + 5 ≤ n) (hc : c + 802 ≤ 672385) (hs : s + 4652 ≤ 7085092) (hW : W2 σ) (hI : CI σ F B C E) (hM : MB σ I A) (kk : KK g i c s) : X M_La_law room_1 Zl 653 [some (.inr (some (30, 0))), some (.inr (some (0, 0))), some (.inr (some (10, 0))), some (.inl (nI i))] [] (cH F B C Wr E (mH g I A)) c s := by
  obtain ⟨see0, hCD⟩ := id hI
  have h0 := hCD.1.1
  refine X_run 5 (pc' := 658) (L' := [some (.inr (some (30, 0))), some (.inr (some (0, 0))), some (.inr (some (10, 0))), some (.inl (nI i))]) (st' := [.inl ((nI i) + 1), .inr (some (30, 0)), .inr (some (0, 0))]) rfl ?_
  refine X_eq (st' := [.inl (nI (i + 1)), .inr (some (30, 0)), .inr (some (0, 0))]) rfl (congrArg (fun zz9 => Sum.inl zz9 :: _) (by first | rfl | exact congrArg nI (by omega) | (simp only [il_0, il_1, il_2, il_3, il_4, il_5, il_6, il_7, il_16, il_20, il_40, il_160, pk_mul, nI_add]; done) | (simp only [il_0, il_1, il_2, il_3, il_4, il_5, il_6, il_7, il_16, il_20, il_40, il_160, pk_mul, nI_add]; exact congrArg nI (by omega)))) rfl ?_
  refine X_iald (nx := 659) (t := 7) (len := n) (f := xs) rfl (scrH F B C Wr E I A hg) (Or.inr rfl) (vp_in_nI (by omega) (by omega)) rfl ?_
  rw [nI_clamp (show i + 1 < 2 ^ 31 by omega)]
  refine X_callV (vs := [.inl ((xs (i + 1)))]) (st := []) (mc := 0) (ms := 0) rfl ok_Pl_keeps v_La_88 (cH_obj rfl h0) rfl rfl (Nat.le_of_ble_eq_true rfl) (Nat.le_of_ble_eq_true rfl) (Nat.le_of_ble_eq_true rfl) (Nat.le_of_ble_eq_true rfl) (by show c + 0 ≤ 672385; omega) (by show s + 0 ≤ 7085092; omega) rfl ?_
  refine c_Pl_keeps hW hCD.1 ?_
  show X M_La_law _ _ 662 [some (.inr (some (30, 0))), some (.inr (some (0, 0))), some (.inr (some (10, 0))), some (.inl (nI i))] [.inl ((sKeeps σ (xs (i + 1))))] (cH F B C Wr E (mH g I A)) (c + 0) (s + 0)
  rw [cH_mH]
  refine X_run 5 (pc' := 667) (L' := [some (.inr (some (30, 0))), some (.inr (some (0, 0))), some (.inr (some (10, 0))), some (.inl (nI i))]) (st' := [.inl ((nI i) + 1), .inr (some (30, 0)), .inr (some (10, 0)), .inl ((sKeeps σ (xs (i + 1))))]) rfl ?_
  refine X_eq (st' := [.inl (nI (i + 1)), .inr (some (30, 0)), .inr (some (10, 0)), .inl ((sKeeps σ (xs (i + 1))))]) rfl (congrArg (fun zz9 => Sum.inl zz9 :: _) (by first | rfl | exact congrArg nI (by omega) | (simp only [il_0, il_1, il_2, il_3, il_4, il_5, il_6, il_7, il_16, il_20, il_40, il_160, pk_mul, nI_add]; done) | (simp only [il_0, il_1, il_2, il_3, il_4, il_5, il_6, il_7, il_16, il_20, il_40, il_160, pk_mul, nI_add]; exact congrArg nI (by omega)))) rfl ?_
  refine X_iald (nx := 668) (t := 7) (len := n) (f := xs) rfl (scrM F B C Wr E I A hg) (Or.inr rfl) (vp_in_nI (by omega) (by omega)) rfl ?_
  rw [nI_clamp (show i + 1 < 2 ^ 31 by omega)]
  refine X_callV (vs := [.inl ((xs (i + 1)))]) (st := [.inl ((sKeeps σ (xs (i + 1))))]) (mc := 0) (ms := 0) rfl ok_Mo_keeps v_La_91 rfl rfl rfl (Nat.le_of_ble_eq_true rfl) (Nat.le_of_ble_eq_true rfl) (Nat.le_of_ble_eq_true rfl) (Nat.le_of_ble_eq_true rfl) (by show c + 0 + 0 ≤ 672385; omega) (by show s + 0 + 0 ≤ 7085092; omega) rfl ?_
  refine c_Mo_keeps hM ?_
  show X M_La_law _ _ 671 [some (.inr (some (30, 0))), some (.inr (some (0, 0))), some (.inr (some (10, 0))), some (.inl (nI i))] [.inl ((sKeeps σ (xs (i + 1)))), .inl ((sKeeps σ (xs (i + 1))))] (mH (cH F B C Wr E g) I A) (c + 0) (s + 0)
  rw [← cH_mH]
  refine X_ic_eq (tgt := 742) (nx := 674) rfl rfl rfl (fun q => ?_) (fun q => ?_)
  · exact X_widen (by omega) (by omega) (kk _ _ _ _ _ _ _ _ hW hI hM)
  · exact absurd rfl q
set_option maxRecDepth 100000 in
theorem law_16 (hg : g (30, 0) = some (.inl (7, n, xs))) (hn : n ≤ 2561) (hi : i + 5 ≤ n) (hc : c + 802 ≤ 672385) (hs : s + 4652 ≤ 7085092) (hW : W2 σ) (hI : CI σ F B C E) (hM : MB σ I A) (kk : KK g i c s) : X M_La_law room_1 Zl 676 [some (.inr (some (30, 0))), some (.inr (some (0, 0))), some (.inr (some (10, 0))), some (.inl (nI i))] [] (cH F B C Wr E (mH g I A)) c s := by
  obtain ⟨see0, hCD⟩ := id hI
  have h0 := hCD.1.1
  refine X_run 5 (pc' := 681) (L' := [some (.inr (some (30, 0))), some (.inr (some (0, 0))), some (.inr (some (10, 0))), some (.inl (nI i))]) (st' := [.inl ((nI i) + 1), .inr (some (30, 0)), .inr (some (0, 0))]) rfl ?_
  refine X_eq (st' := [.inl (nI (i + 1)), .inr (some (30, 0)), .inr (some (0, 0))]) rfl (congrArg (fun zz9 => Sum.inl zz9 :: _) (by first | rfl | exact congrArg nI (by omega) | (simp only [il_0, il_1, il_2, il_3, il_4, il_5, il_6, il_7, il_16, il_20, il_40, il_160, pk_mul, nI_add]; done) | (simp only [il_0, il_1, il_2, il_3, il_4, il_5, il_6, il_7, il_16, il_20, il_40, il_160, pk_mul, nI_add]; exact congrArg nI (by omega)))) rfl ?_
  refine X_iald (nx := 682) (t := 7) (len := n) (f := xs) rfl (scrH F B C Wr E I A hg) (Or.inr rfl) (vp_in_nI (by omega) (by omega)) rfl ?_
  rw [nI_clamp (show i + 1 < 2 ^ 31 by omega)]
  refine X_run 4 (pc' := 686) (L' := [some (.inr (some (30, 0))), some (.inr (some (0, 0))), some (.inr (some (10, 0))), some (.inl (nI i))]) (st' := [.inl ((nI i) + 2), .inr (some (30, 0)), .inl ((xs (i + 1))), .inr (some (0, 0))]) rfl ?_
  refine X_eq (st' := [.inl (nI (i + 2)), .inr (some (30, 0)), .inl ((xs (i + 1))), .inr (some (0, 0))]) rfl (congrArg (fun zz9 => Sum.inl zz9 :: _) (by first | rfl | exact congrArg nI (by omega) | (simp only [il_0, il_1, il_2, il_3, il_4, il_5, il_6, il_7, il_16, il_20, il_40, il_160, pk_mul, nI_add]; done) | (simp only [il_0, il_1, il_2, il_3, il_4, il_5, il_6, il_7, il_16, il_20, il_40, il_160, pk_mul, nI_add]; exact congrArg nI (by omega)))) rfl ?_
  refine X_iald (nx := 687) (t := 7) (len := n) (f := xs) rfl (scrH F B C Wr E I A hg) (Or.inr rfl) (vp_in_nI (by omega) (by omega)) rfl ?_
  rw [nI_clamp (show i + 2 < 2 ^ 31 by omega)]
  refine X_run 4 (pc' := 691) (L' := [some (.inr (some (30, 0))), some (.inr (some (0, 0))), some (.inr (some (10, 0))), some (.inl (nI i))]) (st' := [.inl ((nI i) + 3), .inr (some (30, 0)), .inl ((xs (i + 2))), .inl ((xs (i + 1))), .inr (some (0, 0))]) rfl ?_
  refine X_eq (st' := [.inl (nI (i + 3)), .inr (some (30, 0)), .inl ((xs (i + 2))), .inl ((xs (i + 1))), .inr (some (0, 0))]) rfl (congrArg (fun zz9 => Sum.inl zz9 :: _) (by first | rfl | exact congrArg nI (by omega) | (simp only [il_0, il_1, il_2, il_3, il_4, il_5, il_6, il_7, il_16, il_20, il_40, il_160, pk_mul, nI_add]; done) | (simp only [il_0, il_1, il_2, il_3, il_4, il_5, il_6, il_7, il_16, il_20, il_40, il_160, pk_mul, nI_add]; exact congrArg nI (by omega)))) rfl ?_
  refine X_iald (nx := 692) (t := 7) (len := n) (f := xs) rfl (scrH F B C Wr E I A hg) (Or.inr rfl) (vp_in_nI (by omega) (by omega)) rfl ?_
  rw [nI_clamp (show i + 3 < 2 ^ 31 by omega)]
  refine X_callV (vs := [.inl ((xs (i + 1))), .inl ((xs (i + 2))), .inl ((xs (i + 3)))]) (st := []) (mc := 0) (ms := 0) rfl ok_Pl_deed v_La_92 (cH_obj rfl h0) rfl rfl (Nat.le_of_ble_eq_true rfl) (Nat.le_of_ble_eq_true rfl) (Nat.le_of_ble_eq_true rfl) (Nat.le_of_ble_eq_true rfl) (by show c + 0 ≤ 672385; omega) (by show s + 0 ≤ 7085092; omega) rfl ?_
  refine c_Pl_deed hW hCD.1 ?_
  show X M_La_law _ _ 695 [some (.inr (some (30, 0))), some (.inr (some (0, 0))), some (.inr (some (10, 0))), some (.inl (nI i))] [.inl ((sDeed σ (xs (i + 1)) (xs (i + 2)) (xs (i + 3))))] (cH F B C Wr E (mH g I A)) (c + 0) (s + 0)
  rw [cH_mH]
  refine X_run 5 (pc' := 700) (L' := [some (.inr (some (30, 0))), some (.inr (some (0, 0))), some (.inr (some (10, 0))), some (.inl (nI i))]) (st' := [.inl ((nI i) + 1), .inr (some (30, 0)), .inr (some (10, 0)), .inl ((sDeed σ (xs (i + 1)) (xs (i + 2)) (xs (i + 3))))]) rfl ?_
  refine X_eq (st' := [.inl (nI (i + 1)), .inr (some (30, 0)), .inr (some (10, 0)), .inl ((sDeed σ (xs (i + 1)) (xs (i + 2)) (xs (i + 3))))]) rfl (congrArg (fun zz9 => Sum.inl zz9 :: _) (by first | rfl | exact congrArg nI (by omega) | (simp only [il_0, il_1, il_2, il_3, il_4, il_5, il_6, il_7, il_16, il_20, il_40, il_160, pk_mul, nI_add]; done) | (simp only [il_0, il_1, il_2, il_3, il_4, il_5, il_6, il_7, il_16, il_20, il_40, il_160, pk_mul, nI_add]; exact congrArg nI (by omega)))) rfl ?_
  refine X_iald (nx := 701) (t := 7) (len := n) (f := xs) rfl (scrM F B C Wr E I A hg) (Or.inr rfl) (vp_in_nI (by omega) (by omega)) rfl ?_
  rw [nI_clamp (show i + 1 < 2 ^ 31 by omega)]
  refine X_run 4 (pc' := 705) (L' := [some (.inr (some (30, 0))), some (.inr (some (0, 0))), some (.inr (some (10, 0))), some (.inl (nI i))]) (st' := [.inl ((nI i) + 2), .inr (some (30, 0)), .inl ((xs (i + 1))), .inr (some (10, 0)), .inl ((sDeed σ (xs (i + 1)) (xs (i + 2)) (xs (i + 3))))]) rfl ?_
  refine X_eq (st' := [.inl (nI (i + 2)), .inr (some (30, 0)), .inl ((xs (i + 1))), .inr (some (10, 0)), .inl ((sDeed σ (xs (i + 1)) (xs (i + 2)) (xs (i + 3))))]) rfl (congrArg (fun zz9 => Sum.inl zz9 :: _) (by first | rfl | exact congrArg nI (by omega) | (simp only [il_0, il_1, il_2, il_3, il_4, il_5, il_6, il_7, il_16, il_20, il_40, il_160, pk_mul, nI_add]; done) | (simp only [il_0, il_1, il_2, il_3, il_4, il_5, il_6, il_7, il_16, il_20, il_40, il_160, pk_mul, nI_add]; exact congrArg nI (by omega)))) rfl ?_
  refine X_iald (nx := 706) (t := 7) (len := n) (f := xs) rfl (scrM F B C Wr E I A hg) (Or.inr rfl) (vp_in_nI (by omega) (by omega)) rfl ?_
  rw [nI_clamp (show i + 2 < 2 ^ 31 by omega)]
  refine X_run 4 (pc' := 710) (L' := [some (.inr (some (30, 0))), some (.inr (some (0, 0))), some (.inr (some (10, 0))), some (.inl (nI i))]) (st' := [.inl ((nI i) + 3), .inr (some (30, 0)), .inl ((xs (i + 2))), .inl ((xs (i + 1))), .inr (some (10, 0)), .inl ((sDeed σ (xs (i + 1)) (xs (i + 2)) (xs (i + 3))))]) rfl ?_
  refine X_eq (st' := [.inl (nI (i + 3)), .inr (some (30, 0)), .inl ((xs (i + 2))), .inl ((xs (i + 1))), .inr (some (10, 0)), .inl ((sDeed σ (xs (i + 1)) (xs (i + 2)) (xs (i + 3))))]) rfl (congrArg (fun zz9 => Sum.inl zz9 :: _) (by first | rfl | exact congrArg nI (by omega) | (simp only [il_0, il_1, il_2, il_3, il_4, il_5, il_6, il_7, il_16, il_20, il_40, il_160, pk_mul, nI_add]; done) | (simp only [il_0, il_1, il_2, il_3, il_4, il_5, il_6, il_7, il_16, il_20, il_40, il_160, pk_mul, nI_add]; exact congrArg nI (by omega)))) rfl ?_
  refine X_iald (nx := 711) (t := 7) (len := n) (f := xs) rfl (scrM F B C Wr E I A hg) (Or.inr rfl) (vp_in_nI (by omega) (by omega)) rfl ?_
  rw [nI_clamp (show i + 3 < 2 ^ 31 by omega)]
  refine X_callV (vs := [.inl ((xs (i + 1))), .inl ((xs (i + 2))), .inl ((xs (i + 3)))]) (st := [.inl ((sDeed σ (xs (i + 1)) (xs (i + 2)) (xs (i + 3))))]) (mc := 0) (ms := 0) rfl ok_Mo_deed v_La_95 rfl rfl rfl (Nat.le_of_ble_eq_true rfl) (Nat.le_of_ble_eq_true rfl) (Nat.le_of_ble_eq_true rfl) (Nat.le_of_ble_eq_true rfl) (by show c + 0 + 0 ≤ 672385; omega) (by show s + 0 + 0 ≤ 7085092; omega) rfl ?_
  refine c_Mo_deed hM ?_
  show X M_La_law _ _ 714 [some (.inr (some (30, 0))), some (.inr (some (0, 0))), some (.inr (some (10, 0))), some (.inl (nI i))] [.inl ((sDeed σ (xs (i + 1)) (xs (i + 2)) (xs (i + 3)))), .inl ((sDeed σ (xs (i + 1)) (xs (i + 2)) (xs (i + 3))))] (mH (cH F B C Wr E g) I A) (c + 0) (s + 0)
  rw [← cH_mH]
  refine X_ic_eq (tgt := 742) (nx := 717) rfl rfl rfl (fun q => ?_) (fun q => ?_)
  · exact X_widen (by omega) (by omega) (kk _ _ _ _ _ _ _ _ hW hI hM)
  · exact absurd rfl q
set_option maxRecDepth 100000 in
theorem law_17 (hg : g (30, 0) = some (.inl (7, n, xs))) (hn : n ≤ 2561) (hi : i + 5 ≤ n) (hc : c + 802 ≤ 672385) (hs : s + 4652 ≤ 7085092) (hW : W2 σ) (hI : CI σ F B C E) (hM : MB σ I A) (kk : KK g i c s) : X M_La_law room_1 Zl 719 [some (.inr (some (30, 0))), some (.inr (some (0, 0))), some (.inr (some (10, 0))), some (.inl (nI i))] [] (cH F B C Wr E (mH g I A)) c s := by
  obtain ⟨see0, hCD⟩ := id hI
  have h0 := hCD.1.1
  refine X_run 5 (pc' := 724) (L' := [some (.inr (some (30, 0))), some (.inr (some (0, 0))), some (.inr (some (10, 0))), some (.inl (nI i))]) (st' := [.inl ((nI i) + 1), .inr (some (30, 0)), .inr (some (0, 0))]) rfl ?_
  refine X_eq (st' := [.inl (nI (i + 1)), .inr (some (30, 0)), .inr (some (0, 0))]) rfl (congrArg (fun zz9 => Sum.inl zz9 :: _) (by first | rfl | exact congrArg nI (by omega) | (simp only [il_0, il_1, il_2, il_3, il_4, il_5, il_6, il_7, il_16, il_20, il_40, il_160, pk_mul, nI_add]; done) | (simp only [il_0, il_1, il_2, il_3, il_4, il_5, il_6, il_7, il_16, il_20, il_40, il_160, pk_mul, nI_add]; exact congrArg nI (by omega)))) rfl ?_
  refine X_iald (nx := 725) (t := 7) (len := n) (f := xs) rfl (scrH F B C Wr E I A hg) (Or.inr rfl) (vp_in_nI (by omega) (by omega)) rfl ?_
  rw [nI_clamp (show i + 1 < 2 ^ 31 by omega)]
  refine X_callV (vs := [.inl ((xs (i + 1)))]) (st := []) (mc := 0) (ms := 0) rfl ok_Pl_about v_La_96 (cH_obj rfl h0) rfl rfl (Nat.le_of_ble_eq_true rfl) (Nat.le_of_ble_eq_true rfl) (Nat.le_of_ble_eq_true rfl) (Nat.le_of_ble_eq_true rfl) (by show c + 0 ≤ 672385; omega) (by show s + 0 ≤ 7085092; omega) rfl ?_
  refine c_Pl_about hW hCD.1 ?_
  show X M_La_law _ _ 728 [some (.inr (some (30, 0))), some (.inr (some (0, 0))), some (.inr (some (10, 0))), some (.inl (nI i))] [.inl ((sAbout σ (xs (i + 1))))] (cH F B C Wr E (mH g I A)) (c + 0) (s + 0)
  rw [cH_mH]
  refine X_run 5 (pc' := 733) (L' := [some (.inr (some (30, 0))), some (.inr (some (0, 0))), some (.inr (some (10, 0))), some (.inl (nI i))]) (st' := [.inl ((nI i) + 1), .inr (some (30, 0)), .inr (some (10, 0)), .inl ((sAbout σ (xs (i + 1))))]) rfl ?_
  refine X_eq (st' := [.inl (nI (i + 1)), .inr (some (30, 0)), .inr (some (10, 0)), .inl ((sAbout σ (xs (i + 1))))]) rfl (congrArg (fun zz9 => Sum.inl zz9 :: _) (by first | rfl | exact congrArg nI (by omega) | (simp only [il_0, il_1, il_2, il_3, il_4, il_5, il_6, il_7, il_16, il_20, il_40, il_160, pk_mul, nI_add]; done) | (simp only [il_0, il_1, il_2, il_3, il_4, il_5, il_6, il_7, il_16, il_20, il_40, il_160, pk_mul, nI_add]; exact congrArg nI (by omega)))) rfl ?_
  refine X_iald (nx := 734) (t := 7) (len := n) (f := xs) rfl (scrM F B C Wr E I A hg) (Or.inr rfl) (vp_in_nI (by omega) (by omega)) rfl ?_
  rw [nI_clamp (show i + 1 < 2 ^ 31 by omega)]
  refine X_callV (vs := [.inl ((xs (i + 1)))]) (st := [.inl ((sAbout σ (xs (i + 1))))]) (mc := 0) (ms := 0) rfl ok_Mo_about v_La_99 rfl rfl rfl (Nat.le_of_ble_eq_true rfl) (Nat.le_of_ble_eq_true rfl) (Nat.le_of_ble_eq_true rfl) (Nat.le_of_ble_eq_true rfl) (by show c + 0 + 0 ≤ 672385; omega) (by show s + 0 + 0 ≤ 7085092; omega) rfl ?_
  refine c_Mo_about hM ?_
  show X M_La_law _ _ 737 [some (.inr (some (30, 0))), some (.inr (some (0, 0))), some (.inr (some (10, 0))), some (.inl (nI i))] [.inl ((sAbout σ (xs (i + 1)))), .inl ((sAbout σ (xs (i + 1))))] (mH (cH F B C Wr E g) I A) (c + 0) (s + 0)
  rw [← cH_mH]
  refine X_ic_eq (tgt := 742) (nx := 740) rfl rfl rfl (fun q => ?_) (fun q => ?_)
  · exact X_widen (by omega) (by omega) (kk _ _ _ _ _ _ _ _ hW hI hM)
  · exact absurd rfl q
end

