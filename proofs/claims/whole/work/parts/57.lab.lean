/-! the law's body -/
/-- the law's own end, with 1 on the stack -/
theorem lw_retA {p : Program} {l : Launch} {e : Env} {s : State} {m : MethodId} {below : List Frame} {meth : Method} {c : Code} {args : Array Value} (hx : p.tables.exec = Jvm.exec) (hb : c.code = code) (hr : meth.sig.returnType = ret) (hlocks : meth.locks = false) {pc : Nat} {H : Heap} {ls : Array Slot} (hdg : decode code pc = .ok (.ireturn, 1)) : W p l e room_1 s m args below meth c H [] 672385 7085092 (lw_Z below args s) (F0 m pc ls [.int 1]) := by
  intro T hT X
  obtain ⟨fs, hret, hrun, hended, hW, hframe⟩ := X.leave (v := some (.int 1)) (hlocks := hlocks) (fun h => by rw [hr] at h; cases h)
  have hmeth' : T.vm.method? m = some meth := X.method'
  refine ⟨T.setFrames fs, ?_, .returned (some (.int 1)), hrun, hended, rfl, ⟨_, rfl⟩, hW, hframe⟩
  jvm_step X.here [X.here.top, hx, hb, hdg, hmeth', hr, ret, narrow_b1]
  (try refine ⟨rfl, ?_⟩); (try refine ⟨rfl, ?_⟩)
  first | (intro acts; rw [hret _ acts rfl rfl rfl]) | rw [hret _ _ rfl rfl rfl]
  exact Steps.refl _
set_option maxRecDepth 100000 in
theorem X_lret {pc c sl : Nat} {L : List (Option AV)} {h : AH} (hd : mi M_La_law pc = some (.ireturn, 1)) (h1 : c ≤ 672385) (h2 : sl ≤ 7085092) : X M_La_law room_1 Zl pc L [.inl 1] h c sl := by
  intro p l e s m args below meth cd G base α0 D0 α H locs ls hC hb hD hR hS hL hst
  by_cases q : base = s.heap.size
  · have k := lw_retA (p := p) (l := l) (e := e) (s := s) (m := m) (below := below) (meth := meth) (c := cd) (args := args) (H := H) (ls := ls) hC.1 hC.2.1 hC.2.2.1 hC.2.2.2.2.2.2.1 (mi_dec hd hC.2.2.2.2.2.2.2.2.2)
    refine W.widen h1 h2 (va_forget (fun z hz => by rw [← q]; exact hS.2.2 z hz) ?_)
    intro T hT X
    obtain ⟨t, a1, a2⟩ := k T hT X
    exact ⟨t, a1, fun _ => a2⟩
  · intro T hT X
    exact ⟨_, Steps.refl _, fun z => absurd z q⟩
section
variable {h : AH} {Q : Option AV → AH → Prop} {n : Nat} {xs : Nat → Int32}
theorem c_La_cell (hg : h (30, 0) = some (.inl (7, n, xs))) (hn : n ≤ 2561) (hq : Q (some (.inl (if 0 < n then xs 0 else 0))) h) : X M_La_cell (rmo M_La_cell 0 0) (Zm Q 0 0) 0 (ini M_La_cell [.inr (some (30, 0)), .inl 0]) [] h 0 0 := by
  show X M_La_cell _ _ 0 [some (.inr (some (30, 0))), some (.inl (0))] [] h 0 0
  refine X_eq (L' := [some (.inr (some (30, 0))), some (.inl (nI (0)))]) (congrArg (fun zz9 : Int32 => ([some (.inr (some (30, 0))), some (.inl zz9)] : List (Option AV))) (by first | rfl | exact congrArg nI (by omega) | (simp only [il_0, il_1, il_2, il_3, il_4, il_5, il_6, il_7, il_16, il_20, il_40, il_160, pk_mul, nI_add]; done) | (simp only [il_0, il_1, il_2, il_3, il_4, il_5, il_6, il_7, il_16, il_20, il_40, il_160, pk_mul, nI_add]; exact congrArg nI (by omega)))) rfl rfl ?_
  refine X_run 2 (pc' := 2) (L' := [some (.inr (some (30, 0))), some (.inl (nI (0)))]) (st' := [.inr (some (30, 0)), .inl (nI (0))]) rfl ?_
  refine X_alen (nx := 3) (t := 7) (len := n) (f := xs) rfl hg (Or.inr rfl) rfl ?_
  refine X_ic_ge (tgt := 12) (nx := 6) rfl rfl rfl (fun q => ?_) (fun q => ?_)
  · have q := li_le (by omega) (by omega) q
    refine X_run 1 (pc' := 13) (L' := [some (.inr (some (30, 0))), some (.inl (nI 0))]) (st' := [.inl (0)]) rfl ?_
    exact X_iret rfl rfl rfl (Nat.le_refl _) (Nat.le_refl _) (qi (by rw [if_neg (by omega)]) hq)
  · have q := li_nle (by omega) (by omega) q
    refine X_run 2 (pc' := 8) (L' := [some (.inr (some (30, 0))), some (.inl (nI 0))]) (st' := [.inl (nI 0), .inr (some (30, 0))]) rfl ?_
    refine X_iald (nx := 9) (t := 7) (len := n) (f := xs) rfl hg (Or.inr rfl) (vp_in_nI q (by omega)) rfl ?_
    rw [nI_clamp (by omega)]
    refine X_run 1 (pc' := 13) (L' := [some (.inr (some (30, 0))), some (.inl (nI 0))]) (st' := [.inl (xs 0)]) rfl ?_
    exact X_iret rfl rfl rfl (Nat.le_refl _) (Nat.le_refl _) (qi (by rw [if_pos q]) hq)
set_option maxRecDepth 100000 in
theorem law_loop {g : AH} (hg : g (30, 0) = some (.inl (7, n, xs))) (hn : n ≤ 2561) : ∀ k, k ≤ 512 → ∀ (σ : Sg) (F : CF) (B : CB) (C : CC) (Wr : Nat → Option Nd) (E : Nat → Nat → Bool) (I : Nat → Int32) (A : Nat → Nat → Int32), W2 σ → CI σ F B C E → MB σ I A → X M_La_law room_1 Zl 28 [some (.inr (some (30, 0))), some (.inr (some (0, 0))), some (.inr (some (10, 0))), some (.inl (nI (1 + 5 * k)))] [] (cH F B C Wr E (mH g I A)) (29 + 802 * k) (4499 + 4652 * k) := by
  refine up_ind 512 _ ?_
  intro k hk ih σ F B C Wr E I A hW hI hM
  obtain ⟨i, ei⟩ : ∃ i, i = 1 + 5 * k := ⟨_, rfl⟩
  rw [← ei]
  refine X_run 2 (pc' := 30) (L' := [some (.inr (some (30, 0))), some (.inr (some (0, 0))), some (.inr (some (10, 0))), some (.inl (nI i))]) (st' := [.inr (some (30, 0)), .inl (nI i)]) rfl ?_
  refine X_alen (nx := 31) (t := 7) (len := n) (f := xs) rfl (scrH F B C Wr E I A hg) (Or.inr rfl) rfl ?_
  refine X_run 2 (pc' := 33) (L' := [some (.inr (some (30, 0))), some (.inr (some (0, 0))), some (.inr (some (10, 0))), some (.inl (nI i))]) (st' := [.inl ((nI n) - 5), .inl (nI i)]) rfl ?_
  refine X_ic_gt (tgt := 748) (nx := 36) rfl rfl rfl (fun q => ?_) (fun q => ?_)
  · refine X_run 1 (pc' := 749) (L' := [some (.inr (some (30, 0))), some (.inr (some (0, 0))), some (.inr (some (10, 0))), some (.inl (nI i))]) (st' := [.inl (1)]) rfl ?_
    exact X_lret rfl (by omega) (by omega)
  · have hi : i + 5 ≤ n := by
      rw [i32_lt, show nI n - 5 = nI n - nI 5 from rfl, pk_sub_toInt (by omega) (by omega), nI_toInt (by omega)] at q
      omega
    have kk : KK g i (29 + 802 * k) (4499 + 4652 * k) := by
      intro σ F B C Wr E I A hW hI hM
      refine X_run 2 (pc' := 28) (L' := [some (.inr (some (30, 0))), some (.inr (some (0, 0))), some (.inr (some (10, 0))), some (.inl (nI i + 5))]) (st' := []) rfl ?_
      refine X_eq (L' := [some (.inr (some (30, 0))), some (.inr (some (0, 0))), some (.inr (some (10, 0))), some (.inl (nI (1 + 5 * (k + 1))))]) (congrArg (fun zz9 : Int32 => ([some (.inr (some (30, 0))), some (.inr (some (0, 0))), some (.inr (some (10, 0))), some (.inl zz9)] : List (Option AV))) (by first | rfl | exact congrArg nI (by omega) | (simp only [il_0, il_1, il_2, il_3, il_4, il_5, il_6, il_7, il_16, il_20, il_40, il_160, pk_mul, nI_add]; done) | (simp only [il_0, il_1, il_2, il_3, il_4, il_5, il_6, il_7, il_16, il_20, il_40, il_160, pk_mul, nI_add]; exact congrArg nI (by omega)))) rfl rfl ?_
      exact X_widen (by omega) (by omega) (ih (by omega) σ F B C Wr E I A hW hI hM)
    refine X_run 2 (pc' := 38) (L' := [some (.inr (some (30, 0))), some (.inr (some (0, 0))), some (.inr (some (10, 0))), some (.inl (nI i))]) (st' := [.inl (nI i), .inr (some (30, 0))]) rfl ?_
    refine X_iald (nx := 39) (t := 7) (len := n) (f := xs) rfl (scrH F B C Wr E I A hg) (Or.inr rfl) (vp_in_nI (by omega) (by omega)) rfl ?_
    refine X_run 2 (pc' := 42) (L' := [some (.inr (some (30, 0))), some (.inr (some (0, 0))), some (.inr (some (10, 0))), some (.inl (nI i))]) (st' := [.inl ((xs (nI i).toNatClampNeg) &&& 31)]) rfl ?_
    refine X_sw_0_18 (t0 := 128) (t1 := 151) (t2 := 184) (t3 := 227) (t4 := 270) (t5 := 313) (t6 := 346) (t7 := 379) (t8 := 422) (t9 := 465) (t10 := 488) (t11 := 521) (t12 := 534) (t13 := 567) (t14 := 600) (t15 := 653) (t16 := 676) (t17 := 719) (tout := 742) rfl rfl rfl rfl rfl rfl rfl rfl rfl rfl rfl rfl rfl rfl rfl rfl rfl rfl rfl rfl (fun hw => ?_) (fun hw => ?_) (fun hw => ?_) (fun hw => ?_) (fun hw => ?_) (fun hw => ?_) (fun hw => ?_) (fun hw => ?_) (fun hw => ?_) (fun hw => ?_) (fun hw => ?_) (fun hw => ?_) (fun hw => ?_) (fun hw => ?_) (fun hw => ?_) (fun hw => ?_) (fun hw => ?_) (fun hw => ?_) (fun hw0 hw1 hw2 hw3 hw4 hw5 hw6 hw7 hw8 hw9 hw10 hw11 hw12 hw13 hw14 hw15 hw16 hw17 => ?_)
    · exact law_0 hg hn hi (by omega) (by omega) hW hI hM kk
    · exact law_1 hg hn hi (by omega) (by omega) hW hI hM kk
    · exact law_2 hg hn hi (by omega) (by omega) hW hI hM kk
    · exact law_3 hg hn hi (by omega) (by omega) hW hI hM kk
    · exact law_4 hg hn hi (by omega) (by omega) hW hI hM kk
    · exact law_5 hg hn hi (by omega) (by omega) hW hI hM kk
    · exact law_6 hg hn hi (by omega) (by omega) hW hI hM kk
    · exact law_7 hg hn hi (by omega) (by omega) hW hI hM kk
    · exact law_8 hg hn hi (by omega) (by omega) hW hI hM kk
    · exact law_9 hg hn hi (by omega) (by omega) hW hI hM kk
    · exact law_10 hg hn hi (by omega) (by omega) hW hI hM kk
    · exact law_11 hg hn hi (by omega) (by omega) hW hI hM kk
    · exact law_12 hg hn hi (by omega) (by omega) hW hI hM kk
    · exact law_13 hg hn hi (by omega) (by omega) hW hI hM kk
    · exact law_14 hg hn hi (by omega) (by omega) hW hI hM kk
    · exact law_15 hg hn hi (by omega) (by omega) hW hI hM kk
    · exact law_16 hg hn hi (by omega) (by omega) hW hI hM kk
    · exact law_17 hg hn hi (by omega) (by omega) hW hI hM kk
    · exact X_widen (by omega) (by omega) (kk _ _ _ _ _ _ _ _ hW hI hM)
set_option maxRecDepth 100000 in
theorem law_X {g : AH} (hg : g (30, 0) = some (.inl (7, n, xs))) (hn : n ≤ 2561) (hz : ∀ m : Nd, m ≠ (30, 0) → g m = none) : X M_La_law room_1 Zl 0 [some (.inr (some (30, 0))), none, none, none] [] g 0 0 := by
  refine X_new (n := (0, 0)) (ci := 6) (q := (R_Pl, T_Pl, 7)) (t := t_Pl) (nx := 3) rfl rfl rfl c_La_7 (hz _ (by decide)) (Nat.le_of_ble_eq_true rfl) (Nat.le_of_ble_eq_true rfl) rfl ?_
  refine X_run 3 (pc' := 6) (L' := [some (.inr (some (30, 0))), none, none, none]) (st' := [.inl (0), .inr (some (30, 0)), .inr (some (0, 0)), .inr (some (0, 0))]) rfl ?_
  refine X_callS (vs := [.inr (some (30, 0)), .inl (0)]) (st := [.inr (some (0, 0)), .inr (some (0, 0))]) (mc := 0) (ms := 0) rfl ok_La_cell s_La_9 rfl rfl (Nat.le_of_ble_eq_true rfl) (Nat.le_of_ble_eq_true rfl) (Nat.le_of_ble_eq_true rfl) (Nat.le_of_ble_eq_true rfl) (Nat.le_of_ble_eq_true rfl) (Nat.le_of_ble_eq_true rfl) rfl ?_
  refine c_La_cell (n := n) (xs := xs) (by rw [hset_ne _ _ (by decide)]; exact hg) hn ?_
  show X M_La_law _ _ 9 [some (.inr (some (30, 0))), none, none, none] [.inl (if 0 < n then xs 0 else 0), .inr (some (0, 0)), .inr (some (0, 0))] (hset g (0, 0) (.inr (.inr (6, fun k => df (t_Pl k))))) (0 + 1) (0 + 7)
  obtain ⟨w, ew⟩ : ∃ w, w = (if 0 < n then xs 0 else 0) := ⟨_, rfl⟩
  rw [← ew]
  refine X_callI (vs := [.inl (w)]) (st := [.inr (some (0, 0))]) (mc := 12) (ms := 2142) rfl ok_Pl_init i_La_15 rfl rfl (Nat.le_of_ble_eq_true rfl) (Nat.le_of_ble_eq_true rfl) (Nat.le_of_ble_eq_true rfl) (Nat.le_of_ble_eq_true rfl) (Nat.le_of_ble_eq_true rfl) (Nat.le_of_ble_eq_true rfl) rfl ?_
  refine c_Pl_init (fun m hm => hz m (fun z => by rw [z] at hm; exact hm rfl)) (fun F B C Wr E hI => ?_)
  show X M_La_law _ _ 12 [some (.inr (some (30, 0))), none, none, none] [.inr (some (0, 0))] (cH F B C Wr E g) 13 2149
  refine X_run 1 (pc' := 13) (L' := [some (.inr (some (30, 0))), some (.inr (some (0, 0))), none, none]) (st' := []) rfl ?_
  refine X_new (n := (10, 0)) (ci := 7) (q := (R_Mo, T_Mo, 22)) (t := t_Mo) (nx := 16) rfl rfl rfl c_La_18 (show cH F B C Wr E g (10, 0) = none from hz (10, 0) (by decide)) (Nat.le_of_ble_eq_true rfl) (Nat.le_of_ble_eq_true rfl) rfl ?_
  refine X_run 3 (pc' := 19) (L' := [some (.inr (some (30, 0))), some (.inr (some (0, 0))), none, none]) (st' := [.inl (0), .inr (some (30, 0)), .inr (some (10, 0)), .inr (some (10, 0))]) rfl ?_
  refine X_callS (vs := [.inr (some (30, 0)), .inl (0)]) (st := [.inr (some (10, 0)), .inr (some (10, 0))]) (mc := 0) (ms := 0) rfl ok_La_cell s_La_9 rfl rfl (Nat.le_of_ble_eq_true rfl) (Nat.le_of_ble_eq_true rfl) (Nat.le_of_ble_eq_true rfl) (Nat.le_of_ble_eq_true rfl) (Nat.le_of_ble_eq_true rfl) (Nat.le_of_ble_eq_true rfl) rfl ?_
  refine c_La_cell (n := n) (xs := xs) (by rw [hset_ne _ _ (by decide)]; exact hg) hn ?_
  show X M_La_law _ _ 22 [some (.inr (some (30, 0))), some (.inr (some (0, 0))), none, none] [.inl (if 0 < n then xs 0 else 0), .inr (some (10, 0)), .inr (some (10, 0))] (hset (cH F B C Wr E g) (10, 0) (.inr (.inr (7, fun k => df (t_Mo k))))) (13 + 1) (2149 + 22)
  rw [← ew]
  refine X_callI (vs := [.inl (w)]) (st := [.inr (some (10, 0))]) (mc := 15) (ms := 2328) rfl ok_Mo_init i_La_20 rfl rfl (Nat.le_of_ble_eq_true rfl) (Nat.le_of_ble_eq_true rfl) (Nat.le_of_ble_eq_true rfl) (Nat.le_of_ble_eq_true rfl) (Nat.le_of_ble_eq_true rfl) (Nat.le_of_ble_eq_true rfl) rfl ?_
  refine c_Mo_init (fun m hm => ?_) ?_
  · obtain ⟨a, b⟩ := m
    rcases hm with hm | hm
    · have hm : a = 10 := hm
      subst hm
      exact hz (10, b) (by simp)
    · have hm : a = 11 := hm
      subst hm
      exact hz (11, b) (by simp)
  show X M_La_law _ _ 25 [some (.inr (some (30, 0))), some (.inr (some (0, 0))), none, none] [.inr (some (10, 0))] (mH (cH F B C Wr E g) (I0 w) A0) 29 4499
  rw [← cH_mH]
  refine X_run 3 (pc' := 28) (L' := [some (.inr (some (30, 0))), some (.inr (some (0, 0))), some (.inr (some (10, 0))), some (.inl (1))]) (st' := []) rfl ?_
  refine X_eq (L' := [some (.inr (some (30, 0))), some (.inr (some (0, 0))), some (.inr (some (10, 0))), some (.inl (nI (1 + 5 * 0)))]) (congrArg (fun zz9 : Int32 => ([some (.inr (some (30, 0))), some (.inr (some (0, 0))), some (.inr (some (10, 0))), some (.inl zz9)] : List (Option AV))) (rfl)) rfl rfl ?_
  exact law_loop hg hn 0 (by omega) (sg0 w) F B C Wr E (I0 w) A0 (sg0_W2 w) hI (sg0_MB w)
end

