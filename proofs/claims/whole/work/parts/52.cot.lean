/-! the component: row, thing, knows, keeps, deed, about -/
theorem sum_nI (G : Nat → Int32) (M : Nat) : ∀ (l : List Nat) (n : Nat), (∀ x, x ∈ l → ∃ k, k ≤ M ∧ G x = nI k) → ∃ m, m ≤ n + M * l.length ∧ l.foldl (fun a x => a + G x) (nI n) = nI m
  | [], n, _ => ⟨n, Nat.le_add_right _ _, rfl⟩
  | x :: l, n, h => by
    obtain ⟨k, hk, e⟩ := h x List.mem_cons_self
    obtain ⟨m, hm, e2⟩ := sum_nI G M l (n + k) (fun y hy => h y (List.mem_cons_of_mem _ hy))
    refine ⟨m, ?_, ?_⟩
    · rw [List.length_cons, Nat.mul_add, Nat.mul_one]
      omega
    · rw [List.foldl_cons, e, nI_add]
      exact e2
theorem bt_nI {σ : Sg} (h : WF σ) {see : Nat → Nat} (hs : okS σ see) {t : Nat} : ∃ k, k ≤ 15840 ∧ smF σ see t 2 = nI k := by
  obtain ⟨m, hm, e⟩ := sum_nI (fun x => if (ofF σ see (unF σ see) (thF σ see) x t && so σ x == 2) = true then vl σ x else 0) 99 (List.range 160) 0 (fun x hx => by
    by_cases q : (ofF σ see (unF σ see) (thF σ see) x t && so σ x == 2) = true
    · simp only [q, if_true]
      rw [Bool.and_eq_true, beq_iff_eq] at q
      have hK := ((of_mem h hs).mp q.1).1
      have := h.p8 x (List.mem_filter.mp hK).1 q.2
      obtain ⟨k, hk, e⟩ := rng_nI (n := 99) (by decide) ⟨by omega, this.2⟩
      exact ⟨k, hk, e⟩
    · rw [if_neg q]
      exact ⟨0, by omega, rfl⟩)
  rw [List.length_range] at hm
  exact ⟨m, by omega, e⟩
theorem rs_nI {σ : Sg} (h : WF σ) {see : Nat → Nat} (hs : okS σ see) {kp : Nat} (hl : (ODF σ see).length ≤ 160) : ∃ k, k < 2 ^ 30 ∧ rsF σ see kp 2 (ODF σ see) = nI k := by
  obtain ⟨m, hm, e⟩ := sum_nI (fun t => if irF σ see t kp = true then smF σ see t 2 else 0) 15840 (ODF σ see) 0 (fun x hx => by
    by_cases q : irF σ see x kp = true
    · simp only [q, if_true]
      exact bt_nI h hs
    · rw [if_neg q]
      exact ⟨0, by omega, rfl⟩)
  refine ⟨m, ?_, ?_⟩
  · have : 15840 * (ODF σ see).length ≤ 15840 * 160 := Nat.mul_le_mul_left _ hl
    omega
  · rw [← e]
    unfold rsF
    refine foldl_cg (fun t ht a => ?_)
    split
    · rfl
    · simp
theorem at0_eq (s : Int32) : (if s < 0 then 0 else s) = at0 s := by
  unfold at0
  by_cases q : s < 0
  · rw [if_pos q, if_neg (fun z => by rw [i32_lt] at q; rw [i32_le] at z; omega)]
  · rw [if_neg q, if_pos (by rw [i32_le]; rw [i32_lt] at q; omega)]
theorem at0_nI (s : Int32) : ∃ p, p < 2 ^ 31 ∧ at0 s = nI p := by
  rw [← at0_eq]
  by_cases q : s < 0
  · rw [if_pos q]
    exact ⟨0, by decide, rfl⟩
  · rw [if_neg q]
    exact nI_of q
theorem left_eq {s b : Int32} (hb : ∃ k, k < 2 ^ 30 ∧ b = nI k) : (if at0 s - b < 0 then 0 else at0 s - b) = if b ≤ at0 s then at0 s - b else 0 := by
  obtain ⟨p, hp, ep⟩ := at0_nI s
  obtain ⟨k, hk, ek⟩ := hb
  rw [ep, ek]
  by_cases q : k ≤ p
  · rw [if_pos ((nI_leI (by omega) hp).mpr q), pk_sub q, if_neg (nI_n0 (by omega))]
  · rw [if_neg (fun z => q ((nI_leI (by omega) hp).mp z)), if_pos]
    rw [i32_lt, pk_sub_toInt (by omega) hk]
    show (p : Int) - k < 0
    omega
theorem OD_len {σ : Sg} {see : Nat → Nat} (h : WF σ) : (ODF σ see).length ≤ 160 := by
  rw [← odP_KF]
  exact Nat.le_trans (odP_len _ _) (Nat.le_trans (List.length_filter_le _ _) h.len)
section
variable {F : CF} {B : CB} {C : CC} {Wr : Nat → Option Nd} {E : Nat → Nat → Bool} {r : AH} {Q : Option AV → AH → Prop} {h : AH} {σ : Sg} {see m : Nat → Nat}
theorem c_Pl_row {i w : Int32} (hW : W2 σ) (hI : CI σ F B C E) (hq : ∀ (F' : CF) (B' : CB) (C' : CC) (Wr' : Nat → Option Nd) (E' : Nat → Nat → Bool), CI σ F' B' C' E' → Q (some (.inl (sRow σ i w))) (cH F' B' C' Wr' E' r)) : X M_Pl_row (rmo M_Pl_row 800 4640) (Zm Q 800 4640) 0 (ini M_Pl_row [.inr (some (0, 0)), .inl i, .inl w]) [] (cH F B C Wr E r) 0 0 := by
  have hw := hW.1
  obtain ⟨see0, hCD⟩ := id hI
  have h0 := hCD.1.1
  have no : (i < 0 ∨ sRows σ ≤ i) → ∀ (F' : CF) (B' : CB) (C' : CC) (Wr' : Nat → Option Nd) (E' : Nat → Nat → Bool), CI σ F' B' C' E' → Q (some (.inl (-1))) (cH F' B' C' Wr' E' r) := fun hc F' B' C' W' E' h1 => by
    have := hq F' B' C' W' E' h1
    unfold sRow at this
    by_cases q : i < 0
    · rw [if_pos q] at this
      exact this
    · rw [if_neg q, if_pos (hc.resolve_left q)] at this
      exact this
  show X M_Pl_row _ _ 0 [some (.inr (some (0, 0))), some (.inl (i)), some (.inl (w)), none] [] (cH F B C Wr E r) 0 0
  refine X_run 1 (pc' := 1) (L' := [some (.inr (some (0, 0))), some (.inl (i)), some (.inl (w)), none]) (st' := [.inr (some (0, 0))]) rfl ?_
  refine X_callV (vs := []) (st := []) (mc := 800) (ms := 4640) rfl ok_Pl_drawView v_Pl_104 (cH_obj rfl (by assumption)) rfl rfl (Nat.le_of_ble_eq_true rfl) (Nat.le_of_ble_eq_true rfl) (Nat.le_of_ble_eq_true rfl) (Nat.le_of_ble_eq_true rfl) (Nat.le_of_ble_eq_true rfl) (Nat.le_of_ble_eq_true rfl) rfl ?_
  refine c_Pl_drawView hW hI (fun hv => ?_) (fun hv F1 B1 C1 W1 E1 hCD1 => ?_)
  · show X M_Pl_row _ _ 4 [some (.inr (some (0, 0))), some (.inl (i)), some (.inl (w)), none] [.inl (0)] (cH F B C Wr E r) 800 4640
    refine X_if_eq (tgt := 22) (nx := 7) rfl rfl rfl (fun n1 => ?_) (fun n1 => ?_)
    · refine X_run 1 (pc' := 23) (L' := [some (.inr (some (0, 0))), some (.inl (i)), some (.inl (w)), none]) (st' := [.inl (-1)]) rfl ?_
      refine X_iret rfl rfl rfl (Nat.le_refl _) (Nat.le_refl _) (no ?_ F B C Wr E hI)
      by_cases q : i < 0
      · exact Or.inl q
      · right
        unfold sRows
        rw [if_pos hv, i32_le]
        rw [i32_lt] at q
        have e1 : (-1 : Int32).toInt = -1 := by decide
        have e0 : (0 : Int32).toInt = 0 := rfl
        omega
    · exact absurd rfl n1
  · have q0 := hCD1.1.1
    have hP1 := hCD1.1.2.2.1
    have q5 := hP1.1
    have q14 : E1 14 0 = true := hP1.at (by omega)
    obtain ⟨p1, p2, p3, p4, p5, p6, p7⟩ := hCD1.2.2
    have hrs : sRows σ = nI (KPF σ (vsee σ)).length := by
      unfold sRows
      rw [if_neg hv]
    show X M_Pl_row _ _ 4 [some (.inr (some (0, 0))), some (.inl (i)), some (.inl (w)), none] [.inl (1)] (cH F1 B1 C1 W1 E1 r) 800 4640
    refine X_if_eq (tgt := 22) (nx := 7) rfl rfl rfl (fun n1 => ?_) (fun n1 => ?_)
    · cases n1
    · refine X_run 1 (pc' := 8) (L' := [some (.inr (some (0, 0))), some (.inl (i)), some (.inl (w)), none]) (st' := [.inl (i)]) rfl ?_
      refine X_if_lt (tgt := 22) (nx := 11) rfl rfl rfl (fun n2 => ?_) (fun n2 => ?_)
      · refine X_run 1 (pc' := 23) (L' := [some (.inr (some (0, 0))), some (.inl (i)), some (.inl (w)), none]) (st' := [.inl (-1)]) rfl ?_
        exact X_iret rfl rfl rfl (Nat.le_refl _) (Nat.le_refl _) (no (Or.inl n2) F1 B1 C1 W1 E1 ⟨_, hCD1⟩)
      · obtain ⟨k, hk, ek⟩ := nI_lt0 n2
        refine X_run 2 (pc' := 13) (L' := [some (.inr (some (0, 0))), some (.inl (i)), some (.inl (w)), none]) (st' := [.inr (some (0, 0)), .inl (i)]) rfl ?_
        refine XC_get (a := 0) (i := 0) (v := .inr (some (5, 0))) rfl f_Pl_41 ⟨rfl, rfl⟩ (by assumption) rfl rfl ?_
        refine XC_get (a := 5) (i := 0) (v := .inl (F1 5 0 10)) rfl f_Pl_108 ⟨rfl, rfl⟩ (by assumption) rfl rfl ?_
        refine X_eq (st' := [.inl (nI (KPF σ (vsee σ)).length), .inl (i)]) rfl (congrArg (fun zz9 => Sum.inl zz9 :: _) (p5)) rfl ?_
        refine X_ic_lt (tgt := 24) (nx := 22) rfl rfl rfl (fun n3 => ?_) (fun n3 => ?_)
        rotate_left
        · refine X_run 1 (pc' := 23) (L' := [some (.inr (some (0, 0))), some (.inl (i)), some (.inl (w)), none]) (st' := [.inl (-1)]) rfl ?_
          refine X_iret rfl rfl rfl (Nat.le_refl _) (Nat.le_refl _) (no (Or.inr ?_) F1 B1 C1 W1 E1 ⟨_, hCD1⟩)
          rw [hrs, i32_le]
          rw [i32_lt] at n3
          omega
        rw [ek] at n3
        have n3 := li_lt hk (by omega) n3
        obtain ⟨kx, hkx⟩ : ∃ kx, (KPF σ (vsee σ))[k]? = some kx := ⟨_, List.getElem?_eq_getElem n3⟩
        obtain ⟨r1, r2, r3, r4, r5, r6, r7, r8⟩ := p7 k kx hkx
        refine X_eq (L' := [some (.inr (some (0, 0))), some (.inl (nI k)), some (.inl (w)), none]) (congrArg (fun zz9 : Int32 => ([some (.inr (some (0, 0))), some (.inl zz9), some (.inl (w)), none] : List (Option AV))) (ek)) rfl rfl ?_
        refine X_run 1 (pc' := 25) (L' := [some (.inr (some (0, 0))), some (.inl (nI k)), some (.inl (w)), none]) (st' := [.inr (some (0, 0))]) rfl ?_
        refine XC_get (a := 0) (i := 0) (v := .inr (some (5, 0))) rfl f_Pl_41 ⟨rfl, rfl⟩ (by assumption) rfl rfl ?_
        refine XC_get (a := 5) (i := 0) (v := .inr (some (14, 0))) rfl f_Pl_111 ⟨rfl, rfl⟩ (by assumption) rfl rfl ?_
        refine X_run 1 (pc' := 32) (L' := [some (.inr (some (0, 0))), some (.inl (nI k)), some (.inl (w)), none]) (st' := [.inl (nI k), .inr (some (14, 0))]) rfl ?_
        refine XC_ald (a := 14) (i := 0) (j := k) (v := (C1 14 k)) rfl ⟨rfl, by decide, by decide⟩ (by assumption) (by simp only [rLn]; omega) rfl rfl ?_
        rw [r1]
        refine X_run 2 (pc' := 35) (L' := [some (.inr (some (0, 0))), some (.inl (nI k)), some (.inl (w)), some (.inr (some (23, k)))]) (st' := [.inr (some (23, k))]) rfl ?_
        refine X_ifnonnull (tgt := 42) (nx := 38) rfl rfl rfl (fun nn n4 => ?_) (fun n4 => ?_)
        rotate_left
        · cases n4
        refine X_run 2 (pc' := 44) (L' := [some (.inr (some (0, 0))), some (.inl (nI k)), some (.inl (w)), some (.inr (some (23, k)))]) (st' := [.inl (w), .inr (some (23, k))]) rfl ?_
        refine X_callV (vs := [.inl (w)]) (st := []) (mc := 0) (ms := 0) rfl ok_Rw_tell v_Pl_115 (cH_obj rfl (by assumption)) rfl rfl (Nat.le_of_ble_eq_true rfl) (Nat.le_of_ble_eq_true rfl) (Nat.le_of_ble_eq_true rfl) (Nat.le_of_ble_eq_true rfl) (Nat.le_of_ble_eq_true rfl) (Nat.le_of_ble_eq_true rfl) rfl ?_
        refine c_Rw_tell r2 r8 ?_
        refine X_iret rfl rfl rfl (Nat.le_refl _) (Nat.le_refl _) (qi ?_ (hq F1 B1 C1 W1 E1 ⟨_, hCD1⟩))
        unfold sRow
        rw [if_neg n2, hrs, ek, if_neg (show ¬ nI (KPF σ (vsee σ)).length ≤ nI k from fun z => by have := li_le (by omega) hk z; omega), nI_clamp hk]
        have eg : (KPF σ (vsee σ)).getD k 0 = kx := by rw [List.getD_eq_getElem?_getD, hkx]; rfl
        rw [eg, r3, r4, r5, r6, r7, at0_eq, left_eq (rs_nI hw (okS_v hw hv) (OD_len hw))]
        unfold rwF
        have w0 : (0 : Int32).toInt = 0 := rfl
        by_cases c0 : w = 0
        · rw [c0]
          rfl
        · by_cases c1 : w = 1
          · rw [c1]
            rfl
          · by_cases c2 : w = 2
            · rw [c2]
              rfl
            · by_cases c3 : w = 3
              · rw [c3]
                rfl
              · by_cases c4 : w = 4
                · rw [c4]
                  rfl
                · by_cases c5 : w = 5
                  · rw [c5]
                    rfl
                  · rw [if_neg c0, if_neg c1, if_neg c2, if_neg c3, if_neg c4, if_neg c5, if_neg c0, if_neg c1, if_neg c2, if_neg c3, if_neg c4, if_neg c5]
                    by_cases c6 : w = 6
                    · rw [c6]
                      rfl
                    · rw [if_neg c6, if_neg]
                      intro q
                      obtain ⟨j, hj, ej⟩ := rng_nI (n := 6) (by decide) q
                      rcases (show j = 0 ∨ j = 1 ∨ j = 2 ∨ j = 3 ∨ j = 4 ∨ j = 5 ∨ j = 6 by omega) with z | z | z | z | z | z | z <;> rw [z] at ej
                      · exact c0 ej
                      · exact c1 ej
                      · exact c2 ej
                      · exact c3 ej
                      · exact c4 ej
                      · exact c5 ej
                      · exact c6 ej
theorem c_Pl_thing {t w : Int32} (hW : W2 σ) (hI : CI σ F B C E) (hq : ∀ (F' : CF) (B' : CB) (C' : CC) (Wr' : Nat → Option Nd) (E' : Nat → Nat → Bool), CI σ F' B' C' E' → Q (some (.inl (sThing σ t w))) (cH F' B' C' Wr' E' r)) : X M_Pl_thing (rmo M_Pl_thing 800 4640) (Zm Q 800 4640) 0 (ini M_Pl_thing [.inr (some (0, 0)), .inl t, .inl w]) [] (cH F B C Wr E r) 0 0 := by
  have hw := hW.1
  obtain ⟨see0, hCD⟩ := id hI
  have h0 := hCD.1.1
  show X M_Pl_thing _ _ 0 [some (.inr (some (0, 0))), some (.inl (t)), some (.inl (w)), none] [] (cH F B C Wr E r) 0 0
  refine X_run 1 (pc' := 1) (L' := [some (.inr (some (0, 0))), some (.inl (t)), some (.inl (w)), none]) (st' := [.inr (some (0, 0))]) rfl ?_
  refine X_callV (vs := []) (st := []) (mc := 800) (ms := 4640) rfl ok_Pl_drawView v_Pl_104 (cH_obj rfl (by assumption)) rfl rfl (Nat.le_of_ble_eq_true rfl) (Nat.le_of_ble_eq_true rfl) (Nat.le_of_ble_eq_true rfl) (Nat.le_of_ble_eq_true rfl) (Nat.le_of_ble_eq_true rfl) (Nat.le_of_ble_eq_true rfl) rfl ?_
  refine c_Pl_drawView hW hI (fun hv => ?_) (fun hv F1 B1 C1 W1 E1 hCD1 => ?_)
  · show X M_Pl_thing _ _ 4 [some (.inr (some (0, 0))), some (.inl (t)), some (.inl (w)), none] [.inl (0)] (cH F B C Wr E r) 800 4640
    refine X_if_ne (tgt := 11) (nx := 7) rfl rfl rfl (fun n1 => ?_) (fun n1 => ?_)
    · exact absurd rfl n1
    · refine X_run 1 (pc' := 10) (L' := [some (.inr (some (0, 0))), some (.inl (t)), some (.inl (w)), none]) (st' := [.inl (-10000)]) rfl ?_
      refine X_iret rfl rfl rfl (Nat.le_refl _) (Nat.le_refl _) (qi ?_ (hq F B C Wr E hI))
      unfold sThing
      rw [if_pos hv]
  · have q0 := hCD1.1.1
    have hP1 := hCD1.1.2.2.1
    have q5 := hP1.1
    obtain ⟨p1, p2, p3, p4, -⟩ := hCD1.2.2
    show X M_Pl_thing _ _ 4 [some (.inr (some (0, 0))), some (.inl (t)), some (.inl (w)), none] [.inl (1)] (cH F1 B1 C1 W1 E1 r) 800 4640
    refine X_if_ne (tgt := 11) (nx := 7) rfl rfl rfl (fun n1 => ?_) (fun n1 => ?_)
    rotate_left
    · cases n1
    refine X_run 1 (pc' := 12) (L' := [some (.inr (some (0, 0))), some (.inl (t)), some (.inl (w)), none]) (st' := [.inr (some (0, 0))]) rfl ?_
    refine XC_get (a := 0) (i := 0) (v := .inr (some (5, 0))) rfl f_Pl_41 ⟨rfl, rfl⟩ (by assumption) rfl rfl ?_
    refine X_run 1 (pc' := 16) (L' := [some (.inr (some (0, 0))), some (.inl (t)), some (.inl (w)), none]) (st' := [.inl (t), .inr (some (5, 0))]) rfl ?_
    refine X_callV (vs := [.inl (t)]) (st := []) (mc := 0) (ms := 0) rfl ok_Pi_find v_Pl_94 (cH_obj rfl (by assumption)) rfl rfl (Nat.le_of_ble_eq_true rfl) (Nat.le_of_ble_eq_true rfl) (Nat.le_of_ble_eq_true rfl) (Nat.le_of_ble_eq_true rfl) (Nat.le_of_ble_eq_true rfl) (Nat.le_of_ble_eq_true rfl) rfl ?_
    refine c_Pi_find hP1 p2.TH (fun z hz => ?_)
    rcases hz with ⟨y, y160, ey, hth, ez⟩ | ⟨ez, hno⟩
    · rw [ez]
      have e20 := (p2.on y160 hth).2.1
      obtain ⟨f1, f2, f3, f4, f5⟩ := p4 y y160 hth
      show X M_Pl_thing _ _ 19 [some (.inr (some (0, 0))), some (.inl (t)), some (.inl (w)), none] [.inr (some (20, y))] (cH F1 B1 C1 W1 E1 r) 800 4640
      refine X_run 2 (pc' := 21) (L' := [some (.inr (some (0, 0))), some (.inl (t)), some (.inl (w)), some (.inr (some (20, y)))]) (st' := [.inr (some (20, y))]) rfl ?_
      refine X_ifnonnull (tgt := 30) (nx := 24) rfl rfl rfl (fun nn n2 => ?_) (fun n2 => ?_)
      rotate_left
      · cases n2
      refine X_run 2 (pc' := 32) (L' := [some (.inr (some (0, 0))), some (.inl (t)), some (.inl (w)), some (.inr (some (20, y)))]) (st' := [.inl (w), .inr (some (20, y))]) rfl ?_
      refine X_callV (vs := [.inl (w)]) (st := []) (mc := 0) (ms := 0) rfl ok_Th_tell v_Pl_121 (cH_obj rfl (by assumption)) rfl rfl (Nat.le_of_ble_eq_true rfl) (Nat.le_of_ble_eq_true rfl) (Nat.le_of_ble_eq_true rfl) (Nat.le_of_ble_eq_true rfl) (Nat.le_of_ble_eq_true rfl) (Nat.le_of_ble_eq_true rfl) rfl ?_
      refine c_Th_tell e20 f1 ?_
      refine X_iret rfl rfl rfl (Nat.le_refl _) (Nat.le_refl _) (qi ?_ (hq F1 B1 C1 W1 E1 ⟨_, hCD1⟩))
      unfold sThing
      have yc : t.toNatClampNeg = y := by rw [ey]; exact nI_clamp (by omega)
      rw [if_neg hv, if_pos (show 0 ≤ t.toInt ∧ t.toInt ≤ 159 ∧ thF σ (vsee σ) t.toNatClampNeg = true from ⟨by rw [ey, nI_toInt (by omega)]; omega, by rw [ey, nI_toInt (by omega)]; omega, by rw [yc]; exact hth⟩), yc, f2, f3, f4, f5]
    · rw [ez]
      show X M_Pl_thing _ _ 19 [some (.inr (some (0, 0))), some (.inl (t)), some (.inl (w)), none] [.inr none] (cH F1 B1 C1 W1 E1 r) 800 4640
      refine X_run 2 (pc' := 21) (L' := [some (.inr (some (0, 0))), some (.inl (t)), some (.inl (w)), some (.inr none)]) (st' := [.inr none]) rfl ?_
      refine X_ifnonnull (tgt := 30) (nx := 24) rfl rfl rfl (fun nn n2 => ?_) (fun n2 => ?_)
      · cases n2
      · refine X_run 2 (pc' := 35) (L' := [some (.inr (some (0, 0))), some (.inl (t)), some (.inl (w)), some (.inr none)]) (st' := [.inl (-10000)]) rfl ?_
        refine X_iret rfl rfl rfl (Nat.le_refl _) (Nat.le_refl _) (qi ?_ (hq F1 B1 C1 W1 E1 ⟨_, hCD1⟩))
        unfold sThing
        rw [if_neg hv, if_neg]
        rintro ⟨a1, a2, a3⟩
        obtain ⟨y, hy, e2⟩ := rng_nI (n := 159) (by decide) ⟨a1, a2⟩
        have := hno y (by omega) e2
        rw [e2, nI_clamp (by omega), this] at a3
        cases a3
theorem c_Pl_knows {d e f w : Int32} (hW : W2 σ) (hI : BI σ F B C E) (hq : Q (some (.inl (sKnows σ d e f w))) (cH F B C Wr E r)) : X M_Pl_knows (rmo M_Pl_knows 0 0) (Zm Q 0 0) 0 (ini M_Pl_knows [.inr (some (0, 0)), .inl d, .inl e, .inl f, .inl w]) [] (cH F B C Wr E r) 0 0 := by
  have hw := hW.1
  have h4 := hw.1.1
  have h0 := hI.1
  unfold sKnows at hq
  show X M_Pl_knows _ _ 0 [some (.inr (some (0, 0))), some (.inl (d)), some (.inl (e)), some (.inl (f)), some (.inl (w)), none] [] (cH F B C Wr E r) 0 0
  refine X_run 2 (pc' := 2) (L' := [some (.inr (some (0, 0))), some (.inl (d)), some (.inl (e)), some (.inl (f)), some (.inl (w)), none]) (st' := [.inl (d), .inr (some (0, 0))]) rfl ?_
  refine X_callV (vs := [.inl (d)]) (st := []) (mc := 0) (ms := 0) rfl ok_Pl_findDevice v_Pl_45 (cH_obj rfl (by assumption)) rfl rfl (Nat.le_of_ble_eq_true rfl) (Nat.le_of_ble_eq_true rfl) (Nat.le_of_ble_eq_true rfl) (Nat.le_of_ble_eq_true rfl) (Nat.le_of_ble_eq_true rfl) (Nat.le_of_ble_eq_true rfl) rfl ?_
  refine c_Pl_findDevice hI h4 (fun k hk ek => ?_) (fun hno => ?_)
  rotate_left
  · show X M_Pl_knows _ _ 5 [some (.inr (some (0, 0))), some (.inl (d)), some (.inl (e)), some (.inl (f)), some (.inl (w)), none] [.inr none] (cH F B C Wr E r) 0 0
    refine X_run 2 (pc' := 9) (L' := [some (.inr (some (0, 0))), some (.inl (d)), some (.inl (e)), some (.inl (f)), some (.inl (w)), some (.inr none)]) (st' := [.inr none]) rfl ?_
    refine X_ifnull (tgt := 20) (nx := 12) rfl rfl rfl (fun n1 => ?_) (fun nn n1 => ?_)
    · refine X_run 1 (pc' := 21) (L' := [some (.inr (some (0, 0))), some (.inl (d)), some (.inl (e)), some (.inl (f)), some (.inl (w)), some (.inr none)]) (st' := [.inl (-1)]) rfl ?_
      refine X_iret rfl rfl rfl (Nat.le_refl _) (Nat.le_refl _) ?_
      rw [hno] at hq
      exact hq
    · cases n1
  have kc : d.toNatClampNeg = k := by rw [ek]; exact nI_clamp (by omega)
  have hid : isD σ d = true := by rw [ek, isD_nI (by omega)]; exact decide_eq_true hk
  obtain ⟨k4, h15, h16, hn15, hr⟩ := hI.2.2.2.2.2.2.2.2.2.2.1 k hk
  rw [hid, kc] at hq
  show X M_Pl_knows _ _ 5 [some (.inr (some (0, 0))), some (.inl (d)), some (.inl (e)), some (.inl (f)), some (.inl (w)), none] [.inr (some (15, k))] (cH F B C Wr E r) 0 0
  refine X_run 2 (pc' := 9) (L' := [some (.inr (some (0, 0))), some (.inl (d)), some (.inl (e)), some (.inl (f)), some (.inl (w)), some (.inr (some (15, k)))]) (st' := [.inr (some (15, k))]) rfl ?_
  refine X_ifnull (tgt := 20) (nx := 12) rfl rfl rfl (fun n1 => ?_) (fun nn n1 => ?_)
  · cases n1
  · refine X_run 2 (pc' := 14) (L' := [some (.inr (some (0, 0))), some (.inl (d)), some (.inl (e)), some (.inl (f)), some (.inl (w)), some (.inr (some (15, k)))]) (st' := [.inl (e), .inr (some (0, 0))]) rfl ?_
    refine X_callV (vs := [.inl (e)]) (st := []) (mc := 0) (ms := 0) rfl ok_Pl_findDevice v_Pl_45 (cH_obj rfl (by assumption)) rfl rfl (Nat.le_of_ble_eq_true rfl) (Nat.le_of_ble_eq_true rfl) (Nat.le_of_ble_eq_true rfl) (Nat.le_of_ble_eq_true rfl) (Nat.le_of_ble_eq_true rfl) (Nat.le_of_ble_eq_true rfl) rfl ?_
    refine c_Pl_findDevice hI h4 (fun j hj ej => ?_) (fun hno => ?_)
    rotate_left
    · show X M_Pl_knows _ _ 17 [some (.inr (some (0, 0))), some (.inl (d)), some (.inl (e)), some (.inl (f)), some (.inl (w)), some (.inr (some (15, k)))] [.inr none] (cH F B C Wr E r) 0 0
      refine X_ifnonnull (tgt := 22) (nx := 20) rfl rfl rfl (fun nn n2 => ?_) (fun n2 => ?_)
      · cases n2
      · refine X_run 1 (pc' := 21) (L' := [some (.inr (some (0, 0))), some (.inl (d)), some (.inl (e)), some (.inl (f)), some (.inl (w)), some (.inr (some (15, k)))]) (st' := [.inl (-1)]) rfl ?_
        refine X_iret rfl rfl rfl (Nat.le_refl _) (Nat.le_refl _) ?_
        rw [hno] at hq
        exact hq
    have jc : e.toNatClampNeg = j := by rw [ej]; exact nI_clamp (by omega)
    have hie : isD σ e = true := by rw [ej, isD_nI (by omega)]; exact decide_eq_true hj
    rw [hie, jc] at hq
    show X M_Pl_knows _ _ 17 [some (.inr (some (0, 0))), some (.inl (d)), some (.inl (e)), some (.inl (f)), some (.inl (w)), some (.inr (some (15, k)))] [.inr (some (15, j))] (cH F B C Wr E r) 0 0
    refine X_eq (L' := [some (.inr (some (0, 0))), some (.inl (d)), some (.inl (nI j)), some (.inl (f)), some (.inl (w)), some (.inr (some (15, k)))]) (congrArg (fun zz9 : Int32 => ([some (.inr (some (0, 0))), some (.inl (d)), some (.inl zz9), some (.inl (f)), some (.inl (w)), some (.inr (some (15, k)))] : List (Option AV))) (ej)) rfl rfl ?_
    refine X_ifnonnull (tgt := 22) (nx := 20) rfl rfl rfl (fun nn n2 => ?_) (fun n2 => ?_)
    rotate_left
    · cases n2
    refine X_run 1 (pc' := 24) (L' := [some (.inr (some (0, 0))), some (.inl (d)), some (.inl (nI j)), some (.inl (f)), some (.inl (w)), some (.inr (some (15, k)))]) (st' := [.inl (w)]) rfl ?_
    refine X_if_ne (tgt := 35) (nx := 27) rfl rfl rfl (fun n3 => ?_) (fun n3 => ?_)
    · refine X_run 2 (pc' := 38) (L' := [some (.inr (some (0, 0))), some (.inl (d)), some (.inl (nI j)), some (.inl (f)), some (.inl (w)), some (.inr (some (15, k)))]) (st' := [.inl (1), .inl (w)]) rfl ?_
      refine X_ic_ne (tgt := 59) (nx := 41) rfl rfl rfl (fun n4 => ?_) (fun n4 => ?_)
      · refine X_run 1 (pc' := 60) (L' := [some (.inr (some (0, 0))), some (.inl (d)), some (.inl (nI j)), some (.inl (f)), some (.inl (w)), some (.inr (some (15, k)))]) (st' := [.inl (-1)]) rfl ?_
        refine X_iret rfl rfl rfl (Nat.le_refl _) (Nat.le_refl _) ?_
        rw [decide_eq_false (show ¬ (0 ≤ w.toInt ∧ w.toInt ≤ 1) from fun q => ?_)] at hq
        · exact hq
        · obtain ⟨z, hz, ez⟩ := rng_nI (n := 1) (by decide) q
          rcases (show z = 0 ∨ z = 1 by omega) with y | y <;> rw [y] at ez
          · exact n3 ez
          · exact n4 ez
      · have w1 : w = 1 := n4
        rw [w1] at hq
        refine X_run 2 (pc' := 43) (L' := [some (.inr (some (0, 0))), some (.inl (d)), some (.inl (nI j)), some (.inl (f)), some (.inl (w)), some (.inr (some (15, k)))]) (st' := [.inl (f), .inr (some (0, 0))]) rfl ?_
        refine X_callV (vs := [.inl (f)]) (st := []) (mc := 0) (ms := 0) rfl ok_Pl_findDevice v_Pl_45 (cH_obj rfl (by assumption)) rfl rfl (Nat.le_of_ble_eq_true rfl) (Nat.le_of_ble_eq_true rfl) (Nat.le_of_ble_eq_true rfl) (Nat.le_of_ble_eq_true rfl) (Nat.le_of_ble_eq_true rfl) (Nat.le_of_ble_eq_true rfl) rfl ?_
        refine c_Pl_findDevice hI h4 (fun g hg eg => ?_) (fun hno => ?_)
        rotate_left
        · show X M_Pl_knows _ _ 46 [some (.inr (some (0, 0))), some (.inl (d)), some (.inl (nI j)), some (.inl (f)), some (.inl (w)), some (.inr (some (15, k)))] [.inr none] (cH F B C Wr E r) 0 0
          refine X_ifnull (tgt := 59) (nx := 49) rfl rfl rfl (fun n5 => ?_) (fun nn n5 => ?_)
          · refine X_run 1 (pc' := 60) (L' := [some (.inr (some (0, 0))), some (.inl (d)), some (.inl (nI j)), some (.inl (f)), some (.inl (w)), some (.inr (some (15, k)))]) (st' := [.inl (-1)]) rfl ?_
            refine X_iret rfl rfl rfl (Nat.le_refl _) (Nat.le_refl _) ?_
            rw [hno] at hq
            exact hq
          · cases n5
        have gc : f.toNatClampNeg = g := by rw [eg]; exact nI_clamp (by omega)
        have hif : isD σ f = true := by rw [eg, isD_nI (by omega)]; exact decide_eq_true hg
        rw [hif, gc] at hq
        have g17 := hr g (by omega)
        show X M_Pl_knows _ _ 46 [some (.inr (some (0, 0))), some (.inl (d)), some (.inl (nI j)), some (.inl (f)), some (.inl (w)), some (.inr (some (15, k)))] [.inr (some (15, g))] (cH F B C Wr E r) 0 0
        refine X_eq (L' := [some (.inr (some (0, 0))), some (.inl (d)), some (.inl (nI j)), some (.inl (nI g)), some (.inl (w)), some (.inr (some (15, k)))]) (congrArg (fun zz9 : Int32 => ([some (.inr (some (0, 0))), some (.inl (d)), some (.inl (nI j)), some (.inl zz9), some (.inl (w)), some (.inr (some (15, k)))] : List (Option AV))) (eg)) rfl rfl ?_
        refine X_ifnull (tgt := 59) (nx := 49) rfl rfl rfl (fun n5 => ?_) (fun nn n5 => ?_)
        · cases n5
        · refine X_run 1 (pc' := 51) (L' := [some (.inr (some (0, 0))), some (.inl (d)), some (.inl (nI j)), some (.inl (nI g)), some (.inl (w)), some (.inr (some (15, k)))]) (st' := [.inr (some (15, k))]) rfl ?_
          refine XC_get (a := 15) (i := k) (v := .inr (some (16, k))) rfl f_Pl_124 ⟨rfl, rfl⟩ (by assumption) rfl rfl ?_
          refine X_run 1 (pc' := 55) (L' := [some (.inr (some (0, 0))), some (.inl (d)), some (.inl (nI j)), some (.inl (nI g)), some (.inl (w)), some (.inr (some (15, k)))]) (st' := [.inl (nI g), .inr (some (16, k))]) rfl ?_
          refine XC_ald (a := 16) (i := k) (j := g) (v := (some (17, 4 * k + g))) rfl ⟨rfl, by decide, by decide⟩ (by assumption) (by simp only [rLn]; omega) (if_pos (by omega)) rfl ?_
          refine X_run 1 (pc' := 57) (L' := [some (.inr (some (0, 0))), some (.inl (d)), some (.inl (nI j)), some (.inl (nI g)), some (.inl (w)), some (.inr (some (15, k)))]) (st' := [.inl (nI j), .inr (some (17, 4 * k + g))]) rfl ?_
          refine XC_ild (a := 17) (i := 4 * k + g) (j := j) rfl ⟨rfl, rfl⟩ (g17.1) (by simp only [rLn]; omega) rfl ?_
          refine X_eq (st' := [.inl (nI (rk σ k g j))]) rfl (congrArg (fun zz9 => Sum.inl zz9 :: _) ((g17.2 j (by omega)).1)) rfl ?_
          exact X_iret rfl rfl rfl (Nat.le_refl _) (Nat.le_refl _) hq
    · have w0 : w = 0 := n3
      rw [w0] at hq
      refine X_run 1 (pc' := 29) (L' := [some (.inr (some (0, 0))), some (.inl (d)), some (.inl (nI j)), some (.inl (f)), some (.inl (w)), some (.inr (some (15, k)))]) (st' := [.inr (some (15, k))]) rfl ?_
      refine X_callV (vs := []) (st := []) (mc := 0) (ms := 0) rfl ok_Dv_known v_Pl_59 (cH_obj rfl (by assumption)) rfl rfl (Nat.le_of_ble_eq_true rfl) (Nat.le_of_ble_eq_true rfl) (Nat.le_of_ble_eq_true rfl) (Nat.le_of_ble_eq_true rfl) (Nat.le_of_ble_eq_true rfl) (Nat.le_of_ble_eq_true rfl) rfl ?_
      refine c_Dv_known k4 h15 h16 hn15 ?_
      show X M_Pl_knows _ _ 32 [some (.inr (some (0, 0))), some (.inl (d)), some (.inl (nI j)), some (.inl (f)), some (.inl (w)), some (.inr (some (15, k)))] [.inr (some (17, 4 * k + k))] (cH F B C Wr E r) 0 0
      refine X_run 1 (pc' := 33) (L' := [some (.inr (some (0, 0))), some (.inl (d)), some (.inl (nI j)), some (.inl (f)), some (.inl (w)), some (.inr (some (15, k)))]) (st' := [.inl (nI j), .inr (some (17, 4 * k + k))]) rfl ?_
      refine XC_ild (a := 17) (i := 4 * k + k) (j := j) rfl ⟨rfl, rfl⟩ ((hr k k4).1) (by simp only [rLn]; omega) rfl ?_
      refine X_eq (st' := [.inl (nI (rk σ k k j))]) rfl (congrArg (fun zz9 => Sum.inl zz9 :: _) (((hr k k4).2 j (by omega)).1)) rfl ?_
      exact X_iret rfl rfl rfl (Nat.le_refl _) (Nat.le_refl _) hq
theorem c_Pl_keeps {d : Int32} (hW : W2 σ) (hI : BI σ F B C E) (hq : Q (some (.inl (sKeeps σ d))) (cH F B C Wr E r)) : X M_Pl_keeps (rmo M_Pl_keeps 0 0) (Zm Q 0 0) 0 (ini M_Pl_keeps [.inr (some (0, 0)), .inl d]) [] (cH F B C Wr E r) 0 0 := by
  have hw := hW.1
  have h4 := hw.1.1
  have h0 := hI.1
  unfold sKeeps at hq
  show X M_Pl_keeps _ _ 0 [some (.inr (some (0, 0))), some (.inl (d)), none] [] (cH F B C Wr E r) 0 0
  refine X_run 2 (pc' := 2) (L' := [some (.inr (some (0, 0))), some (.inl (d)), none]) (st' := [.inl (d), .inr (some (0, 0))]) rfl ?_
  refine X_callV (vs := [.inl (d)]) (st := []) (mc := 0) (ms := 0) rfl ok_Pl_findDevice v_Pl_45 (cH_obj rfl (by assumption)) rfl rfl (Nat.le_of_ble_eq_true rfl) (Nat.le_of_ble_eq_true rfl) (Nat.le_of_ble_eq_true rfl) (Nat.le_of_ble_eq_true rfl) (Nat.le_of_ble_eq_true rfl) (Nat.le_of_ble_eq_true rfl) rfl ?_
  refine c_Pl_findDevice hI h4 (fun k hk ek => ?_) (fun hno => ?_)
  rotate_left
  · show X M_Pl_keeps _ _ 5 [some (.inr (some (0, 0))), some (.inl (d)), none] [.inr none] (cH F B C Wr E r) 0 0
    refine X_run 2 (pc' := 7) (L' := [some (.inr (some (0, 0))), some (.inl (d)), some (.inr none)]) (st' := [.inr none]) rfl ?_
    refine X_ifnonnull (tgt := 14) (nx := 10) rfl rfl rfl (fun nn n1 => ?_) (fun n1 => ?_)
    · cases n1
    · refine X_run 2 (pc' := 22) (L' := [some (.inr (some (0, 0))), some (.inl (d)), some (.inr none)]) (st' := [.inl (-1)]) rfl ?_
      refine X_iret rfl rfl rfl (Nat.le_refl _) (Nat.le_refl _) ?_
      rw [hno] at hq
      exact hq
  have kc : d.toNatClampNeg = k := by rw [ek]; exact nI_clamp (by omega)
  have hid : isD σ d = true := by rw [ek, isD_nI (by omega)]; exact decide_eq_true hk
  rw [hid, kc] at hq
  have hDR := hI.2.2.2.2.2.2.2.2.2.2.1 k hk
  have h15 := hDR.2.1
  show X M_Pl_keeps _ _ 5 [some (.inr (some (0, 0))), some (.inl (d)), none] [.inr (some (15, k))] (cH F B C Wr E r) 0 0
  refine X_run 2 (pc' := 7) (L' := [some (.inr (some (0, 0))), some (.inl (d)), some (.inr (some (15, k)))]) (st' := [.inr (some (15, k))]) rfl ?_
  refine X_ifnonnull (tgt := 14) (nx := 10) rfl rfl rfl (fun nn n1 => ?_) (fun n1 => ?_)
  rotate_left
  · cases n1
  refine X_run 2 (pc' := 16) (L' := [some (.inr (some (0, 0))), some (.inl (d)), some (.inr (some (15, k)))]) (st' := [.inr (some (0, 0)), .inr (some (15, k))]) rfl ?_
  refine XC_get (a := 0) (i := 0) (v := .inl (F 0 0 2)) rfl f_Pl_15 ⟨rfl, rfl⟩ (by assumption) rfl rfl ?_
  refine X_eq (st' := [.inl (nI (nd σ)), .inr (some (15, k))]) rfl (congrArg (fun zz9 => Sum.inl zz9 :: _) (hI.2.2.2.2.2.1)) rfl ?_
  refine X_callV (vs := [.inl (nI (nd σ))]) (st := []) (mc := 0) (ms := 0) rfl ok_Dv_unseenAmong v_Pl_128 (cH_obj rfl (by assumption)) rfl rfl (Nat.le_of_ble_eq_true rfl) (Nat.le_of_ble_eq_true rfl) (Nat.le_of_ble_eq_true rfl) (Nat.le_of_ble_eq_true rfl) (Nat.le_of_ble_eq_true rfl) (Nat.le_of_ble_eq_true rfl) rfl ?_
  refine c_Dv_unseenAmong hDR h4 ?_
  show X M_Pl_keeps _ _ 22 [some (.inr (some (0, 0))), some (.inl (d)), some (.inr (some (15, k)))] [.inl (nI (kpN σ k 4))] (cH F B C Wr E r) 0 0
  exact X_iret rfl rfl rfl (Nat.le_refl _) (Nat.le_refl _) (qi (by rw [kp_nd hw]; rfl) hq)
theorem c_Pl_deed {d n w : Int32} (hW : W2 σ) (hI : BI σ F B C E) (hq : Q (some (.inl (sDeed σ d n w))) (cH F B C Wr E r)) : X M_Pl_deed (rmo M_Pl_deed 0 0) (Zm Q 0 0) 0 (ini M_Pl_deed [.inr (some (0, 0)), .inl d, .inl n, .inl w]) [] (cH F B C Wr E r) 0 0 := by
  have hw := hW.1
  have h4 := hw.1.1
  have h0 := hI.1
  have hL := hI.2.2.2.1
  have h2 := hL.1
  unfold sDeed at hq
  show X M_Pl_deed _ _ 0 [some (.inr (some (0, 0))), some (.inl (d)), some (.inl (n)), some (.inl (w)), none] [] (cH F B C Wr E r) 0 0
  refine X_run 1 (pc' := 1) (L' := [some (.inr (some (0, 0))), some (.inl (d)), some (.inl (n)), some (.inl (w)), none]) (st' := [.inr (some (0, 0))]) rfl ?_
  refine XC_get (a := 0) (i := 0) (v := .inr (some (2, 0))) rfl f_Pl_22 ⟨rfl, rfl⟩ (by assumption) rfl rfl ?_
  refine X_run 2 (pc' := 6) (L' := [some (.inr (some (0, 0))), some (.inl (d)), some (.inl (n)), some (.inl (w)), none]) (st' := [.inl (n), .inl (d), .inr (some (2, 0))]) rfl ?_
  refine X_callV (vs := [.inl (d), .inl (n)]) (st := []) (mc := 0) (ms := 0) rfl ok_Lg_find v_Pl_101 (cH_obj rfl (by assumption)) rfl rfl (Nat.le_of_ble_eq_true rfl) (Nat.le_of_ble_eq_true rfl) (Nat.le_of_ble_eq_true rfl) (Nat.le_of_ble_eq_true rfl) (Nat.le_of_ble_eq_true rfl) (Nat.le_of_ble_eq_true rfl) rfl ?_
  refine c_Lg_find hL (fun z hz => ?_)
  rcases hz with ⟨k, j, z1, z2, z3, z4, z5, z6⟩ | ⟨z1, z2⟩
  · rw [z6]
    have hp := (hw.p2 _).mp z5
    rw [show (40 * k + j) % 40 = j by omega, show (40 * k + j) / 40 = k by omega] at hp
    have hk : k < nd σ := by
      rcases Nat.lt_or_ge k (nd σ) with q | q
      · exact q
      · have := (hw.p12 k k k).2.2 (Or.inl q)
        have hp2 := hp.2
        unfold mny at hp2
        omega
    have kc : d.toNatClampNeg = k := by rw [z3]; exact nI_clamp (by omega)
    have jc : n.toNatClampNeg = j := by rw [z4]; exact nI_clamp (by omega)
    have hid : isD σ d = true := by rw [z3, isD_nI (by omega)]; exact decide_eq_true hk
    rw [hid, kc, jc, decide_eq_true (show 0 ≤ n.toInt ∧ n.toInt ≤ (mny σ k : Int) - 1 by rw [z4, nI_toInt (by omega)]; omega)] at hq
    have hDx := hL.2.2.2.2.2.2.2.1 _ z5
    have x18 := hDx.2.1
    show X M_Pl_deed _ _ 9 [some (.inr (some (0, 0))), some (.inl (d)), some (.inl (n)), some (.inl (w)), none] [.inr (some (18, 40 * k + j))] (cH F B C Wr E r) 0 0
    refine X_run 2 (pc' := 13) (L' := [some (.inr (some (0, 0))), some (.inl (d)), some (.inl (n)), some (.inl (w)), some (.inr (some (18, 40 * k + j)))]) (st' := [.inr (some (18, 40 * k + j))]) rfl ?_
    refine X_ifnonnull (tgt := 20) (nx := 16) rfl rfl rfl (fun nn n1 => ?_) (fun n1 => ?_)
    rotate_left
    · cases n1
    refine X_run 2 (pc' := 23) (L' := [some (.inr (some (0, 0))), some (.inl (d)), some (.inl (n)), some (.inl (w)), some (.inr (some (18, 40 * k + j)))]) (st' := [.inl (w), .inr (some (18, 40 * k + j))]) rfl ?_
    refine X_callV (vs := [.inl (w)]) (st := []) (mc := 0) (ms := 0) rfl ok_De_tell v_Pl_131 (cH_obj rfl (by assumption)) rfl rfl (Nat.le_of_ble_eq_true rfl) (Nat.le_of_ble_eq_true rfl) (Nat.le_of_ble_eq_true rfl) (Nat.le_of_ble_eq_true rfl) (Nat.le_of_ble_eq_true rfl) (Nat.le_of_ble_eq_true rfl) rfl ?_
    refine c_De_tell hDx ?_
    exact X_iret rfl rfl rfl (Nat.le_refl _) (Nat.le_refl _) hq
  · rw [z1]
    show X M_Pl_deed _ _ 9 [some (.inr (some (0, 0))), some (.inl (d)), some (.inl (n)), some (.inl (w)), none] [.inr none] (cH F B C Wr E r) 0 0
    refine X_run 2 (pc' := 13) (L' := [some (.inr (some (0, 0))), some (.inl (d)), some (.inl (n)), some (.inl (w)), some (.inr none)]) (st' := [.inr none]) rfl ?_
    refine X_ifnonnull (tgt := 20) (nx := 16) rfl rfl rfl (fun nn n1 => ?_) (fun n1 => ?_)
    · cases n1
    · refine X_run 2 (pc' := 26) (L' := [some (.inr (some (0, 0))), some (.inl (d)), some (.inl (n)), some (.inl (w)), some (.inr none)]) (st' := [.inl (-1)]) rfl ?_
      refine X_iret rfl rfl rfl (Nat.le_refl _) (Nat.le_refl _) (qi ?_ hq)
      rw [if_neg]
      intro q
      rw [Bool.and_eq_true, decide_eq_true_iff] at q
      obtain ⟨k, hk, ek⟩ := isD_t q.1
      have kc : d.toNatClampNeg = k := by rw [ek]; exact nI_clamp (by omega)
      rw [kc] at q
      have m40 : mny σ k ≤ 40 := hw.1.2.1 k k k
      obtain ⟨j, hj, e2⟩ := rng_nI (n := 39) (by decide) ⟨q.2.1, by omega⟩
      have q2 := q.2.2
      rw [e2, nI_toInt (by omega)] at q2
      exact z2 k j (by omega) (by omega) ek e2 (hw.known (d := k) (by omega) (show j < mny σ k by omega))
theorem c_Pl_about {w : Int32} (hW : W2 σ) (hI : BI σ F B C E) (hq : Q (some (.inl (sAbout σ w))) (cH F B C Wr E r)) : X M_Pl_about (rmo M_Pl_about 0 0) (Zm Q 0 0) 0 (ini M_Pl_about [.inr (some (0, 0)), .inl w]) [] (cH F B C Wr E r) 0 0 := by
  have h0 := hI.1
  have h2 := hI.2.2.2.1.1
  unfold sAbout at hq
  show X M_Pl_about _ _ 0 [some (.inr (some (0, 0))), some (.inl (w))] [] (cH F B C Wr E r) 0 0
  refine X_run 1 (pc' := 1) (L' := [some (.inr (some (0, 0))), some (.inl (w))]) (st' := [.inl (w)]) rfl ?_
  refine X_sw_0_5 (t0 := 36) (t1 := 41) (t2 := 49) (t3 := 57) (t4 := 62) (tout := 67) rfl rfl rfl rfl rfl rfl rfl (fun hw => ?_) (fun hw => ?_) (fun hw => ?_) (fun hw => ?_) (fun hw => ?_) (fun hw0 hw1 hw2 hw3 hw4 => ?_)
  · refine X_run 1 (pc' := 37) (L' := [some (.inr (some (0, 0))), some (.inl (w))]) (st' := [.inr (some (0, 0))]) rfl ?_
    refine XC_get (a := 0) (i := 0) (v := .inl (F 0 0 2)) rfl f_Pl_15 ⟨rfl, rfl⟩ (by assumption) rfl rfl ?_
    exact X_iret rfl rfl rfl (Nat.le_refl _) (Nat.le_refl _) (qi (by rw [hw]; exact hI.2.2.2.2.2.1) hq)
  · refine X_run 1 (pc' := 42) (L' := [some (.inr (some (0, 0))), some (.inl (w))]) (st' := [.inr (some (0, 0))]) rfl ?_
    refine XC_get (a := 0) (i := 0) (v := .inr (some (2, 0))) rfl f_Pl_22 ⟨rfl, rfl⟩ (by assumption) rfl rfl ?_
    refine XC_get (a := 2) (i := 0) (v := .inl (F 2 0 2)) rfl f_Pl_134 ⟨rfl, rfl⟩ (by assumption) rfl rfl ?_
    exact X_iret rfl rfl rfl (Nat.le_refl _) (Nat.le_refl _) (qi (by rw [hw, hI.2.2.2.1.2.2.2.1, hW.1.p13]; rfl) hq)
  · refine X_run 1 (pc' := 50) (L' := [some (.inr (some (0, 0))), some (.inl (w))]) (st' := [.inr (some (0, 0))]) rfl ?_
    refine XC_get (a := 0) (i := 0) (v := .inl (F 0 0 0)) rfl f_Pl_32 ⟨rfl, rfl⟩ (by assumption) rfl rfl ?_
    refine X_eq (st' := [.inl (b2i (wn σ))]) rfl (congrArg (fun zz9 => Sum.inl zz9 :: _) (hI.2.2.2.2.1)) rfl ?_
    refine X_callS (vs := [.inl (b2i (wn σ))]) (st := []) (mc := 0) (ms := 0) rfl ok_Pl_asInt s_Pl_137 rfl rfl (Nat.le_of_ble_eq_true rfl) (Nat.le_of_ble_eq_true rfl) (Nat.le_of_ble_eq_true rfl) (Nat.le_of_ble_eq_true rfl) (Nat.le_of_ble_eq_true rfl) (Nat.le_of_ble_eq_true rfl) rfl ?_
    refine c_Pl_asInt ?_
    show X M_Pl_about _ _ 56 [some (.inr (some (0, 0))), some (.inl (w))] [.inl (b2i (wn σ))] (cH F B C Wr E r) 0 0
    exact X_iret rfl rfl rfl (Nat.le_refl _) (Nat.le_refl _) (qi (by rw [hw]; rfl) hq)
  · refine X_run 1 (pc' := 58) (L' := [some (.inr (some (0, 0))), some (.inl (w))]) (st' := [.inr (some (0, 0))]) rfl ?_
    refine XC_get (a := 0) (i := 0) (v := .inl (F 0 0 5)) rfl f_Pl_26 ⟨rfl, rfl⟩ (by assumption) rfl rfl ?_
    exact X_iret rfl rfl rfl (Nat.le_refl _) (Nat.le_refl _) (qi (by rw [hw]; exact hI.2.2.2.2.2.2.1) hq)
  · refine X_run 1 (pc' := 63) (L' := [some (.inr (some (0, 0))), some (.inl (w))]) (st' := [.inr (some (0, 0))]) rfl ?_
    refine XC_get (a := 0) (i := 0) (v := .inl (F 0 0 6)) rfl f_Pl_29 ⟨rfl, rfl⟩ (by assumption) rfl rfl ?_
    exact X_iret rfl rfl rfl (Nat.le_refl _) (Nat.le_refl _) (qi (by rw [hw]; exact hI.2.2.2.2.2.2.2.1) hq)
  · refine X_run 1 (pc' := 68) (L' := [some (.inr (some (0, 0))), some (.inl (w))]) (st' := [.inl (-1)]) rfl ?_
    refine X_iret rfl rfl rfl (Nat.le_refl _) (Nat.le_refl _) (qi ?_ hq)
    rw [if_neg (show ¬ w = 0 from hw0), if_neg (show ¬ w = 1 from hw1), if_neg (show ¬ w = 2 from hw2), if_neg (show ¬ w = 3 from hw3), if_neg (show ¬ w = 4 from hw4)]
end

