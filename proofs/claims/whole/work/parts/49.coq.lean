/-! the component: deeds on a thing; the view is drawn -/
theorem CL_d {σ : Sg} (h : W2 σ) (d : Nat) : CL σ (rk σ d d) := fun x hx hv e => h.2.2.2.1 d x hx (by simpa [inV] using hv) e
theorem CL_k {σ : Sg} (h : W2 σ) {x : Nat} (hx : x ∈ ln σ) : CL σ (kw σ x) := fun y hy hv e => by
  have h1 : y % 40 < kw σ x (y / 40) := by simpa [inV] using hv
  have h2 : kn σ x e ≤ kw σ x e := Nat.le_add_right _ _
  by_cases q : y = x
  · rw [q]
    exact h2
  · exact Nat.le_trans (h.2.2.1 x y hx hy ((kw_knw h.1 hx q).mp h1) e) h2
theorem okS_k {σ : Sg} (h : WF σ) {x : Nat} (hx : x ∈ ln σ) : okS σ (kw σ x) := fun e => by
  obtain ⟨a1, a2, a3⟩ := h.p11 x hx
  have h2 := ((h.p2 x).mp hx).2
  unfold kw
  by_cases q : e = x / 40
  · rw [if_pos q, q, a1]
    omega
  · rw [if_neg q]
    exact a3 e
/-- the view's set is that of its device, or of its deed -/
theorem vs_cases {σ : Sg} (h : WF σ) (hv : vd σ ≠ -1) : ∃ d, d < nd σ ∧ vd σ = nI d ∧ ((vn σ = -1 ∧ vsee σ = rk σ d d) ∨ ∃ n, n < mny σ d ∧ vn σ = nI n ∧ 40 * d + n ∈ ln σ ∧ vsee σ = kw σ (40 * d + n)) := by
  obtain ⟨d, h1, h2, h3⟩ := vsee_d h hv
  refine ⟨d, h1, h2, ?_⟩
  rcases h3 with ⟨a1, a2⟩ | ⟨n, a1, a2, a3, a4⟩
  · exact Or.inl ⟨a1, funext a2⟩
  · refine Or.inr ⟨n, a1, a2, a3, funext fun e => ?_⟩
    have := ((h.p2 _).mp a3)
    have b := h.1.2.1 d d d
    unfold mny at a1
    rw [a4 e]
    unfold kw
    rw [show (40 * d + n) / 40 = d by omega]
theorem CL_v {σ : Sg} (h : W2 σ) (hv : vd σ ≠ -1) : CL σ (vsee σ) := by
  obtain ⟨d, -, -, ⟨-, e⟩ | ⟨n, -, -, hx, e⟩⟩ := vs_cases h.1 hv
  · rw [e]
    exact CL_d h d
  · rw [e]
    exact CL_k h hx
/-- what drawing costs: nothing, if it is drawn already -/
def DW (σ : Sg) (m : Nat → Nat) (mc ms : Nat) (F : CF) (B : CB) (C : CC) (E : Nat → Nat → Bool) : Prop := ∃ see, CD σ see F B C E ∧ ((mc = 800 ∧ ms = 4640) ∨ (mc = 0 ∧ ms = 0 ∧ see = m))
theorem CI.dw {σ : Sg} {F : CF} {B : CB} {C : CC} {E : Nat → Nat → Bool} (h : CI σ F B C E) (m : Nat → Nat) : DW σ m 800 4640 F B C E := by
  obtain ⟨see, h⟩ := h
  exact ⟨see, h, Or.inl ⟨rfl, rfl⟩⟩
theorem DW.ci {σ : Sg} {m : Nat → Nat} {mc ms : Nat} {F : CF} {B : CB} {C : CC} {E : Nat → Nat → Bool} (h : DW σ m mc ms F B C E) : CI σ F B C E := by
  obtain ⟨see, h, -⟩ := h
  exact ⟨see, h⟩
theorem CD_do {σ : Sg} {see : Nat → Nat} {F F' : CF} {B B' : CB} {C C' : CC} {E E' : Nat → Nat → Bool} {d w t : Nat} {v n : Int32} (h : CD σ see F B C E) (hW : W2 σ) (ok : okD σ d w t v n) (hI : BI (doS σ d w t v n) F' B' C' E') (g : FP F B C E F' B' C' E') : CD (doS σ d w t v n) see F' B' C' E' := by
  obtain ⟨-, h2, h3⟩ := h
  have hs : okS (doS σ d w t v n) see := fun e => by
    have h4 := h2 e
    show see e ≤ if e = d ∧ e = d ∧ e = d then mny σ d + 1 else rk σ e e e
    split
    · rename_i q
      rw [q.1] at h4 ⊢
      omega
    · exact h4
  refine ⟨hI, hs, (h3.agr (doS_agr hW.1 h2 ok.2.1) hW.1 h2).fr (doS_W2 hW ok).1 hs (fun a i k ha => g.1 a i k (by omega) (by omega)) (g.2.1 6 0 (by decide) (by decide)) ⟨g.2.2.1 9 (by decide) (by decide), g.2.2.1 14 (by decide) (by decide)⟩ (fun a i ha => g.2.2.2 a i (by omega) (by omega))⟩
section
variable {F : CF} {B : CB} {C : CC} {Wr : Nat → Option Nd} {E : Nat → Nat → Bool} {r : AH} {Q : Option AV → AH → Prop} {h : AH} {σ : Sg} {see m : Nat → Nat}
theorem c_Pi_drawU {a i mc ms : Nat} (hW : W2 σ) (hD : DW σ m mc ms F B C E) (hk : rKd a = 1 ∧ rTg a = 0 ∧ rLn a = 4) (hE : E a i = true) (hm : ∀ e, e < 4 → B a i e = nI (m e)) (hmS : okS σ m) (hmC : CL σ m) (hq : ∀ (F' : CF) (B' : CB) (C' : CC) (Wr' : Nat → Option Nd) (E' : Nat → Nat → Bool), FD F B C E F' B' C' E' → CD σ m F' B' C' E' → Q none (cH F' B' C' Wr' E' r)) : X M_Pi_draw (rmo M_Pi_draw mc ms) (Zm Q mc ms) 0 (ini M_Pi_draw [.inr (some (5, 0)), .inr (some (2, 0)), .inr (some (a, i))]) [] (cH F B C Wr E r) 0 0 := by
  obtain ⟨see, ⟨c1, c2, c3⟩, ⟨rfl, rfl⟩ | ⟨rfl, rfl, rfl⟩⟩ := hD
  · refine c_Pi_draw hW c1.2.2.1 c1.2.2.2.1 c1.2.2.2.2.2.2.2.2.1 hk hE hm hmS hmC c3 c2 (fun F' B' C' W' E' g p => hq F' B' C' W' E' g ⟨c1.fd g, hmS, p⟩)
  · exact c_Pi_draw0 hW.1 c1.2.2.1 hk hE hm c3 c2 (hq _ _ _ _ _ FD.rfl ⟨c1, c2, c3⟩)
theorem DW.mc {mc ms : Nat} (h : DW σ m mc ms F B C E) : (mc = 800 ∧ ms = 4640) ∨ (mc = 0 ∧ ms = 0) := by
  obtain ⟨see, -, q | ⟨q1, q2, -⟩⟩ := h
  · exact Or.inl q
  · exact Or.inr ⟨q1, q2⟩
theorem c_Pl_performOn {d t am nm v : Int32} {w mc ms : Nat} (hW : W2 σ) (hD : DW σ (rk σ d.toNatClampNeg d.toNatClampNeg) mc ms F B C E) (hw1 : 1 ≤ w ∧ w ≤ 6) (hv : (w = 1 ∨ w = 2 ∨ w = 5) → am = v) (hn6 : w = 6 → nm = v) (h5 : w = 5 → canT σ d t false = true → (v = -1 ∨ ∃ k, k < 160 ∧ v = nI k) ∧ v ≠ t) (h2 : w = 2 → 1 ≤ v.toInt ∧ v.toInt ≤ 99) (h6 : w = 6 → 1 ≤ v.toInt ∧ v.toInt ≤ 999) (hq : ∀ (F' : CF) (B' : CB) (C' : CC) (Wr' : Nat → Option Nd) (E' : Nat → Nat → Bool), CI (sOn σ d t w (w == 4) v true).1 F' B' C' E' → Q (some (.inl (sOn σ d t w (w == 4) v true).2)) (cH F' B' C' Wr' E' r)) : X M_Pl_performOn (rmo M_Pl_performOn (mc + 2) (ms + 12)) (Zm Q (mc + 2) (ms + 12)) 0 (ini M_Pl_performOn [.inr (some (0, 0)), .inl d, .inl (nI w), .inl t, .inl am, .inl nm]) [] (cH F B C Wr E r) 0 0 := by
  have hw := hW.1
  have h4 := hw.1.1
  have hI : BI σ F B C E := by obtain ⟨see, h, -⟩ := hD; exact h.1
  have no : canT σ d t (w == 4) = false → ∀ (F' : CF) (B' : CB) (C' : CC) (Wr' : Nat → Option Nd) (E' : Nat → Nat → Bool), CI σ F' B' C' E' → Q (some (.inl 0)) (cH F' B' C' Wr' E' r) := fun hc F' B' C' W' E' hI' => by
    have := hq F' B' C' W' E'
    unfold sOn at this
    rw [hc] at this
    exact this hI'
  have h0 := hI.1
  show X M_Pl_performOn _ _ 0 [some (.inr (some (0, 0))), some (.inl (d)), some (.inl (nI w)), some (.inl (t)), some (.inl (am)), some (.inl (nm)), none, none] [] (cH F B C Wr E r) 0 0
  refine X_run 2 (pc' := 2) (L' := [some (.inr (some (0, 0))), some (.inl (d)), some (.inl (nI w)), some (.inl (t)), some (.inl (am)), some (.inl (nm)), none, none]) (st' := [.inl (d), .inr (some (0, 0))]) rfl ?_
  refine X_callV (vs := [.inl (d)]) (st := []) (mc := 0) (ms := 0) rfl ok_Pl_findDoer v_Pl_67 (cH_obj rfl (by assumption)) rfl rfl (Nat.le_of_ble_eq_true rfl) (Nat.le_of_ble_eq_true rfl) (Nat.le_of_ble_eq_true rfl) (Nat.le_of_ble_eq_true rfl) (Nat.le_of_ble_eq_true rfl) (Nat.le_of_ble_eq_true rfl) rfl ?_
  refine c_Pl_findDoer hI h4 (fun k hk ek hmk => ?_) (fun hno => ?_)
  rotate_left
  · show X M_Pl_performOn _ _ 5 [some (.inr (some (0, 0))), some (.inl (d)), some (.inl (nI w)), some (.inl (t)), some (.inl (am)), some (.inl (nm)), none, none] [.inr none] (cH F B C Wr E r) 0 0
    refine X_run 2 (pc' := 9) (L' := [some (.inr (some (0, 0))), some (.inl (d)), some (.inl (nI w)), some (.inl (t)), some (.inl (am)), some (.inl (nm)), some (.inr none), none]) (st' := [.inr none]) rfl ?_
    refine X_ifnonnull (tgt := 14) (nx := 12) rfl rfl rfl (fun nn n1 => ?_) (fun n1 => ?_)
    · cases n1
    · refine X_run 1 (pc' := 13) (L' := [some (.inr (some (0, 0))), some (.inl (d)), some (.inl (nI w)), some (.inl (t)), some (.inl (am)), some (.inl (nm)), some (.inr none), none]) (st' := [.inl (0)]) rfl ?_
      exact X_iret rfl rfl rfl (Nat.zero_le _) (Nat.zero_le _) (no (by unfold canT; rw [hno]; rfl) F B C Wr E hD.ci)
  have kc : d.toNatClampNeg = k := by rw [ek]; exact nI_clamp (by omega)
  rw [kc] at hD
  obtain ⟨k4, h15, h16, hn15, hr⟩ := hI.2.2.2.2.2.2.2.2.2.2.1 k hk
  have h17 := (hr k k4).1
  show X M_Pl_performOn _ _ 5 [some (.inr (some (0, 0))), some (.inl (d)), some (.inl (nI w)), some (.inl (t)), some (.inl (am)), some (.inl (nm)), none, none] [.inr (some (15, k))] (cH F B C Wr E r) 0 0
  refine X_run 2 (pc' := 9) (L' := [some (.inr (some (0, 0))), some (.inl (d)), some (.inl (nI w)), some (.inl (t)), some (.inl (am)), some (.inl (nm)), some (.inr (some (15, k))), none]) (st' := [.inr (some (15, k))]) rfl ?_
  refine X_ifnonnull (tgt := 14) (nx := 12) rfl rfl rfl (fun nn n1 => ?_) (fun n1 => ?_)
  rotate_left
  · cases n1
  have h2' := hI.2.2.2.1.1
  have hP5 := hI.2.2.1.1
  refine X_run 1 (pc' := 15) (L' := [some (.inr (some (0, 0))), some (.inl (d)), some (.inl (nI w)), some (.inl (t)), some (.inl (am)), some (.inl (nm)), some (.inr (some (15, k))), none]) (st' := [.inr (some (0, 0))]) rfl ?_
  refine XC_get (a := 0) (i := 0) (v := .inr (some (5, 0))) rfl f_Pl_41 ⟨rfl, rfl⟩ (by assumption) rfl rfl ?_
  refine X_run 1 (pc' := 19) (L' := [some (.inr (some (0, 0))), some (.inl (d)), some (.inl (nI w)), some (.inl (t)), some (.inl (am)), some (.inl (nm)), some (.inr (some (15, k))), none]) (st' := [.inr (some (0, 0)), .inr (some (5, 0))]) rfl ?_
  refine XC_get (a := 0) (i := 0) (v := .inr (some (2, 0))) rfl f_Pl_22 ⟨rfl, rfl⟩ (by assumption) rfl rfl ?_
  refine X_run 1 (pc' := 24) (L' := [some (.inr (some (0, 0))), some (.inl (d)), some (.inl (nI w)), some (.inl (t)), some (.inl (am)), some (.inl (nm)), some (.inr (some (15, k))), none]) (st' := [.inr (some (15, k)), .inr (some (2, 0)), .inr (some (5, 0))]) rfl ?_
  refine X_callV (vs := []) (st := [.inr (some (2, 0)), .inr (some (5, 0))]) (mc := 0) (ms := 0) rfl ok_Dv_known v_Pl_59 (cH_obj rfl (by assumption)) rfl rfl (Nat.le_of_ble_eq_true rfl) (Nat.le_of_ble_eq_true rfl) (Nat.le_of_ble_eq_true rfl) (Nat.le_of_ble_eq_true rfl) (Nat.le_of_ble_eq_true rfl) (Nat.le_of_ble_eq_true rfl) rfl ?_
  refine c_Dv_known k4 h15 h16 hn15 ?_
  show X M_Pl_performOn _ _ 27 [some (.inr (some (0, 0))), some (.inl (d)), some (.inl (nI w)), some (.inl (t)), some (.inl (am)), some (.inl (nm)), some (.inr (some (15, k))), none] [.inr (some (17, 4 * k + k)), .inr (some (2, 0)), .inr (some (5, 0))] (cH F B C Wr E r) 0 0
  refine X_callV (vs := [.inr (some (2, 0)), .inr (some (17, 4 * k + k))]) (st := []) (mc := mc) (ms := ms) rfl ok_Pi_draw v_Pl_90 (cH_obj rfl (by assumption)) rfl rfl (Nat.le_of_ble_eq_true rfl) (Nat.le_of_ble_eq_true rfl) (Nat.le_of_ble_eq_true rfl) (Nat.le_of_ble_eq_true rfl) (by show 0 + mc ≤ mc + 2; omega) (by show 0 + ms ≤ ms + 12; omega) rfl ?_
  refine c_Pi_drawU (m := rk σ k k) hW hD ⟨rfl, rfl, rfl⟩ h17 (fun e he => ((hr k k4).2 e he).1) (okS_d hw k) (CL_d hW k) (fun F1 B1 C1 W1 E1 fd hCD => ?_)
  show X M_Pl_performOn _ _ 30 [some (.inr (some (0, 0))), some (.inl (d)), some (.inl (nI w)), some (.inl (t)), some (.inl (am)), some (.inl (nm)), some (.inr (some (15, k))), none] [] (cH F1 B1 C1 W1 E1 r) (0 + mc) (0 + ms)
  have hI1 := hCD.1
  have q0 := hI1.1
  have hP1 := hI1.2.2.1
  have hP15 := hP1.1
  have cdt : ∀ b, canT σ d t b = (decide (0 ≤ t.toInt ∧ t.toInt ≤ 159) && thF σ (rk σ k k) t.toNatClampNeg && (stkF σ (rk σ k k) t.toNatClampNeg == b)) := fun b => by
    unfold canT canD
    rw [kc, ek, isD_nI (by omega), decide_eq_true hk, decide_eq_true hmk]
    simp
  refine X_run 1 (pc' := 31) (L' := [some (.inr (some (0, 0))), some (.inl (d)), some (.inl (nI w)), some (.inl (t)), some (.inl (am)), some (.inl (nm)), some (.inr (some (15, k))), none]) (st' := [.inr (some (0, 0))]) rfl ?_
  refine XC_get (a := 0) (i := 0) (v := .inr (some (5, 0))) rfl f_Pl_41 ⟨rfl, rfl⟩ (by assumption) rfl rfl ?_
  refine X_run 1 (pc' := 35) (L' := [some (.inr (some (0, 0))), some (.inl (d)), some (.inl (nI w)), some (.inl (t)), some (.inl (am)), some (.inl (nm)), some (.inr (some (15, k))), none]) (st' := [.inl (t), .inr (some (5, 0))]) rfl ?_
  refine X_callV (vs := [.inl (t)]) (st := []) (mc := 0) (ms := 0) rfl ok_Pi_find v_Pl_94 (cH_obj rfl (by assumption)) rfl rfl (Nat.le_of_ble_eq_true rfl) (Nat.le_of_ble_eq_true rfl) (Nat.le_of_ble_eq_true rfl) (Nat.le_of_ble_eq_true rfl) (by show 0 + mc + 0 ≤ mc + 2; omega) (by show 0 + ms + 0 ≤ ms + 12; omega) rfl ?_
  refine c_Pi_find hP1 hCD.2.2.2.1.TH (fun z hz => ?_)
  rcases hz with ⟨y, y160, ey, hth, ez⟩ | ⟨ez, hno⟩
  rotate_left
  · rw [ez]
    show X M_Pl_performOn _ _ 38 [some (.inr (some (0, 0))), some (.inl (d)), some (.inl (nI w)), some (.inl (t)), some (.inl (am)), some (.inl (nm)), some (.inr (some (15, k))), none] [.inr none] (cH F1 B1 C1 W1 E1 r) (0 + mc) (0 + ms)
    refine X_run 2 (pc' := 42) (L' := [some (.inr (some (0, 0))), some (.inl (d)), some (.inl (nI w)), some (.inl (t)), some (.inl (am)), some (.inl (nm)), some (.inr (some (15, k))), some (.inr none)]) (st' := [.inr none]) rfl ?_
    refine X_ifnull (tgt := 63) (nx := 45) rfl rfl rfl (fun n2 => ?_) (fun nn n2 => ?_)
    · refine X_run 1 (pc' := 64) (L' := [some (.inr (some (0, 0))), some (.inl (d)), some (.inl (nI w)), some (.inl (t)), some (.inl (am)), some (.inl (nm)), some (.inr (some (15, k))), some (.inr none)]) (st' := [.inl (0)]) rfl ?_
      refine X_iret rfl rfl rfl (by omega) (by omega) (no ?_ F1 B1 C1 W1 E1 ⟨_, hCD⟩)
      rw [cdt]
      by_cases q : 0 ≤ t.toInt ∧ t.toInt ≤ 159
      · obtain ⟨y, hy, e2⟩ := rng_nI (n := 159) (by decide) q
        have := hno y (by omega) e2
        rw [e2, nI_clamp (by omega), this]
        simp
      · rw [decide_eq_false q]
        rfl
    · cases n2
  rw [ez]
  have yc : t.toNatClampNeg = y := by rw [ey]; exact nI_clamp (by omega)
  have hrt : decide (0 ≤ t.toInt ∧ t.toInt ≤ 159) = true := by
    rw [ey, nI_toInt (by omega)]
    exact decide_eq_true (by omega)
  have e20 := (hCD.2.2.2.1.on y160 hth).2.1
  have fst := (hCD.2.2.2.2.2.1 y y160 hth).1
  have cdt2 : ∀ b, canT σ d t b = (stkF σ (rk σ k k) y == b) := fun b => by
    rw [cdt, hrt, yc, hth]
    rfl
  show X M_Pl_performOn _ _ 38 [some (.inr (some (0, 0))), some (.inl (d)), some (.inl (nI w)), some (.inl (t)), some (.inl (am)), some (.inl (nm)), some (.inr (some (15, k))), none] [.inr (some (20, y))] (cH F1 B1 C1 W1 E1 r) (0 + mc) (0 + ms)
  refine X_eq (L' := [some (.inr (some (0, 0))), some (.inl (d)), some (.inl (nI w)), some (.inl (nI y)), some (.inl (am)), some (.inl (nm)), some (.inr (some (15, k))), none]) (congrArg (fun zz9 : Int32 => ([some (.inr (some (0, 0))), some (.inl (d)), some (.inl (nI w)), some (.inl zz9), some (.inl (am)), some (.inl (nm)), some (.inr (some (15, k))), none] : List (Option AV))) (ey)) rfl rfl ?_
  refine X_run 2 (pc' := 42) (L' := [some (.inr (some (0, 0))), some (.inl (d)), some (.inl (nI w)), some (.inl (nI y)), some (.inl (am)), some (.inl (nm)), some (.inr (some (15, k))), some (.inr (some (20, y)))]) (st' := [.inr (some (20, y))]) rfl ?_
  refine X_ifnull (tgt := 63) (nx := 45) rfl rfl rfl (fun n2 => ?_) (fun nn n2 => ?_)
  · cases n2
  · refine X_run 1 (pc' := 47) (L' := [some (.inr (some (0, 0))), some (.inl (d)), some (.inl (nI w)), some (.inl (nI y)), some (.inl (am)), some (.inl (nm)), some (.inr (some (15, k))), some (.inr (some (20, y)))]) (st' := [.inr (some (20, y))]) rfl ?_
    refine XC_get (a := 20) (i := y) (v := .inl (F1 20 y 2)) rfl f_Pl_141 ⟨rfl, rfl⟩ (by assumption) rfl rfl ?_
    refine X_eq (st' := [.inl (b2i (stkF σ (rk σ k k) y))]) rfl (congrArg (fun zz9 => Sum.inl zz9 :: _) (fst)) rfl ?_
    have tail : ∀ b : Bool, b = (w == 4) → X M_Pl_performOn (rmo M_Pl_performOn (mc + 2) (ms + 12)) (Zm Q (mc + 2) (ms + 12)) 60 [some (.inr (some (0, 0))), some (.inl d), some (.inl (nI w)), some (.inl (nI y)), some (.inl am), some (.inl nm), some (.inr (some (15, k))), some (.inr (some (20, y)))] [.inl (b2i b), .inl (b2i (stkF σ (rk σ k k) y))] (cH F1 B1 C1 W1 E1 r) (0 + mc) (0 + ms) := by
      intro b hb
      refine X_ic_eq (tgt := 65) (nx := 63) rfl rfl rfl (fun n3 => ?_) (fun n3 => ?_)
      · have n3 : stkF σ (rk σ k k) y = b := by
          generalize stkF σ (rk σ k k) y = s at n3
          cases s <;> cases b <;> first | rfl | exact absurd n3 (by decide)
        have hct : canT σ d t (w == 4) = true := by
          rw [cdt2, n3, hb]
          simp
        obtain ⟨tc1, tc2⟩ := th_ct.mp hth
        have tl := inV_ln hw (okS_d hw k) (ct_t tc1).1
        have ok : okD σ k w y v 0 := by
          refine ⟨hk, hmk, by omega, y160, fun _ _ => ⟨tc2, tl.1, by simpa [inV] using (ct_t tc1).1⟩, fun z => by omega, fun z => by omega, fun z => ?_, h2, h6⟩
          have := h5 z (by rw [z] at hct; exact hct)
          rw [ey] at this
          exact this
        refine X_run 6 (pc' := 74) (L' := [some (.inr (some (0, 0))), some (.inl (d)), some (.inl (nI w)), some (.inl (nI y)), some (.inl (am)), some (.inl (nm)), some (.inr (some (15, k))), some (.inr (some (20, y)))]) (st' := [.inl (nm), .inl (am), .inl (nI y), .inl (nI w), .inr (some (15, k)), .inr (some (0, 0))]) rfl ?_
        refine X_callV (vs := [.inr (some (15, k)), .inl (nI w), .inl (nI y), .inl (am), .inl (nm)]) (st := []) (mc := 2) (ms := 12) rfl ok_Pl_perform v_Pl_82 (cH_obj rfl (by assumption)) rfl rfl (Nat.le_of_ble_eq_true rfl) (Nat.le_of_ble_eq_true rfl) (Nat.le_of_ble_eq_true rfl) (Nat.le_of_ble_eq_true rfl) (by show 0 + mc + 2 ≤ mc + 2; omega) (by show 0 + ms + 12 ≤ ms + 12; omega) rfl ?_
        refine c_Pl_perform (v := v) (n := 0) hW hI1 ok (fun z => hv (by omega)) (fun z => by omega) hn6 (fun F2 B2 C2 E2 hI2 hFP => ?_)
        show X M_Pl_performOn _ _ 77 [some (.inr (some (0, 0))), some (.inl (d)), some (.inl (nI w)), some (.inl (nI y)), some (.inl (am)), some (.inl (nm)), some (.inr (some (15, k))), some (.inr (some (20, y)))] [] (cH F2 B2 C2 W1 E2 r) (0 + mc + 2) (0 + ms + 12)
        refine X_run 1 (pc' := 78) (L' := [some (.inr (some (0, 0))), some (.inl (d)), some (.inl (nI w)), some (.inl (nI y)), some (.inl (am)), some (.inl (nm)), some (.inr (some (15, k))), some (.inr (some (20, y)))]) (st' := [.inl (1)]) rfl ?_
        refine X_iret rfl rfl rfl (by omega) (by omega) ?_
        have := hq F2 B2 C2 W1 E2
        unfold sOn at this
        rw [hct, kc, yc] at this
        exact this ⟨_, CD_do hCD hW ok hI2 hFP⟩
      · refine X_run 1 (pc' := 64) (L' := [some (.inr (some (0, 0))), some (.inl (d)), some (.inl (nI w)), some (.inl (nI y)), some (.inl (am)), some (.inl (nm)), some (.inr (some (15, k))), some (.inr (some (20, y)))]) (st' := [.inl (0)]) rfl ?_
        refine X_iret rfl rfl rfl (by omega) (by omega) (no ?_ F1 B1 C1 W1 E1 ⟨_, hCD⟩)
        rw [cdt2, ← hb]
        generalize stkF σ (rk σ k k) y = s at n3
        cases s <;> cases b <;> first | rfl | exact absurd rfl n3
    refine X_run 2 (pc' := 52) (L' := [some (.inr (some (0, 0))), some (.inl (d)), some (.inl (nI w)), some (.inl (nI y)), some (.inl (am)), some (.inl (nm)), some (.inr (some (15, k))), some (.inr (some (20, y)))]) (st' := [.inl (4), .inl (nI w), .inl (b2i (stkF σ (rk σ k k) y))]) rfl ?_
    refine X_ic_ne (tgt := 59) (nx := 55) rfl rfl rfl (fun n3 => ?_) (fun n3 => ?_)
    · have n3 := li_ne (b := 4) n3
      refine X_run 1 (pc' := 60) (L' := [some (.inr (some (0, 0))), some (.inl (d)), some (.inl (nI w)), some (.inl (nI y)), some (.inl (am)), some (.inl (nm)), some (.inr (some (15, k))), some (.inr (some (20, y)))]) (st' := [.inl (0), .inl (b2i (stkF σ (rk σ k k) y))]) rfl ?_
      exact tail false (by simpa using n3)
    · have n3 := li_eq (b := 4) (by omega) (by omega) n3
      refine X_run 2 (pc' := 60) (L' := [some (.inr (some (0, 0))), some (.inl (d)), some (.inl (nI w)), some (.inl (nI y)), some (.inl (am)), some (.inl (nm)), some (.inr (some (15, k))), some (.inr (some (20, y)))]) (st' := [.inl (1), .inl (b2i (stkF σ (rk σ k k) y))]) rfl ?_
      exact tail true (by rw [n3]; rfl)
theorem c_Pl_drawView (hW : W2 σ) (hI : CI σ F B C E) (hq0 : vd σ = -1 → Q (some (.inl 0)) (cH F B C Wr E r)) (hq1 : vd σ ≠ -1 → ∀ (F' : CF) (B' : CB) (C' : CC) (Wr' : Nat → Option Nd) (E' : Nat → Nat → Bool), CD σ (vsee σ) F' B' C' E' → Q (some (.inl 1)) (cH F' B' C' Wr' E' r)) : X M_Pl_drawView (rmo M_Pl_drawView 800 4640) (Zm Q 800 4640) 0 (ini M_Pl_drawView [.inr (some (0, 0))]) [] (cH F B C Wr E r) 0 0 := by
  have hw := hW.1
  have h4 := hw.1.1
  have hDW := hI.dw (vsee σ)
  obtain ⟨see, hB, -, -⟩ := hI
  have h0 := hB.1
  have hvd := hB.2.2.2.2.2.2.1
  have hvn := hB.2.2.2.2.2.2.2.1
  have hL := hB.2.2.2.1
  have h2 := hL.1
  have h5 := hB.2.2.1.1
  show X M_Pl_drawView _ _ 0 [some (.inr (some (0, 0))), none, none] [] (cH F B C Wr E r) 0 0
  refine X_run 2 (pc' := 2) (L' := [some (.inr (some (0, 0))), none, none]) (st' := [.inr (some (0, 0)), .inr (some (0, 0))]) rfl ?_
  refine XC_get (a := 0) (i := 0) (v := .inl (F 0 0 5)) rfl f_Pl_26 ⟨rfl, rfl⟩ (by assumption) rfl rfl ?_
  refine X_eq (st' := [.inl (vd σ), .inr (some (0, 0))]) rfl (congrArg (fun zz9 => Sum.inl zz9 :: _) (hvd)) rfl ?_
  refine X_callV (vs := [.inl (vd σ)]) (st := []) (mc := 0) (ms := 0) rfl ok_Pl_findDevice v_Pl_45 (cH_obj rfl (by assumption)) rfl rfl (Nat.le_of_ble_eq_true rfl) (Nat.le_of_ble_eq_true rfl) (Nat.le_of_ble_eq_true rfl) (Nat.le_of_ble_eq_true rfl) (Nat.le_of_ble_eq_true rfl) (Nat.le_of_ble_eq_true rfl) rfl ?_
  refine c_Pl_findDevice hB h4 (fun k hk ek => ?_) (fun hno => ?_)
  rotate_left
  · show X M_Pl_drawView _ _ 8 [some (.inr (some (0, 0))), none, none] [.inr none] (cH F B C Wr E r) 0 0
    refine X_run 2 (pc' := 10) (L' := [some (.inr (some (0, 0))), some (.inr none), none]) (st' := [.inr none]) rfl ?_
    refine X_ifnonnull (tgt := 15) (nx := 13) rfl rfl rfl (fun nn n1 => ?_) (fun n1 => ?_)
    · cases n1
    · refine X_run 1 (pc' := 14) (L' := [some (.inr (some (0, 0))), some (.inr none), none]) (st' := [.inl (0)]) rfl ?_
      refine X_iret rfl rfl rfl (Nat.zero_le _) (Nat.zero_le _) (hq0 ?_)
      rcases hw.p15 with q | ⟨d, q1, q2, -⟩
      · exact q.1
      · rw [q2, isD_nI (by omega), decide_eq_true q1] at hno
        cases hno
  have vne : vd σ ≠ -1 := fun z => by
    have := congrArg Int32.toInt (ek.symm.trans z)
    rw [nI_toInt (by omega)] at this
    have e1 : (-1 : Int32).toInt = -1 := by decide
    omega
  obtain ⟨k4, h15, h16, hn15, hr⟩ := hB.2.2.2.2.2.2.2.2.2.2.1 k hk
  have h17 := (hr k k4).1
  have fin : ∀ (a i : Nat) (o : Option AV), rKd a = 1 ∧ rTg a = 0 ∧ rLn a = 4 → E a i = true → (∀ e, e < 4 → B a i e = nI (vsee σ e)) → X M_Pl_drawView (rmo M_Pl_drawView 800 4640) (Zm Q 800 4640) 54 [some (.inr (some (0, 0))), some (.inr (some (15, k))), o] [.inr (some (a, i)), .inr (some (2, 0)), .inr (some (5, 0))] (cH F B C Wr E r) 0 0 := by
    intro a i o g1 g2 g3
    refine X_callV (vs := [.inr (some (2, 0)), .inr (some (a, i))]) (st := []) (mc := 800) (ms := 4640) rfl ok_Pi_draw v_Pl_90 (cH_obj rfl (by assumption)) rfl rfl (Nat.le_of_ble_eq_true rfl) (Nat.le_of_ble_eq_true rfl) (Nat.le_of_ble_eq_true rfl) (Nat.le_of_ble_eq_true rfl) (Nat.le_of_ble_eq_true rfl) (Nat.le_of_ble_eq_true rfl) rfl ?_
    refine c_Pi_drawU (m := vsee σ) hW hDW g1 g2 g3 (okS_v hw vne) (CL_v hW vne) (fun F1 B1 C1 W1 E1 fd hCD => ?_)
    show X M_Pl_drawView _ _ 57 [some (.inr (some (0, 0))), some (.inr (some (15, k))), o] [] (cH F1 B1 C1 W1 E1 r) 800 4640
    refine X_run 1 (pc' := 58) (L' := [some (.inr (some (0, 0))), some (.inr (some (15, k))), o]) (st' := [.inl (1)]) rfl ?_
    exact X_iret rfl rfl rfl (Nat.le_refl _) (Nat.le_refl _) (hq1 vne F1 B1 C1 W1 E1 hCD)
  show X M_Pl_drawView _ _ 8 [some (.inr (some (0, 0))), none, none] [.inr (some (15, k))] (cH F B C Wr E r) 0 0
  refine X_run 2 (pc' := 10) (L' := [some (.inr (some (0, 0))), some (.inr (some (15, k))), none]) (st' := [.inr (some (15, k))]) rfl ?_
  refine X_ifnonnull (tgt := 15) (nx := 13) rfl rfl rfl (fun nn n1 => ?_) (fun n1 => ?_)
  rotate_left
  · cases n1
  refine X_run 1 (pc' := 16) (L' := [some (.inr (some (0, 0))), some (.inr (some (15, k))), none]) (st' := [.inr (some (0, 0))]) rfl ?_
  refine XC_get (a := 0) (i := 0) (v := .inr (some (2, 0))) rfl f_Pl_22 ⟨rfl, rfl⟩ (by assumption) rfl rfl ?_
  refine X_run 1 (pc' := 20) (L' := [some (.inr (some (0, 0))), some (.inr (some (15, k))), none]) (st' := [.inr (some (0, 0)), .inr (some (2, 0))]) rfl ?_
  refine XC_get (a := 0) (i := 0) (v := .inl (F 0 0 5)) rfl f_Pl_26 ⟨rfl, rfl⟩ (by assumption) rfl rfl ?_
  refine X_eq (st' := [.inl (vd σ), .inr (some (2, 0))]) rfl (congrArg (fun zz9 => Sum.inl zz9 :: _) (hvd)) rfl ?_
  refine X_run 1 (pc' := 24) (L' := [some (.inr (some (0, 0))), some (.inr (some (15, k))), none]) (st' := [.inr (some (0, 0)), .inl (vd σ), .inr (some (2, 0))]) rfl ?_
  refine XC_get (a := 0) (i := 0) (v := .inl (F 0 0 6)) rfl f_Pl_29 ⟨rfl, rfl⟩ (by assumption) rfl rfl ?_
  refine X_eq (st' := [.inl (vn σ), .inl (vd σ), .inr (some (2, 0))]) rfl (congrArg (fun zz9 => Sum.inl zz9 :: _) (hvn)) rfl ?_
  refine X_callV (vs := [.inl (vd σ), .inl (vn σ)]) (st := []) (mc := 0) (ms := 0) rfl ok_Lg_find v_Pl_101 (cH_obj rfl (by assumption)) rfl rfl (Nat.le_of_ble_eq_true rfl) (Nat.le_of_ble_eq_true rfl) (Nat.le_of_ble_eq_true rfl) (Nat.le_of_ble_eq_true rfl) (Nat.le_of_ble_eq_true rfl) (Nat.le_of_ble_eq_true rfl) rfl ?_
  refine c_Lg_find hL (fun z hz => ?_)
  obtain ⟨d, hd, ed, hcs⟩ := vs_cases hw vne
  have dk : d = k := by
    have := ed.symm.trans ek
    exact li_eq (by omega) (by omega) this
  rw [dk] at hcs
  rcases hz with ⟨k', j, z1, z2, z3, z4, z5, z6⟩ | ⟨z1, z2⟩
  · rw [z6]
    have ekk : k' = k := (li_eq (by omega) (by omega) (z3.symm.trans ek))
    rw [ekk] at z5 z6 ⊢
    show X M_Pl_drawView _ _ 30 [some (.inr (some (0, 0))), some (.inr (some (15, k))), none] [.inr (some (18, 40 * k + j))] (cH F B C Wr E r) 0 0
    have hDx := hL.2.2.2.2.2.2.2.1 _ z5
    have x18 := hDx.2.1
    have x19 := hDx.2.2.1
    have xk := hDx.2.2.2.2.2.2.2.2.2.2.2.1
    refine X_run 2 (pc' := 32) (L' := [some (.inr (some (0, 0))), some (.inr (some (15, k))), some (.inr (some (18, 40 * k + j)))]) (st' := [.inr (some (0, 0))]) rfl ?_
    refine XC_get (a := 0) (i := 0) (v := .inr (some (5, 0))) rfl f_Pl_41 ⟨rfl, rfl⟩ (by assumption) rfl rfl ?_
    refine X_run 1 (pc' := 36) (L' := [some (.inr (some (0, 0))), some (.inr (some (15, k))), some (.inr (some (18, 40 * k + j)))]) (st' := [.inr (some (0, 0)), .inr (some (5, 0))]) rfl ?_
    refine XC_get (a := 0) (i := 0) (v := .inr (some (2, 0))) rfl f_Pl_22 ⟨rfl, rfl⟩ (by assumption) rfl rfl ?_
    refine X_run 1 (pc' := 40) (L' := [some (.inr (some (0, 0))), some (.inr (some (15, k))), some (.inr (some (18, 40 * k + j)))]) (st' := [.inr (some (18, 40 * k + j)), .inr (some (2, 0)), .inr (some (5, 0))]) rfl ?_
    refine X_ifnonnull (tgt := 50) (nx := 43) rfl rfl rfl (fun nn n2 => ?_) (fun n2 => ?_)
    · refine X_run 1 (pc' := 51) (L' := [some (.inr (some (0, 0))), some (.inr (some (15, k))), some (.inr (some (18, 40 * k + j)))]) (st' := [.inr (some (18, 40 * k + j)), .inr (some (2, 0)), .inr (some (5, 0))]) rfl ?_
      refine XC_get (a := 18) (i := 40 * k + j) (v := .inr (some (19, 40 * k + j))) rfl f_Pl_163 ⟨rfl, rfl⟩ (by assumption) rfl rfl ?_
      refine fin 19 (40 * k + j) _ ⟨rfl, rfl, rfl⟩ x19 (fun e he => ?_)
      rcases hcs with ⟨c1, -⟩ | ⟨n, c1, c2, c3, c4⟩
      · have := congrArg Int32.toInt (z4.symm.trans c1)
        rw [nI_toInt (by omega)] at this
        have e1 : (-1 : Int32).toInt = -1 := by decide
        omega
      · have b := hw.1.2.1 k k k
        unfold mny at c1
        have : n = j := li_eq (by omega) (by omega) (c2.symm.trans z4)
        rw [c4, this]
        exact (xk e he).1
    · cases n2
  · rw [z1]
    show X M_Pl_drawView _ _ 30 [some (.inr (some (0, 0))), some (.inr (some (15, k))), none] [.inr none] (cH F B C Wr E r) 0 0
    refine X_run 2 (pc' := 32) (L' := [some (.inr (some (0, 0))), some (.inr (some (15, k))), some (.inr none)]) (st' := [.inr (some (0, 0))]) rfl ?_
    refine XC_get (a := 0) (i := 0) (v := .inr (some (5, 0))) rfl f_Pl_41 ⟨rfl, rfl⟩ (by assumption) rfl rfl ?_
    refine X_run 1 (pc' := 36) (L' := [some (.inr (some (0, 0))), some (.inr (some (15, k))), some (.inr none)]) (st' := [.inr (some (0, 0)), .inr (some (5, 0))]) rfl ?_
    refine XC_get (a := 0) (i := 0) (v := .inr (some (2, 0))) rfl f_Pl_22 ⟨rfl, rfl⟩ (by assumption) rfl rfl ?_
    refine X_run 1 (pc' := 40) (L' := [some (.inr (some (0, 0))), some (.inr (some (15, k))), some (.inr none)]) (st' := [.inr none, .inr (some (2, 0)), .inr (some (5, 0))]) rfl ?_
    refine X_ifnonnull (tgt := 50) (nx := 43) rfl rfl rfl (fun nn n2 => ?_) (fun n2 => ?_)
    · cases n2
    · refine X_run 1 (pc' := 44) (L' := [some (.inr (some (0, 0))), some (.inr (some (15, k))), some (.inr none)]) (st' := [.inr (some (15, k)), .inr (some (2, 0)), .inr (some (5, 0))]) rfl ?_
      refine X_callV (vs := []) (st := [.inr (some (2, 0)), .inr (some (5, 0))]) (mc := 0) (ms := 0) rfl ok_Dv_known v_Pl_59 (cH_obj rfl (by assumption)) rfl rfl (Nat.le_of_ble_eq_true rfl) (Nat.le_of_ble_eq_true rfl) (Nat.le_of_ble_eq_true rfl) (Nat.le_of_ble_eq_true rfl) (Nat.le_of_ble_eq_true rfl) (Nat.le_of_ble_eq_true rfl) rfl ?_
      refine c_Dv_known k4 h15 h16 hn15 ?_
      show X M_Pl_drawView _ _ 47 [some (.inr (some (0, 0))), some (.inr (some (15, k))), some (.inr none)] [.inr (some (17, 4 * k + k)), .inr (some (2, 0)), .inr (some (5, 0))] (cH F B C Wr E r) 0 0
      refine X_run 1 (pc' := 54) (L' := [some (.inr (some (0, 0))), some (.inr (some (15, k))), some (.inr none)]) (st' := [.inr (some (17, 4 * k + k)), .inr (some (2, 0)), .inr (some (5, 0))]) rfl ?_
      refine fin 17 (4 * k + k) _ ⟨rfl, rfl, rfl⟩ h17 (fun e he => ?_)
      rcases hcs with ⟨-, c1⟩ | ⟨n, c1, c2, c3, c4⟩
      · rw [c1]
        exact ((hr k k4).2 e he).1
      · have b := hw.1.2.1 k k k
        unfold mny at c1
        exact absurd c3 (z2 k n (by omega) (by omega) ek c2)
end

