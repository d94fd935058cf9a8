/-! pure: the picture of a set never changes -/
def agr (σ τ : Sg) (see : Nat → Nat) : Prop := wn τ = wn σ ∧ LLF τ see = LLF σ see ∧ ∀ x, inV see x = true → so τ x = so σ x ∧ sp τ x = sp σ x ∧ tg τ x = tg σ x ∧ vl τ x = vl σ x ∧ nu τ x = nu σ x ∧ kn τ x = kn σ x
section
variable {σ τ : Sg} {see : Nat → Nat}
theorem agr.un (h : agr σ τ see) : unF τ see = unF σ see := by
  funext x
  unfold unF
  congr 1
  funext y
  cases hv : inV see y with
  | false => simp
  | true =>
    obtain ⟨a1, a2, a3, -⟩ := h.2.2 y hv
    rw [a1, a3]
theorem agr.th (h : agr σ τ see) : thF τ see = thF σ see := by
  funext x
  unfold thF
  rw [h.un]
  cases hv : inV see x with
  | false => simp
  | true => rw [(h.2.2 x hv).1]
theorem agr.ct (h : agr σ τ see) : ctF τ see = ctF σ see := by
  funext x
  unfold ctF cntF
  rw [h.un, h.th]
  cases hv : inV see x with
  | false => simp
  | true =>
    obtain ⟨a1, a2, a3, -⟩ := h.2.2 x hv
    rw [a1, a3]
theorem ct_in {σ : Sg} {see : Nat → Nat} {x : Nat} (h : inV see x = false) : ctF σ see x = false := by
  unfold ctF cntF
  rw [h]
  simp
theorem agr.of (h : agr σ τ see) (x y : Nat) : ofF τ see (unF τ see) (thF τ see) x y = ofF σ see (unF σ see) (thF σ see) x y := by
  show (ctF τ see x && so τ x != 0 && tg τ x == y) = (ctF σ see x && so σ x != 0 && tg σ x == y)
  rw [h.ct]
  cases hv : inV see x with
  | false =>
    rw [ct_in hv]
    rfl
  | true =>
    obtain ⟨a1, a2, a3, -⟩ := h.2.2 x hv
    rw [a1, a3]
theorem of_in {x y : Nat} (h : inV see x = false) : ofF σ see (unF σ see) (thF σ see) x y = false := by
  show (ctF σ see x && so σ x != 0 && tg σ x == y) = false
  rw [ct_in h]
  rfl
theorem agr.hld (h : agr σ τ see) {x : Nat} (hx : inV see x = true) (y : Nat) : hldF τ see (unF τ see) (thF τ see) x y = hldF σ see (unF σ see) (thF σ see) x y := by
  unfold hldF
  congr 1
  funext z
  rw [h.of]
  cases hv : inV see z with
  | false =>
    rw [of_in hv]
    rfl
  | true =>
    obtain ⟨a1, -, -, -, -, a6⟩ := h.2.2 z hv
    obtain ⟨-, -, -, -, -, b6⟩ := h.2.2 x hx
    unfold chg knw
    rw [a1, a6, b6, h.1]
theorem agr.stk (h : agr σ τ see) : stkF τ see = stkF σ see := by
  funext y
  unfold stkF strF
  congr 1
  funext x
  rw [h.of]
  cases hv : inV see x with
  | false =>
    rw [of_in hv]
    rfl
  | true => rw [(h.2.2 x hv).1, h.hld hv]
theorem agr.nm (h : agr σ τ see) {t : Nat} (ht : inV see t = true) : nmF τ see t = nmF σ see t := by
  unfold nmF namF
  rw [h.2.1, (h.2.2 t ht).2.2.2.2.1]
  refine foldl_cg (fun x hx a => ?_)
  have hv := (List.mem_filter.mp hx).2
  obtain ⟨a1, -, -, a4, -⟩ := h.2.2 x hv
  rw [h.of, a1, a4]
theorem agr.sm (h : agr σ τ see) {t : Nat} (ht : inV see t = true) (w : Nat) : smF τ see t w = smF σ see t w := by
  unfold smF sumF
  rw [(h.2.2 t ht).2.2.2.1]
  refine foldl_cg (fun x hx a => ?_)
  rw [h.of]
  cases hv : inV see x with
  | false =>
    rw [of_in hv]
    rfl
  | true =>
    obtain ⟨a1, -, -, a4, -⟩ := h.2.2 x hv
    rw [a1, a4]
theorem agr.od (h : agr σ τ see) : ODF τ see = ODF σ see := by
  unfold ODF
  rw [h.2.1]
  refine foldl_cg (fun x hx O => ?_)
  have hv := (List.mem_filter.mp hx).2
  obtain ⟨a1, -, a3, a4, -⟩ := h.2.2 x hv
  unfold odS
  have e1 : cntF τ see (unF τ see) (thF τ see) x = cntF σ see (unF σ see) (thF σ see) x := congrFun h.ct x
  rw [e1, h.un, a1, a3, a4]
theorem th_in {t : Nat} (h : thF σ see t = true) : inV see t = true := (ct_t (th_ct.mp h).1).1
theorem agr.ir (h : agr σ τ see) {kp : Nat} (hk : inV see kp = true) (t : Nat) : irF τ see t kp = irF σ see t kp := by
  unfold irF
  rw [h.th, h.stk, h.nm hk]
  cases ht : thF σ see t with
  | false => rfl
  | true => rw [h.nm (th_in ht)]
theorem agr.kpf (h : agr σ τ see) (hw : WF σ) (hs : okS σ see) : KPF τ see = KPF σ see := by
  unfold KPF
  rw [h.od]
  refine List.filter_congr (fun t ht => ?_)
  have ti := th_in (OD_th hw hs ht).1
  unfold kpF
  rw [h.od, h.stk]
  congr 1
  rw [Bool.eq_iff_iff, List.all_eq_true, List.all_eq_true]
  have e : ∀ j, j ∈ ODF σ see → kzF τ see t j = kzF σ see t j := fun j hj => by
    have ji := th_in (OD_th hw hs hj).1
    unfold kzF ahd
    rw [h.stk, h.nm ti, h.nm ji, (h.2.2 t ti).2.1, (h.2.2 j ji).2.1]
  exact ⟨fun z j hj => by rw [← e j hj]; exact z j hj, fun z j hj => by rw [e j hj]; exact z j hj⟩
theorem agr.dz (h : agr σ τ see) {kp : Nat} (hk : inV see kp = true) (x : Nat) : dzF τ see kp x = dzF σ see kp x := by
  unfold dzF
  rw [h.ct]
  cases hv : inV see x with
  | false =>
    rw [ct_in hv]
    rfl
  | true =>
    obtain ⟨a1, -, a3, -⟩ := h.2.2 x hv
    rw [a1, a3, h.ir hk]
theorem dz_in {kp x : Nat} (h : inV see x = false) : dzF σ see kp x = false := by
  unfold dzF
  rw [ct_in h]
  rfl
theorem agr.db (h : agr σ τ see) {kp : Nat} (hk : inV see kp = true) : dbF τ see kp = dbF σ see kp := by
  unfold dbF
  congr 1
  funext x
  rw [h.dz hk]
  cases hv : inV see x with
  | false =>
    rw [dz_in hv]
    rfl
  | true =>
    congr 2
    funext y
    rw [h.dz hk]
    cases hy : inV see y with
    | false =>
      rw [dz_in hy]
      rfl
    | true =>
      unfold knw
      rw [(h.2.2 x hv).2.2.2.2.2, (h.2.2 y hy).2.2.2.2.2]
theorem agr.rs (h : agr σ τ see) (hw : WF σ) (hs : okS σ see) {kp : Nat} (hk : inV see kp = true) (w : Nat) : rsF τ see kp w (ODF τ see) = rsF σ see kp w (ODF σ see) := by
  rw [h.od]
  unfold rsF
  refine foldl_cg (fun t ht a => ?_)
  rw [h.ir hk, h.sm (th_in (OD_th hw hs ht).1)]
theorem agr.rn (h : agr σ τ see) {kp : Nat} (hk : inV see kp = true) : rnF τ see kp (ODF τ see) = rnF σ see kp (ODF σ see) := by
  rw [h.od]
  unfold rnF
  refine foldl_cg (fun t ht a => ?_)
  rw [h.ir hk]
theorem PIC.agr {F : CF} {B : CB} {C : CC} {E : Nat → Nat → Bool} (hp : PIC σ see F B C E) (h : agr σ τ see) (hw : WF σ) (hs : okS σ see) : PIC τ see F B C E := by
  obtain ⟨p1, p2, p3, p4, p5, p6, p7⟩ := hp
  refine ⟨p1, by rw [h.th]; exact p2, p3, fun t ht hh => ?_, by rw [h.kpf hw hs]; exact p5, by rw [h.kpf hw hs]; exact p6, fun j kx hj => ?_⟩
  · rw [h.th] at hh
    have ti := th_in hh
    rw [h.stk, h.nm ti, h.sm ti, h.sm ti, h.od]
    exact p4 t ht hh
  · rw [h.kpf hw hs] at hj
    have ki := th_in (KPF_th hw hs (List.mem_of_getElem? hj)).1
    rw [h.nm ki, h.rs hw hs ki, h.rs hw hs ki, h.rn ki, h.db ki]
    exact p7 j kx hj
/-- frame: the picture's cells alone -/
theorem PIC.fr {F F' : CF} {B B' : CB} {C C' : CC} {E E' : Nat → Nat → Bool} (hp : PIC σ see F B C E) (hw : WF σ) (hs : okS σ see) (hF : ∀ a i k, (a = 20 ∨ a = 23 ∨ (a = 5 ∧ i = 0 ∧ k = 10)) → F' a i k = F a i k) (hB : B' 6 0 = B 6 0) (hC : C' 9 = C 9 ∧ C' 14 = C 14) (hE : ∀ a i, (a = 20 ∨ a = 21 ∨ a = 22 ∨ a = 23 ∨ a = 24) → E' a i = E a i) : PIC σ see F' B' C' E' := by
  obtain ⟨p1, p2, p3, p4, p5, p6, p7⟩ := hp
  refine ⟨by rw [hB]; exact p1, fun t ht => ?_, fun i hi => ?_, fun t ht hh => ?_, by rw [hF 5 0 10 (by omega)]; exact p5, p6, fun j kx hj => ?_⟩
  · rw [hC.1, hE 20 t (by omega), hE 21 t (by omega), hE 22 t (by omega), hF 20 t 0 (by omega), hF 20 t 1 (by omega)]
    exact p2 t ht
  · rw [hC.2, hE 23 i (by omega), hE 24 i (by omega)]
    exact p3 i hi
  · rw [hF 20 t 2 (by omega), hF 20 t 3 (by omega), hF 20 t 4 (by omega), hF 20 t 5 (by omega), hF 20 t 6 (by omega)]
    exact p4 t ht hh
  · rw [hC.2, hE 23 j (by omega), hF 23 j 0 (by omega), hF 23 j 1 (by omega), hF 23 j 2 (by omega), hF 23 j 3 (by omega), hF 23 j 4 (by omega), hF 23 j 5 (by omega)]
    exact p7 j kx hj
end
/-- a sorted line, cut -/
theorem srt_cut {σ : Sg} (a : Nat → Bool) : ∀ (l : List Nat), l.Pairwise (fun x y => ahd σ x y = true) → (∀ y z, ahd σ y z = true → a y = true → a z = true) → l.filter (fun y => !a y) ++ l.filter a = l
  | [], _, _ => rfl
  | y :: l, hp, ha => by
    obtain ⟨p1, p2⟩ := List.pairwise_cons.mp hp
    cases hy : a y with
    | false =>
      rw [List.filter_cons, List.filter_cons, hy]
      simp only [Bool.not_false, if_true, Bool.false_eq_true, if_false]
      rw [List.cons_append, srt_cut a l p2 ha]
    | true =>
      have e1 : l.filter (fun y => !a y) = [] := by
        rw [List.filter_eq_nil_iff]
        intro z hz
        rw [ha y z (p1 z hz) hy]
        decide
      have e2 : l.filter a = l := by
        rw [List.filter_eq_self]
        intro z hz
        exact ha y z (p1 z hz) hy
      rw [List.filter_cons, List.filter_cons, hy]
      simp only [Bool.not_true, if_true, Bool.false_eq_true, if_false]
      rw [e1, e2]
      rfl
/-- before which deeds a new one of device d stands -/
def aft (σ : Sg) (d y : Nat) : Bool := decide (stpF σ d < sp σ y) || (decide (stpF σ d = sp σ y) && decide (d < y / 40))
theorem aft_up {σ : Sg} (d : Nat) : ∀ y z, ahd σ y z = true → aft σ d y = true → aft σ d z = true := by
  intro y z h1 h2
  simp [ahd, aft] at h1 h2 ⊢
  omega
theorem doS_ln (σ : Sg) (d w t : Nat) (v n : Int32) : ln (doS σ d w t v n) = (ln σ).filter (fun y => !aft σ d y) ++ (40 * d + mny σ d) :: (ln σ).filter (aft σ d) := rfl
theorem doS_agr {σ : Sg} (h : WF σ) {d w t : Nat} {v n : Int32} {see : Nat → Nat} (hs : okS σ see) (hm : mny σ d < 40) : agr σ (doS σ d w t v n) see := by
  have hx : inV see (40 * d + mny σ d) = false := by
    unfold inV
    have := hs d
    rw [show (40 * d + mny σ d) % 40 = mny σ d by omega, show (40 * d + mny σ d) / 40 = d by omega]
    exact decide_eq_false (by omega)
  refine ⟨rfl, ?_, fun y hy => ?_⟩
  · unfold LLF
    rw [doS_ln, List.filter_append, List.filter_cons, hx]
    simp only [Bool.false_eq_true, if_false]
    rw [← List.filter_append, srt_cut (aft σ d) _ h.p3 (aft_up d)]
  · have ne : y ≠ 40 * d + mny σ d := fun z => by
      rw [z, hx] at hy
      cases hy
    have e : ∀ {β : Type} (f : Nat → β) (b : β), up1 f (40 * d + mny σ d) b y = f y := fun f b => if_neg ne
    exact ⟨e _ _, e _ _, e _ _, e _ _, e _ _, e _ _⟩
