/-! branches, quotients, answers -/
section
variable {M : MI} {R : Room} {Z : ZT} {pc : Nat} {L : List (Option AV)} {st : List AV} {h : AH} {c sl : Nat}
theorem okv_i {h : AH} (x : Int32) : okv h (.inl x) := fun n hn => by cases hn
theorem okv_0 {h : AH} : okv h (.inr none) := fun n hn => by cases hn
theorem X_eq {L' : List (Option AV)} {st' : List AV} {h' : AH} (e1 : L = L') (e2 : st = st') (e3 : h = h') (kk : X M R Z pc L' st' h' c sl) : X M R Z pc L st h c sl := by
  subst e1; subst e2; subst e3; exact kk
theorem X_widen {c' sl' : Nat} (h1 : c ≤ c') (h2 : sl ≤ sl') (kk : X M R Z pc L st h c' sl') : X M R Z pc L st h c sl := by
  intro p l e s m args below meth cd G base α0 D0 α H locs ls hC hb hD hR hS hL hst
  exact W.widen h1 h2 (kk p l e s m args below meth cd G base α0 D0 α H locs ls hC hb hD hR hS hL hst)
theorem X_if_eq {x : Int32} {off : Int} {tgt nx : Nat} (hd : mi M pc = some (.ifCond .eq off, 3)) (ht : (pc : Int) + off = (tgt : Int)) (hx : pc + 3 = nx) (kt : x = 0 → X M R Z tgt L st h c sl) (kf : ¬ x = 0 → X M R Z nx L st h c sl) : X M R Z pc L (.inl x :: st) h c sl := by
  intro p l e s m args below meth cd G base α0 D0 α H locs ls hC hb hD hR hS hL hst
  subst hx
  exact lv_if_eq hC.1 hC.2.1 (mi_dec hd hC.2.2.2.2.2.2.2.2.2) ht (fun q => kt q p l e s m args below meth cd G base α0 D0 α H locs ls hC hb hD hR hS hL (fun v hv => hst v (List.mem_cons_of_mem _ hv))) (fun q => kf q p l e s m args below meth cd G base α0 D0 α H locs ls hC hb hD hR hS hL (fun v hv => hst v (List.mem_cons_of_mem _ hv)))
theorem X_ic_eq {x y : Int32} {off : Int} {tgt nx : Nat} (hd : mi M pc = some (.if_icmp .eq off, 3)) (ht : (pc : Int) + off = (tgt : Int)) (hx : pc + 3 = nx) (kt : x = y → X M R Z tgt L st h c sl) (kf : ¬ x = y → X M R Z nx L st h c sl) : X M R Z pc L (.inl y :: .inl x :: st) h c sl := by
  intro p l e s m args below meth cd G base α0 D0 α H locs ls hC hb hD hR hS hL hst
  subst hx
  exact lv_icmp_eq hC.1 hC.2.1 (mi_dec hd hC.2.2.2.2.2.2.2.2.2) ht (fun q => kt q p l e s m args below meth cd G base α0 D0 α H locs ls hC hb hD hR hS hL (fun v hv => hst v (List.mem_cons_of_mem _ (List.mem_cons_of_mem _ hv)))) (fun q => kf q p l e s m args below meth cd G base α0 D0 α H locs ls hC hb hD hR hS hL (fun v hv => hst v (List.mem_cons_of_mem _ (List.mem_cons_of_mem _ hv))))
theorem X_if_ne {x : Int32} {off : Int} {tgt nx : Nat} (hd : mi M pc = some (.ifCond .ne off, 3)) (ht : (pc : Int) + off = (tgt : Int)) (hx : pc + 3 = nx) (kt : ¬ x = 0 → X M R Z tgt L st h c sl) (kf : x = 0 → X M R Z nx L st h c sl) : X M R Z pc L (.inl x :: st) h c sl := by
  intro p l e s m args below meth cd G base α0 D0 α H locs ls hC hb hD hR hS hL hst
  subst hx
  exact lv_if_ne hC.1 hC.2.1 (mi_dec hd hC.2.2.2.2.2.2.2.2.2) ht (fun q => kt q p l e s m args below meth cd G base α0 D0 α H locs ls hC hb hD hR hS hL (fun v hv => hst v (List.mem_cons_of_mem _ hv))) (fun q => kf q p l e s m args below meth cd G base α0 D0 α H locs ls hC hb hD hR hS hL (fun v hv => hst v (List.mem_cons_of_mem _ hv)))
theorem X_ic_ne {x y : Int32} {off : Int} {tgt nx : Nat} (hd : mi M pc = some (.if_icmp .ne off, 3)) (ht : (pc : Int) + off = (tgt : Int)) (hx : pc + 3 = nx) (kt : ¬ x = y → X M R Z tgt L st h c sl) (kf : x = y → X M R Z nx L st h c sl) : X M R Z pc L (.inl y :: .inl x :: st) h c sl := by
  intro p l e s m args below meth cd G base α0 D0 α H locs ls hC hb hD hR hS hL hst
  subst hx
  exact lv_icmp_ne hC.1 hC.2.1 (mi_dec hd hC.2.2.2.2.2.2.2.2.2) ht (fun q => kt q p l e s m args below meth cd G base α0 D0 α H locs ls hC hb hD hR hS hL (fun v hv => hst v (List.mem_cons_of_mem _ (List.mem_cons_of_mem _ hv)))) (fun q => kf q p l e s m args below meth cd G base α0 D0 α H locs ls hC hb hD hR hS hL (fun v hv => hst v (List.mem_cons_of_mem _ (List.mem_cons_of_mem _ hv))))
theorem X_if_lt {x : Int32} {off : Int} {tgt nx : Nat} (hd : mi M pc = some (.ifCond .lt off, 3)) (ht : (pc : Int) + off = (tgt : Int)) (hx : pc + 3 = nx) (kt : x < 0 → X M R Z tgt L st h c sl) (kf : ¬ x < 0 → X M R Z nx L st h c sl) : X M R Z pc L (.inl x :: st) h c sl := by
  intro p l e s m args below meth cd G base α0 D0 α H locs ls hC hb hD hR hS hL hst
  subst hx
  exact lv_if_lt hC.1 hC.2.1 (mi_dec hd hC.2.2.2.2.2.2.2.2.2) ht (fun q => kt q p l e s m args below meth cd G base α0 D0 α H locs ls hC hb hD hR hS hL (fun v hv => hst v (List.mem_cons_of_mem _ hv))) (fun q => kf q p l e s m args below meth cd G base α0 D0 α H locs ls hC hb hD hR hS hL (fun v hv => hst v (List.mem_cons_of_mem _ hv)))
theorem X_ic_lt {x y : Int32} {off : Int} {tgt nx : Nat} (hd : mi M pc = some (.if_icmp .lt off, 3)) (ht : (pc : Int) + off = (tgt : Int)) (hx : pc + 3 = nx) (kt : x < y → X M R Z tgt L st h c sl) (kf : ¬ x < y → X M R Z nx L st h c sl) : X M R Z pc L (.inl y :: .inl x :: st) h c sl := by
  intro p l e s m args below meth cd G base α0 D0 α H locs ls hC hb hD hR hS hL hst
  subst hx
  exact lv_icmp_lt hC.1 hC.2.1 (mi_dec hd hC.2.2.2.2.2.2.2.2.2) ht (fun q => kt q p l e s m args below meth cd G base α0 D0 α H locs ls hC hb hD hR hS hL (fun v hv => hst v (List.mem_cons_of_mem _ (List.mem_cons_of_mem _ hv)))) (fun q => kf q p l e s m args below meth cd G base α0 D0 α H locs ls hC hb hD hR hS hL (fun v hv => hst v (List.mem_cons_of_mem _ (List.mem_cons_of_mem _ hv))))
theorem X_if_ge {x : Int32} {off : Int} {tgt nx : Nat} (hd : mi M pc = some (.ifCond .ge off, 3)) (ht : (pc : Int) + off = (tgt : Int)) (hx : pc + 3 = nx) (kt : 0 ≤ x → X M R Z tgt L st h c sl) (kf : ¬ 0 ≤ x → X M R Z nx L st h c sl) : X M R Z pc L (.inl x :: st) h c sl := by
  intro p l e s m args below meth cd G base α0 D0 α H locs ls hC hb hD hR hS hL hst
  subst hx
  exact lv_if_ge hC.1 hC.2.1 (mi_dec hd hC.2.2.2.2.2.2.2.2.2) ht (fun q => kt q p l e s m args below meth cd G base α0 D0 α H locs ls hC hb hD hR hS hL (fun v hv => hst v (List.mem_cons_of_mem _ hv))) (fun q => kf q p l e s m args below meth cd G base α0 D0 α H locs ls hC hb hD hR hS hL (fun v hv => hst v (List.mem_cons_of_mem _ hv)))
theorem X_ic_ge {x y : Int32} {off : Int} {tgt nx : Nat} (hd : mi M pc = some (.if_icmp .ge off, 3)) (ht : (pc : Int) + off = (tgt : Int)) (hx : pc + 3 = nx) (kt : y ≤ x → X M R Z tgt L st h c sl) (kf : ¬ y ≤ x → X M R Z nx L st h c sl) : X M R Z pc L (.inl y :: .inl x :: st) h c sl := by
  intro p l e s m args below meth cd G base α0 D0 α H locs ls hC hb hD hR hS hL hst
  subst hx
  exact lv_icmp_ge hC.1 hC.2.1 (mi_dec hd hC.2.2.2.2.2.2.2.2.2) ht (fun q => kt q p l e s m args below meth cd G base α0 D0 α H locs ls hC hb hD hR hS hL (fun v hv => hst v (List.mem_cons_of_mem _ (List.mem_cons_of_mem _ hv)))) (fun q => kf q p l e s m args below meth cd G base α0 D0 α H locs ls hC hb hD hR hS hL (fun v hv => hst v (List.mem_cons_of_mem _ (List.mem_cons_of_mem _ hv))))
theorem X_if_gt {x : Int32} {off : Int} {tgt nx : Nat} (hd : mi M pc = some (.ifCond .gt off, 3)) (ht : (pc : Int) + off = (tgt : Int)) (hx : pc + 3 = nx) (kt : 0 < x → X M R Z tgt L st h c sl) (kf : ¬ 0 < x → X M R Z nx L st h c sl) : X M R Z pc L (.inl x :: st) h c sl := by
  intro p l e s m args below meth cd G base α0 D0 α H locs ls hC hb hD hR hS hL hst
  subst hx
  exact lv_if_gt hC.1 hC.2.1 (mi_dec hd hC.2.2.2.2.2.2.2.2.2) ht (fun q => kt q p l e s m args below meth cd G base α0 D0 α H locs ls hC hb hD hR hS hL (fun v hv => hst v (List.mem_cons_of_mem _ hv))) (fun q => kf q p l e s m args below meth cd G base α0 D0 α H locs ls hC hb hD hR hS hL (fun v hv => hst v (List.mem_cons_of_mem _ hv)))
theorem X_ic_gt {x y : Int32} {off : Int} {tgt nx : Nat} (hd : mi M pc = some (.if_icmp .gt off, 3)) (ht : (pc : Int) + off = (tgt : Int)) (hx : pc + 3 = nx) (kt : y < x → X M R Z tgt L st h c sl) (kf : ¬ y < x → X M R Z nx L st h c sl) : X M R Z pc L (.inl y :: .inl x :: st) h c sl := by
  intro p l e s m args below meth cd G base α0 D0 α H locs ls hC hb hD hR hS hL hst
  subst hx
  exact lv_icmp_gt hC.1 hC.2.1 (mi_dec hd hC.2.2.2.2.2.2.2.2.2) ht (fun q => kt q p l e s m args below meth cd G base α0 D0 α H locs ls hC hb hD hR hS hL (fun v hv => hst v (List.mem_cons_of_mem _ (List.mem_cons_of_mem _ hv)))) (fun q => kf q p l e s m args below meth cd G base α0 D0 α H locs ls hC hb hD hR hS hL (fun v hv => hst v (List.mem_cons_of_mem _ (List.mem_cons_of_mem _ hv))))
theorem X_if_le {x : Int32} {off : Int} {tgt nx : Nat} (hd : mi M pc = some (.ifCond .le off, 3)) (ht : (pc : Int) + off = (tgt : Int)) (hx : pc + 3 = nx) (kt : x ≤ 0 → X M R Z tgt L st h c sl) (kf : ¬ x ≤ 0 → X M R Z nx L st h c sl) : X M R Z pc L (.inl x :: st) h c sl := by
  intro p l e s m args below meth cd G base α0 D0 α H locs ls hC hb hD hR hS hL hst
  subst hx
  exact lv_if_le hC.1 hC.2.1 (mi_dec hd hC.2.2.2.2.2.2.2.2.2) ht (fun q => kt q p l e s m args below meth cd G base α0 D0 α H locs ls hC hb hD hR hS hL (fun v hv => hst v (List.mem_cons_of_mem _ hv))) (fun q => kf q p l e s m args below meth cd G base α0 D0 α H locs ls hC hb hD hR hS hL (fun v hv => hst v (List.mem_cons_of_mem _ hv)))
theorem X_ic_le {x y : Int32} {off : Int} {tgt nx : Nat} (hd : mi M pc = some (.if_icmp .le off, 3)) (ht : (pc : Int) + off = (tgt : Int)) (hx : pc + 3 = nx) (kt : x ≤ y → X M R Z tgt L st h c sl) (kf : ¬ x ≤ y → X M R Z nx L st h c sl) : X M R Z pc L (.inl y :: .inl x :: st) h c sl := by
  intro p l e s m args below meth cd G base α0 D0 α H locs ls hC hb hD hR hS hL hst
  subst hx
  exact lv_icmp_le hC.1 hC.2.1 (mi_dec hd hC.2.2.2.2.2.2.2.2.2) ht (fun q => kt q p l e s m args below meth cd G base α0 D0 α H locs ls hC hb hD hR hS hL (fun v hv => hst v (List.mem_cons_of_mem _ (List.mem_cons_of_mem _ hv)))) (fun q => kf q p l e s m args below meth cd G base α0 D0 α H locs ls hC hb hD hR hS hL (fun v hv => hst v (List.mem_cons_of_mem _ (List.mem_cons_of_mem _ hv))))
theorem X_ifnull {r : Option Nd} {off : Int} {tgt nx : Nat} (hd : mi M pc = some (.ifnull off, 3)) (ht : (pc : Int) + off = (tgt : Int)) (hx : pc + 3 = nx) (kt : r = none → X M R Z tgt L st h c sl) (kf : ∀ n, r = some n → X M R Z nx L st h c sl) : X M R Z pc L (.inr r :: st) h c sl := by
  intro p l e s m args below meth cd G base α0 D0 α H locs ls hC hb hD hR hS hL hst
  subst hx
  cases r with
  | none => exact lv_ifnullN hC.1 hC.2.1 (mi_dec hd hC.2.2.2.2.2.2.2.2.2) ht (kt rfl p l e s m args below meth cd G base α0 D0 α H locs ls hC hb hD hR hS hL (fun v hv => hst v (List.mem_cons_of_mem _ hv)))
  | some n => exact lv_ifnull hC.1 hC.2.1 (mi_dec hd hC.2.2.2.2.2.2.2.2.2) (kf n rfl p l e s m args below meth cd G base α0 D0 α H locs ls hC hb hD hR hS hL (fun v hv => hst v (List.mem_cons_of_mem _ hv)))
theorem X_ifnonnull {r : Option Nd} {off : Int} {tgt nx : Nat} (hd : mi M pc = some (.ifnonnull off, 3)) (ht : (pc : Int) + off = (tgt : Int)) (hx : pc + 3 = nx) (kt : ∀ n, r = some n → X M R Z tgt L st h c sl) (kf : r = none → X M R Z nx L st h c sl) : X M R Z pc L (.inr r :: st) h c sl := by
  intro p l e s m args below meth cd G base α0 D0 α H locs ls hC hb hD hR hS hL hst
  subst hx
  cases r with
  | none => exact lv_ifnonnullN hC.1 hC.2.1 (mi_dec hd hC.2.2.2.2.2.2.2.2.2) (kf rfl p l e s m args below meth cd G base α0 D0 α H locs ls hC hb hD hR hS hL (fun v hv => hst v (List.mem_cons_of_mem _ hv)))
  | some n => exact lv_ifnonnull hC.1 hC.2.1 (mi_dec hd hC.2.2.2.2.2.2.2.2.2) ht (kt n rfl p l e s m args below meth cd G base α0 D0 α H locs ls hC hb hD hR hS hL (fun v hv => hst v (List.mem_cons_of_mem _ hv)))
theorem X_acne {r q : Option Nd} {off : Int} {tgt nx : Nat} (hd : mi M pc = some (.if_acmp .ne off, 3)) (ht : (pc : Int) + off = (tgt : Int)) (hx : pc + 3 = nx) (kt : ¬ r = q → X M R Z tgt L st h c sl) (kf : r = q → X M R Z nx L st h c sl) : X M R Z pc L (.inr q :: .inr r :: st) h c sl := by
  intro p l e_1 s m args below meth cd G base α0 D0 α H locs ls hC hb hD hR hS hL hst
  subst hx
  have hq := hst _ List.mem_cons_self
  have hr := hst _ (List.mem_cons_of_mem _ List.mem_cons_self)
  have hst' : ∀ v ∈ st, okv h v := fun v hv => hst v (List.mem_cons_of_mem _ (List.mem_cons_of_mem _ hv))
  have e : ∀ x : Option Nd, cv α (.inr x) = va_rf (x.map α) := fun x => by cases x <;> rfl
  have key : r.map α = q.map α ↔ r = q := by
    constructor
    · intro hh
      cases r with
      | none => cases q with
        | none => rfl
        | some b => simp at hh
      | some a => cases q with
        | none => simp at hh
        | some b =>
          simp at hh
          rw [hR.2 a b (hr a rfl) (hq b rfl) hh]
    · intro hh; rw [hh]
  rw [List.map_cons, List.map_cons, e, e]
  exact lv_acmp_ne hC.1 hC.2.1 (mi_dec hd hC.2.2.2.2.2.2.2.2.2) ht (fun z => kt (fun y => z (key.mpr y)) p l e_1 s m args below meth cd G base α0 D0 α H locs ls hC hb hD hR hS hL hst') (fun z => kf (key.mp z) p l e_1 s m args below meth cd G base α0 D0 α H locs ls hC hb hD hR hS hL hst')
theorem X_div {x y : Int32} {nx : Nat} (hd : mi M pc = some (.idiv, 1)) (hy : ¬ y = 0) (hx : pc + 1 = nx) (kk : X M R Z nx L (.inl (x / y) :: st) h c sl) : X M R Z pc L (.inl y :: .inl x :: st) h c sl := by
  intro p l e s m args below meth cd G base α0 D0 α H locs ls hC hb hD hR hS hL hst
  subst hx
  exact lv_idiv hC.1 hC.2.1 (mi_dec hd hC.2.2.2.2.2.2.2.2.2) hy (kk p l e s m args below meth cd G base α0 D0 α H locs ls hC hb hD hR hS hL (fun v hv => by
    rcases List.mem_cons.mp hv with rfl | hv
    · exact okv_i _
    · exact hst v (List.mem_cons_of_mem _ (List.mem_cons_of_mem _ hv))))
theorem X_rem {x y : Int32} {nx : Nat} (hd : mi M pc = some (.irem, 1)) (hy : ¬ y = 0) (hx : pc + 1 = nx) (kk : X M R Z nx L (.inl (x - x / y * y) :: st) h c sl) : X M R Z pc L (.inl y :: .inl x :: st) h c sl := by
  intro p l e s m args below meth cd G base α0 D0 α H locs ls hC hb hD hR hS hL hst
  subst hx
  exact lv_irem hC.1 hC.2.1 (mi_dec hd hC.2.2.2.2.2.2.2.2.2) hy (kk p l e s m args below meth cd G base α0 D0 α H locs ls hC hb hD hR hS hL (fun v hv => by
    rcases List.mem_cons.mp hv with rfl | hv
    · exact okv_i _
    · exact hst v (List.mem_cons_of_mem _ (List.mem_cons_of_mem _ hv))))
/-- a switch over 0 .. : where it goes, told as a function of the number -/
theorem X_sw {x : Int32} {dflt lo hi : Int} {offs : Array Int} {n : Nat} (hd : mi M pc = some (.tableswitch dflt lo hi offs, n)) (tout : Nat) (hto : (pc : Int) + dflt = (tout : Int)) (tin : Nat → Nat)
    (hti : ∀ k : Nat, (k : Int) ≤ hi - lo → ∃ off, offs[k]? = some off ∧ (pc : Int) + off = (tin k : Int))
    (ko : (x.toInt < lo ∨ hi < x.toInt) → X M R Z tout L st h c sl) (ki : ∀ k : Nat, (k : Int) ≤ hi - lo → x.toInt = lo + k → X M R Z (tin k) L st h c sl) : X M R Z pc L (.inl x :: st) h c sl := by
  intro p l e s m args below meth cd G base α0 D0 α H locs ls hC hb hD hR hS hL hst
  have hst' : ∀ v ∈ st, okv h v := fun v hv => hst v (List.mem_cons_of_mem _ hv)
  by_cases q : x.toInt < lo ∨ hi < x.toInt
  · exact lv_tableOut hC.1 hC.2.1 (mi_dec hd hC.2.2.2.2.2.2.2.2.2) q hto (ko q p l e s m args below meth cd G base α0 D0 α H locs ls hC hb hD hR hS hL hst')
  · have q1 : ¬ x.toInt < lo := fun z => q (Or.inl z)
    have q2 : ¬ hi < x.toInt := fun z => q (Or.inr z)
    obtain ⟨off, h1, h2⟩ := hti (x.toInt - lo).toNat (by omega)
    exact lv_tableIn hC.1 hC.2.1 (mi_dec hd hC.2.2.2.2.2.2.2.2.2) q1 q2 h1 h2 (ki _ (by omega) (by omega) p l e s m args below meth cd G base α0 D0 α H locs ls hC hb hD hR hS hL hst')
/-- answers -/
theorem X_iret {Q : Option AV → AH → Prop} {mc ms : Nat} {x : Int32} {ty : FieldType} (hd : mi M pc = some (.ireturn, 1)) (hr : M.2.2.2.1 = some ty) (hn : narrow ty (.int x) = .int x) (h1 : c ≤ mc) (h2 : sl ≤ ms) (hq : Q (some (.inl x)) h) : X M R (Zm Q mc ms) pc L [.inl x] h c sl := by
  intro p l e s m args below meth cd G base α0 D0 α H locs ls hC hb hD hR hS hL hst
  have hlocks := hC.2.2.2.2.2.2.1
  refine W.widen h1 h2 ?_
  exact W.zret hC.1 hC.2.1 (hC.2.2.1.trans hr) hn (fun t ht hW => ⟨α, h, some (.inl x), rfl, hD, by rw [ht]; exact hR.moved hW.alike, fun v hv => by cases hv; exact okv_i x, hq, hS.F ht⟩) hS.2.2 (mi_dec hd hC.2.2.2.2.2.2.2.2.2)
theorem X_vret {Q : Option AV → AH → Prop} {mc ms : Nat} (hd : mi M pc = some (.return_, 1)) (hr : M.2.2.2.1 = none) (h1 : c ≤ mc) (h2 : sl ≤ ms) (hq : Q none h) : X M R (Zm Q mc ms) pc L [] h c sl := by
  intro p l e s m args below meth cd G base α0 D0 α H locs ls hC hb hD hR hS hL hst
  have hlocks := hC.2.2.2.2.2.2.1
  refine W.widen h1 h2 ?_
  exact W.vret hC.1 hC.2.1 (hC.2.2.1.trans hr) (fun t ht hW => ⟨α, h, none, rfl, hD, by rw [ht]; exact hR.moved hW.alike, (fun v hv => nomatch hv), hq, hS.F ht⟩) hS.2.2 (mi_dec hd hC.2.2.2.2.2.2.2.2.2)
theorem X_aret {Q : Option AV → AH → Prop} {mc ms : Nat} {r : Option Nd} {ty : FieldType} (hd : mi M pc = some (.areturn, 1)) (hr : M.2.2.2.1 = some ty) (hty : (∃ n, ty = .object n) ∨ ∃ t, ty = .array t) (h1 : c ≤ mc) (h2 : sl ≤ ms) (hq : Q (some (.inr r)) h) : X M R (Zm Q mc ms) pc L [.inr r] h c sl := by
  intro p l e s m args below meth cd G base α0 D0 α H locs ls hC hb hD hR hS hL hst
  have hlocks := hC.2.2.2.2.2.2.1
  refine W.widen h1 h2 ?_
  refine W.aret hC.1 hC.2.1 (hC.2.2.1.trans hr) hty ?_ (fun t ht hW => ⟨α, h, some (.inr r), rfl, hD, by rw [ht]; exact hR.moved hW.alike, fun v hv => by cases hv; exact hst _ List.mem_cons_self, hq, hS.F ht⟩) hS.2.2 (mi_dec hd hC.2.2.2.2.2.2.2.2.2)
  cases r with
  | none => exact Or.inl rfl
  | some n => exact Or.inr ⟨_, rfl⟩
end
