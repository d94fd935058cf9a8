/-! making objects: the one that is being made stands outside -/
theorem hset_sw (h : AH) {n m : Nd} (e f : AE) (hn : m ≠ n) : hset (hset h n e) m f = hset (hset h m f) n e := by
  funext k
  unfold hset
  by_cases q : k = n
  · rw [if_pos q, if_pos q, if_neg (fun z => hn (z.symm.trans q))]
  · rw [if_neg q, if_neg q]
section
variable {M : MI} {R : Room} {Z : ZT} {pc : Nat} {L : List (Option AV)} {st : List AV} {h : AH} {c sl : Nat}
theorem XN_put {idx ci k nx : Nat} {n : Nd} {V : Nat → AV} {v : AV} {q : vw_C} {t : Nat → FieldType} (hd : mi M pc = some (.putfield idx, 3)) (hf : mj_F M.1.cls idx ci k) (hc : mj_cl[ci]? = some q) (ht : mj_ft[ci]? = some t) (hfin : (q.2.1 k).2.2.2 = false ∨ ((q.2.1 k).2.2.2 = true ∧ M.1.name = "<init>" ∧ (q.2.1 k).1 = M.1.cls)) (hv : ∀ α, narrow (t k) (cv α v) = cv α v ∧ fits (t k) (cv α v) = true) (hx : pc + 3 = nx)
    (kk : X M R Z nx L st (hset h n (.inr (.inr (ci, va_up V k v)))) c sl) : X M R Z pc L (v :: .inr (some n) :: st) (hset h n (.inr (.inr (ci, V)))) c sl :=
  X_put hd hf hc ht hfin (hset_eq _ _ _) hv hx (by rw [hset_hset]; exact kk)
theorem XN_newI {atype : ArrayType} {t N nx : Nat} {i : Int32} {n m : Nd} {o : AE} (hd : mi M pc = some (.newarray atype, 2)) (ha : (atype = .int ∧ t = 0) ∨ (atype = .boolean ∧ t = 1)) (hi : ¬ i < 0) (hN : i.toNatClampNeg = N) (hM : N ≤ 1000) (hn : h m = none) (hne : m ≠ n) (h1 : c + 1 ≤ R.cells) (h2 : sl + N ≤ R.slots) (hx : pc + 2 = nx)
    (kk : X M R Z nx L (.inr (some m) :: st) (hset (hset h m (.inl (t, N, fun _ => 0))) n o) (c + 1) (sl + N)) : X M R Z pc L (.inl i :: st) (hset h n o) c sl :=
  X_newa (n := m) hd ha hi hN hM (by rw [hset_ne _ _ hne]; exact hn) h1 h2 hx (by rw [hset_sw _ _ _ hne]; exact kk)
theorem XN_newQ {idx t N nx : Nat} {C : String} {i : Int32} {n m : Nd} {o : AE} (hd : mi M pc = some (.anewarray idx, 3)) (ht : mj_ar[t]? = some (.object C)) (hl : Cond.classLink M.1.cls idx C ∈ lw_tbl) (ho : Cond.arrayOver (.object C) ∈ lw_tbl) (hi : ¬ i < 0) (hN : i.toNatClampNeg = N) (hM : N ≤ 1000) (hn : h m = none) (hne : m ≠ n) (h1 : c + 1 ≤ R.cells) (h2 : sl + N ≤ R.slots) (hx : pc + 3 = nx)
    (kk : X M R Z nx L (.inr (some m) :: st) (hset (hset h m (.inr (.inl (t, N, fun _ => none)))) n o) (c + 1) (sl + N)) : X M R Z pc L (.inl i :: st) (hset h n o) c sl :=
  X_newq (n := m) hd ht hl ho hi hN hM (by rw [hset_ne _ _ hne]; exact hn) h1 h2 hx (by rw [hset_sw _ _ _ hne]; exact kk)
end
section
variable {F : CF} {B : CB} {C : CC} {Wr : Nat → Option Nd} {E : Nat → Nat → Bool} {r : AH} {Q : Option AV → AH → Prop} {h : AH}
theorem e2_eq (E : Nat → Nat → Bool) (a i : Nat) : e2 E a i a i = true := by simp [e2]
theorem e2_ne {E : Nat → Nat → Bool} {a i a' i' : Nat} (h : ¬ (a' = a ∧ i' = i)) : e2 E a i a' i' = E a' i' := by
  unfold e2
  have : (a' == a && i' == i) = false := by
    by_cases q : a' = a
    · have q2 : i' ≠ i := fun z => h ⟨q, z⟩
      simp [q2]
    · simp [q]
  rw [this]
  rfl
theorem e2_mono {E : Nat → Nat → Bool} {a i a' i' : Nat} (h : E a' i' = true) : e2 E a i a' i' = true := by simp [e2, h]
theorem cH_alI {a i : Nat} (hk : rKd a = 1) (f : Nat → Int32) : hset (cH F B C Wr E r) (a, i) (.inl (rTg a, rLn a, f)) = cH F (uR B a i f) C Wr (e2 E a i) r := by
  funext n
  obtain ⟨a', i'⟩ := n
  by_cases q : (a', i') = (a, i)
  · cases q
    rw [hset_eq, cH_int hk (e2_eq E a i), uR_eq]
  · have q' : ¬ (a' = a ∧ i' = i) := by
      rintro ⟨z1, z2⟩
      exact q (by rw [z1, z2])
    rw [hset_ne _ _ q]
    unfold cH
    by_cases k3 : rKd a' = 3
    · simp [k3]
    · have e : cE F (uR B a i f) C Wr a' i' = cE F B C Wr a' i' := by
        unfold cE
        rw [uR_ne q']
      simp only [k3, if_false, e, e2_ne q']
theorem cH_alQ {a i : Nat} (hk : rKd a = 2) {g : Nat → Option Nd} (hg : cR C a i = g) : hset (cH F B C Wr E r) (a, i) (.inr (.inl (rTg a, rLn a, g))) = cH F B C Wr (e2 E a i) r := by
  funext n
  obtain ⟨a', i'⟩ := n
  by_cases q : (a', i') = (a, i)
  · cases q
    rw [hset_eq, cH_ref hk (e2_eq E a i), hg]
  · have q' : ¬ (a' = a ∧ i' = i) := by
      rintro ⟨z1, z2⟩
      exact q (by rw [z1, z2])
    rw [hset_ne _ _ q]
    unfold cH
    by_cases k3 : rKd a' = 3
    · simp [k3]
    · simp only [k3, if_false, e2_ne q']
def cVf (f : Nat → Int32) (w : Option Nd) (a i : Nat) : Nat → AV := fun k => if rRow a k then .inr w else match rRf a i k with
  | some n => .inr (some n)
  | none => .inl (f k)
theorem cV_uR (f : Nat → Int32) (W : Nat → Option Nd) (a i : Nat) : cV (uR F a i f) W a i = cVf f (W i) a i := by
  funext k
  unfold cV cVf
  rw [uR_eq]
  rfl
theorem cV_oth {f : Nat → Int32} {W : Nat → Option Nd} {a i a' i' : Nat} (hq : ¬ (a' = a ∧ i' = i)) : cV (uR F a i f) W a' i' = cV F W a' i' := by
  funext k
  unfold cV
  rw [uR_ne hq]
theorem cH_mk {a i : Nat} (hk : rKd a = 0) (h20 : a ≠ 20) (f : Nat → Int32) {V : Nat → AV} (hV : V = cVf f none a i) : hset (cH F B C Wr E r) (a, i) (.inr (.inr (rCi a, V))) = cH (uR F a i f) B C Wr (e2 E a i) r := by
  funext n
  obtain ⟨a', i'⟩ := n
  by_cases q : (a', i') = (a, i)
  · cases q
    rw [hset_eq, cH_obj hk (e2_eq E a i), cV_uR, hV]
    have : cVf f none a i = cVf f (Wr i) a i := by
      funext k
      unfold cVf
      rw [show rRow a k = false by simp [rRow, h20]]
      rfl
    rw [this]
  · have q' : ¬ (a' = a ∧ i' = i) := by
      rintro ⟨z1, z2⟩
      exact q (by rw [z1, z2])
    rw [hset_ne _ _ q]
    unfold cH
    by_cases k3 : rKd a' = 3
    · simp [k3]
    · have e : cE (uR F a i f) B C Wr a' i' = cE F B C Wr a' i' := by
        unfold cE
        rw [cV_oth q']
      simp only [k3, if_false, e, e2_ne q']
theorem cH_mkT {i : Nat} (f : Nat → Int32) {V : Nat → AV} (hV : V = cVf f none 20 i) : hset (cH F B C Wr E r) (20, i) (.inr (.inr (5, V))) = cH (uR F 20 i f) B C (up1 Wr i none) (e2 E 20 i) r := by
  funext n
  obtain ⟨a', i'⟩ := n
  by_cases q : (a', i') = (20, i)
  · cases q
    rw [hset_eq, cH_obj rfl (e2_eq E 20 i), cV_uR, hV, show up1 Wr i none i = none by simp [up1]]
    rfl
  · have q' : ¬ (a' = 20 ∧ i' = i) := by
      rintro ⟨z1, z2⟩
      exact q (by rw [z1, z2])
    rw [hset_ne _ _ q]
    unfold cH
    by_cases k3 : rKd a' = 3
    · simp [k3]
    · have e : cE (uR F 20 i f) B C (up1 Wr i none) a' i' = cE F B C Wr a' i' := by
        unfold cE
        rw [cV_oth q']
        have e2 : cV F (up1 Wr i none) a' i' = cV F Wr a' i' := by
          funext k
          unfold cV
          split
          · rename_i hr
            have ha : a' = 20 := by
              simp [rRow] at hr
              exact hr.1
            have hi : i' ≠ i := fun z => q' ⟨ha, z⟩
            simp [up1, hi]
          · rfl
        rw [e2]
      simp only [k3, if_false, e, e2_ne q']
theorem rRf_ge (a i k : Nat) (hk : 11 ≤ k) : rRf a i k = none := by
  unfold rRf
  split <;> first | omega | rfl
theorem rRow_ge (a k : Nat) (hk : 11 ≤ k) : rRow a k = false := by
  unfold rRow
  have : k ≠ 7 := by omega
  simp [this]
theorem cVf_ge (f : Nat → Int32) (w : Option Nd) (a i k : Nat) (hk : 11 ≤ k) : cVf f w a i k = .inl (f k) := by
  unfold cVf
  rw [rRf_ge a i k hk, rRow_ge a k hk]
  rfl
theorem k11 (P : Nat → Prop) (h0 : P 0) (h1 : P 1) (h2 : P 2) (h3 : P 3) (h4 : P 4) (h5 : P 5) (h6 : P 6) (h7 : P 7) (h8 : P 8) (h9 : P 9) (h10 : P 10) (h11 : ∀ k, 11 ≤ k → P k) : ∀ k, P k := by
  intro k
  rcases (show k = 0 ∨ k = 1 ∨ k = 2 ∨ k = 3 ∨ k = 4 ∨ k = 5 ∨ k = 6 ∨ k = 7 ∨ k = 8 ∨ k = 9 ∨ k = 10 ∨ 11 ≤ k by omega) with rfl | rfl | rfl | rfl | rfl | rfl | rfl | rfl | rfl | rfl | rfl | hk
  all_goals first | assumption | exact h11 k hk
theorem t_De_ge (k : Nat) (hk : 11 ≤ k) : t_De k = .int := by
  unfold t_De
  split <;> first | omega | rfl
theorem t_Dv_ge (k : Nat) (hk : 11 ≤ k) : t_Dv k = .int := by
  unfold t_Dv
  split <;> first | omega | rfl
theorem t_Rw_ge (k : Nat) (hk : 11 ≤ k) : t_Rw k = .int := by
  unfold t_Rw
  split <;> first | omega | rfl
theorem t_Th_ge (k : Nat) (hk : 11 ≤ k) : t_Th k = .int := by
  unfold t_Th
  split <;> first | omega | rfl
theorem t_Lg_ge (k : Nat) (hk : 11 ≤ k) : t_Lg k = .int := by
  unfold t_Lg
  split <;> first | omega | rfl
theorem t_Pi_ge (k : Nat) (hk : 11 ≤ k) : t_Pi k = .int := by
  unfold t_Pi
  split <;> first | omega | rfl
theorem t_Pl_ge (k : Nat) (hk : 11 ≤ k) : t_Pl k = .int := by
  unfold t_Pl
  split <;> first | omega | rfl
theorem vu_ne {β : Type} {f : Nat → β} {j : Nat} {x : β} {k : Nat} (h : k ≠ j) : va_up f j x k = f k := by simp [va_up, h]
theorem c_Th_init {t : Nat} {v : Int32} (h21 : E 21 t = false) (h22 : E 22 t = false) (hq : ∀ f : Nat → Int32, f 0 = v → f 1 = 0 → Q none (cH (uR F 20 t f) (uR (uR B 21 t (fun _ => 0)) 22 t (fun _ => 0)) C (up1 Wr t none) (e2 (e2 (e2 E 21 t) 22 t) 20 t) r)) : X M_Th_init (rmo M_Th_init 2 8) (Zm Q 2 8) 0 (ini M_Th_init [.inr (some (20, t)), .inl v]) [] (hset (cH F B C Wr E r) (20, t) (.inr (.inr (5, fun k => df (t_Th k))))) 0 0 := by
  show X M_Th_init _ _ 0 [some (.inr (some (20, t))), some (.inl (v))] [] (hset (cH F B C Wr E r) (20, t) (.inr (.inr (5, (fun k => df (t_Th k)))))) 0 0
  refine X_run 1 (pc' := 1) (L' := [some (.inr (some (20, t))), some (.inl (v))]) (st' := [.inr (some (20, t))]) rfl ?_
  refine X_obj rfl o_Th_3 (Nat.le_of_ble_eq_true rfl) (Nat.le_of_ble_eq_true rfl) (Nat.le_of_ble_eq_true rfl) rfl ?_
  refine X_run 2 (pc' := 6) (L' := [some (.inr (some (20, t))), some (.inl (v))]) (st' := [.inl (0), .inr (some (20, t))]) rfl ?_
  refine XN_put (k := 1) (v := .inl (0)) rfl f_Th_9 rfl rfl (Or.inl rfl) (fun _ => ⟨rfl, rfl⟩) rfl ?_
  refine X_run 2 (pc' := 11) (L' := [some (.inr (some (20, t))), some (.inl (v))]) (st' := [.inl (0), .inr (some (20, t))]) rfl ?_
  refine XN_put (k := 2) (v := .inl (0)) rfl f_Th_15 rfl rfl (Or.inl rfl) (fun _ => ⟨rfl, rfl⟩) rfl ?_
  refine X_run 2 (pc' := 16) (L' := [some (.inr (some (20, t))), some (.inl (v))]) (st' := [.inl (-1), .inr (some (20, t))]) rfl ?_
  refine XN_put (k := 3) (v := .inl (-1)) rfl f_Th_18 rfl rfl (Or.inl rfl) (fun _ => ⟨rfl, rfl⟩) rfl ?_
  refine X_run 2 (pc' := 21) (L' := [some (.inr (some (20, t))), some (.inl (v))]) (st' := [.inl (0), .inr (some (20, t))]) rfl ?_
  refine XN_put (k := 4) (v := .inl (0)) rfl f_Th_22 rfl rfl (Or.inl rfl) (fun _ => ⟨rfl, rfl⟩) rfl ?_
  refine X_run 2 (pc' := 26) (L' := [some (.inr (some (20, t))), some (.inl (v))]) (st' := [.inl (0), .inr (some (20, t))]) rfl ?_
  refine XN_put (k := 5) (v := .inl (0)) rfl f_Th_25 rfl rfl (Or.inl rfl) (fun _ => ⟨rfl, rfl⟩) rfl ?_
  refine X_run 2 (pc' := 31) (L' := [some (.inr (some (20, t))), some (.inl (v))]) (st' := [.inl (-1), .inr (some (20, t))]) rfl ?_
  refine XN_put (k := 6) (v := .inl (-1)) rfl f_Th_28 rfl rfl (Or.inl rfl) (fun _ => ⟨rfl, rfl⟩) rfl ?_
  refine X_run 2 (pc' := 36) (L' := [some (.inr (some (20, t))), some (.inl (v))]) (st' := [.inr none, .inr (some (20, t))]) rfl ?_
  refine XN_put (k := 7) (v := .inr none) rfl f_Th_31 rfl rfl (Or.inl rfl) (fun _ => ⟨rfl, rfl⟩) rfl ?_
  refine X_run 2 (pc' := 41) (L' := [some (.inr (some (20, t))), some (.inl (v))]) (st' := [.inl (4), .inr (some (20, t))]) rfl ?_
  refine XN_newI (m := (21, t)) (N := 4) (t := 0) rfl (Or.inl ⟨rfl, rfl⟩) (by decide) (by decide) (by decide) (cH_none (by decide) h21) (by simp) (Nat.le_of_ble_eq_true rfl) (Nat.le_of_ble_eq_true rfl) rfl ?_
  refine XN_put (k := 8) (v := .inr (some (21, t))) rfl f_Th_35 rfl rfl (Or.inr ⟨rfl, rfl, rfl⟩) (fun _ => ⟨rfl, rfl⟩) rfl ?_
  refine X_run 2 (pc' := 48) (L' := [some (.inr (some (20, t))), some (.inl (v))]) (st' := [.inl (4), .inr (some (20, t))]) rfl ?_
  refine XN_newI (m := (22, t)) (N := 4) (t := 0) rfl (Or.inl ⟨rfl, rfl⟩) (by decide) (by decide) (by decide) (by rw [hset_ne _ _ (by simp)]; exact cH_none (by decide) h22) (by simp) (Nat.le_of_ble_eq_true rfl) (Nat.le_of_ble_eq_true rfl) rfl ?_
  refine XN_put (k := 9) (v := .inr (some (22, t))) rfl f_Th_39 rfl rfl (Or.inr ⟨rfl, rfl, rfl⟩) (fun _ => ⟨rfl, rfl⟩) rfl ?_
  refine X_run 2 (pc' := 55) (L' := [some (.inr (some (20, t))), some (.inl (v))]) (st' := [.inl (v), .inr (some (20, t))]) rfl ?_
  refine XN_put (k := 0) (v := .inl (v)) rfl f_Th_42 rfl rfl (Or.inr ⟨rfl, rfl, rfl⟩) (fun _ => ⟨rfl, rfl⟩) rfl ?_
  refine X_vret rfl rfl (Nat.le_refl _) (Nat.le_refl _) ?_
  have e1 := cH_alI (F := F) (B := B) (C := C) (Wr := Wr) (E := E) (r := r) (a := 21) (i := t) rfl (fun _ => 0)
  have e2' := cH_alI (F := F) (B := uR B 21 t (fun _ => 0)) (C := C) (Wr := Wr) (E := e2 E 21 t) (r := r) (a := 22) (i := t) rfl (fun _ => 0)
  rw [show hset (cH F B C Wr E r) (21, t) (.inl (0, 4, fun _ => 0)) = _ from e1, show hset (cH F (uR B 21 t (fun _ => 0)) C Wr (e2 E 21 t) r) (22, t) (.inl (0, 4, fun _ => 0)) = _ from e2', cH_mkT (fun k => if k = 0 then v else if k = 3 then -1 else if k = 6 then -1 else 0) ?_]
  · exact hq _ rfl rfl
  · funext k
    revert k
    refine k11 _ rfl rfl rfl rfl rfl rfl rfl rfl rfl rfl rfl (fun k hk => ?_)
    rw [cVf_ge _ _ _ _ _ hk]
    repeat rw [vu_ne (by omega)]
    rw [t_Th_ge k hk, if_neg (by omega), if_neg (by omega), if_neg (by omega)]
    rfl
theorem c_Rw_init {i : Nat} (h24 : E 24 i = false) (hq : ∀ f : Nat → Int32, Q none (cH (uR F 23 i f) (uR B 24 i (fun _ => 0)) C Wr (e2 (e2 E 24 i) 23 i) r)) : X M_Rw_init (rmo M_Rw_init 1 4) (Zm Q 1 4) 0 (ini M_Rw_init [.inr (some (23, i))]) [] (hset (cH F B C Wr E r) (23, i) (.inr (.inr (4, fun k => df (t_Rw k))))) 0 0 := by
  show X M_Rw_init _ _ 0 [some (.inr (some (23, i)))] [] (hset (cH F B C Wr E r) (23, i) (.inr (.inr (4, (fun k => df (t_Rw k)))))) 0 0
  refine X_run 1 (pc' := 1) (L' := [some (.inr (some (23, i)))]) (st' := [.inr (some (23, i))]) rfl ?_
  refine X_obj rfl o_Rw_3 (Nat.le_of_ble_eq_true rfl) (Nat.le_of_ble_eq_true rfl) (Nat.le_of_ble_eq_true rfl) rfl ?_
  refine X_run 2 (pc' := 6) (L' := [some (.inr (some (23, i)))]) (st' := [.inl (-1), .inr (some (23, i))]) rfl ?_
  refine XN_put (k := 0) (v := .inl (-1)) rfl f_Rw_9 rfl rfl (Or.inl rfl) (fun _ => ⟨rfl, rfl⟩) rfl ?_
  refine X_run 2 (pc' := 11) (L' := [some (.inr (some (23, i)))]) (st' := [.inl (-1), .inr (some (23, i))]) rfl ?_
  refine XN_put (k := 1) (v := .inl (-1)) rfl f_Rw_15 rfl rfl (Or.inl rfl) (fun _ => ⟨rfl, rfl⟩) rfl ?_
  refine X_run 2 (pc' := 16) (L' := [some (.inr (some (23, i)))]) (st' := [.inl (0), .inr (some (23, i))]) rfl ?_
  refine XN_put (k := 2) (v := .inl (0)) rfl f_Rw_18 rfl rfl (Or.inl rfl) (fun _ => ⟨rfl, rfl⟩) rfl ?_
  refine X_run 2 (pc' := 21) (L' := [some (.inr (some (23, i)))]) (st' := [.inl (0), .inr (some (23, i))]) rfl ?_
  refine XN_put (k := 3) (v := .inl (0)) rfl f_Rw_21 rfl rfl (Or.inl rfl) (fun _ => ⟨rfl, rfl⟩) rfl ?_
  refine X_run 2 (pc' := 26) (L' := [some (.inr (some (23, i)))]) (st' := [.inl (0), .inr (some (23, i))]) rfl ?_
  refine XN_put (k := 4) (v := .inl (0)) rfl f_Rw_24 rfl rfl (Or.inl rfl) (fun _ => ⟨rfl, rfl⟩) rfl ?_
  refine X_run 2 (pc' := 31) (L' := [some (.inr (some (23, i)))]) (st' := [.inl (0), .inr (some (23, i))]) rfl ?_
  refine XN_put (k := 5) (v := .inl (0)) rfl f_Rw_27 rfl rfl (Or.inl rfl) (fun _ => ⟨rfl, rfl⟩) rfl ?_
  refine X_run 2 (pc' := 36) (L' := [some (.inr (some (23, i)))]) (st' := [.inl (4), .inr (some (23, i))]) rfl ?_
  refine XN_newI (m := (24, i)) (N := 4) (t := 0) rfl (Or.inl ⟨rfl, rfl⟩) (by decide) (by decide) (by decide) (cH_none (by decide) h24) (by simp) (Nat.le_of_ble_eq_true rfl) (Nat.le_of_ble_eq_true rfl) rfl ?_
  refine XN_put (k := 6) (v := .inr (some (24, i))) rfl f_Rw_31 rfl rfl (Or.inr ⟨rfl, rfl, rfl⟩) (fun _ => ⟨rfl, rfl⟩) rfl ?_
  refine X_vret rfl rfl (Nat.le_refl _) (Nat.le_refl _) ?_
  have e1 := cH_alI (F := F) (B := B) (C := C) (Wr := Wr) (E := E) (r := r) (a := 24) (i := i) rfl (fun _ => 0)
  rw [show hset (cH F B C Wr E r) (24, i) (.inl (0, 4, fun _ => 0)) = _ from e1]
  have e2' := cH_mk (F := F) (B := uR B 24 i (fun _ => 0)) (C := C) (Wr := Wr) (E := e2 E 24 i) (r := r) (a := 23) (i := i) rfl (by decide) (fun k => if k = 0 then -1 else if k = 1 then -1 else 0) (V := (va_up (va_up (va_up (va_up (va_up (va_up (va_up (fun k => df (t_Rw k)) 0 (.inl (-1))) 1 (.inl (-1))) 2 (.inl (0))) 3 (.inl (0))) 4 (.inl (0))) 5 (.inl (0))) 6 (.inr (some (24, i))))) ?_
  · rw [show hset (cH F (uR B 24 i (fun _ => 0)) C Wr (e2 E 24 i) r) (23, i) (.inr (.inr (4, (va_up (va_up (va_up (va_up (va_up (va_up (va_up (fun k => df (t_Rw k)) 0 (.inl (-1))) 1 (.inl (-1))) 2 (.inl (0))) 3 (.inl (0))) 4 (.inl (0))) 5 (.inl (0))) 6 (.inr (some (24, i))))))) = _ from e2']
    exact hq _
  · funext k
    revert k
    refine k11 _ rfl rfl rfl rfl rfl rfl rfl rfl rfl rfl rfl (fun k hk => ?_)
    rw [cVf_ge _ _ _ _ _ hk]
    repeat rw [vu_ne (by omega)]
    rw [t_Rw_ge k hk]
    repeat rw [if_neg (by omega)]
    rfl
theorem c_De_init {x d m : Nat} {ss sm th am nm : Int32} (hd : d < 4) (h19 : E 19 x = true) (hm : B 19 x d = nI (m + 1)) (hq : ∀ f : Nat → Int32, f 0 = nI d → f 1 = nI m → f 2 = ss → f 3 = sm → f 4 = th → f 5 = am → f 6 = nm → Q none (cH (uR F 18 x f) B C Wr (e2 E 18 x) r)) : X M_De_init (rmo M_De_init 0 0) (Zm Q 0 0) 0 (ini M_De_init [.inr (some (18, x)), .inl (nI d), .inl ss, .inl sm, .inl th, .inl am, .inl nm, .inr (some (19, x))]) [] (hset (cH F B C Wr E r) (18, x) (.inr (.inr (0, fun k => df (t_De k))))) 0 0 := by
  show X M_De_init _ _ 0 [some (.inr (some (18, x))), some (.inl (nI d)), some (.inl (ss)), some (.inl (sm)), some (.inl (th)), some (.inl (am)), some (.inl (nm)), some (.inr (some (19, x)))] [] (hset (cH F B C Wr E r) (18, x) (.inr (.inr (0, (fun k => df (t_De k)))))) 0 0
  refine X_run 1 (pc' := 1) (L' := [some (.inr (some (18, x))), some (.inl (nI d)), some (.inl (ss)), some (.inl (sm)), some (.inl (th)), some (.inl (am)), some (.inl (nm)), some (.inr (some (19, x)))]) (st' := [.inr (some (18, x))]) rfl ?_
  refine X_obj rfl o_De_3 (Nat.le_of_ble_eq_true rfl) (Nat.le_of_ble_eq_true rfl) (Nat.le_of_ble_eq_true rfl) rfl ?_
  refine X_run 2 (pc' := 6) (L' := [some (.inr (some (18, x))), some (.inl (nI d)), some (.inl (ss)), some (.inl (sm)), some (.inl (th)), some (.inl (am)), some (.inl (nm)), some (.inr (some (19, x)))]) (st' := [.inl (nI d), .inr (some (18, x))]) rfl ?_
  refine XN_put (k := 0) (v := .inl (nI d)) rfl f_De_9 rfl rfl (Or.inr ⟨rfl, rfl, rfl⟩) (fun _ => ⟨rfl, rfl⟩) rfl ?_
  refine X_run 3 (pc' := 13) (L' := [some (.inr (some (18, x))), some (.inl (nI d)), some (.inl (ss)), some (.inl (sm)), some (.inl (th)), some (.inl (am)), some (.inl (nm)), some (.inr (some (19, x)))]) (st' := [.inl (nI d), .inr (some (19, x)), .inr (some (18, x))]) rfl ?_
  refine X_iald (nx := 14) (t := 0) (len := 4) (f := B 19 x) rfl (by rw [hset_ne _ _ (by simp), cH_int rfl h19]; rfl) (Or.inl rfl) (vp_in_nI hd (by decide)) rfl ?_
  rw [nI_clamp (by omega), hm]
  refine X_run 2 (pc' := 16) (L' := [some (.inr (some (18, x))), some (.inl (nI d)), some (.inl (ss)), some (.inl (sm)), some (.inl (th)), some (.inl (am)), some (.inl (nm)), some (.inr (some (19, x)))]) (st' := [.inl ((nI (m + 1)) - 1), .inr (some (18, x))]) rfl ?_
  refine X_eq (st' := [.inl (nI m), .inr (some (18, x))]) rfl (congrArg (fun zz9 => Sum.inl zz9 :: _) ((pk_sub (a := m + 1) (b := 1) (by omega)))) rfl ?_
  refine XN_put (k := 1) (v := .inl (nI m)) rfl f_De_15 rfl rfl (Or.inr ⟨rfl, rfl, rfl⟩) (fun _ => ⟨rfl, rfl⟩) rfl ?_
  refine X_run 2 (pc' := 21) (L' := [some (.inr (some (18, x))), some (.inl (nI d)), some (.inl (ss)), some (.inl (sm)), some (.inl (th)), some (.inl (am)), some (.inl (nm)), some (.inr (some (19, x)))]) (st' := [.inl (ss), .inr (some (18, x))]) rfl ?_
  refine XN_put (k := 2) (v := .inl (ss)) rfl f_De_18 rfl rfl (Or.inr ⟨rfl, rfl, rfl⟩) (fun _ => ⟨rfl, rfl⟩) rfl ?_
  refine X_run 2 (pc' := 26) (L' := [some (.inr (some (18, x))), some (.inl (nI d)), some (.inl (ss)), some (.inl (sm)), some (.inl (th)), some (.inl (am)), some (.inl (nm)), some (.inr (some (19, x)))]) (st' := [.inl (sm), .inr (some (18, x))]) rfl ?_
  refine XN_put (k := 3) (v := .inl (sm)) rfl f_De_21 rfl rfl (Or.inr ⟨rfl, rfl, rfl⟩) (fun _ => ⟨rfl, rfl⟩) rfl ?_
  refine X_run 2 (pc' := 32) (L' := [some (.inr (some (18, x))), some (.inl (nI d)), some (.inl (ss)), some (.inl (sm)), some (.inl (th)), some (.inl (am)), some (.inl (nm)), some (.inr (some (19, x)))]) (st' := [.inl (th), .inr (some (18, x))]) rfl ?_
  refine XN_put (k := 4) (v := .inl (th)) rfl f_De_24 rfl rfl (Or.inr ⟨rfl, rfl, rfl⟩) (fun _ => ⟨rfl, rfl⟩) rfl ?_
  refine X_run 2 (pc' := 38) (L' := [some (.inr (some (18, x))), some (.inl (nI d)), some (.inl (ss)), some (.inl (sm)), some (.inl (th)), some (.inl (am)), some (.inl (nm)), some (.inr (some (19, x)))]) (st' := [.inl (am), .inr (some (18, x))]) rfl ?_
  refine XN_put (k := 5) (v := .inl (am)) rfl f_De_27 rfl rfl (Or.inr ⟨rfl, rfl, rfl⟩) (fun _ => ⟨rfl, rfl⟩) rfl ?_
  refine X_run 2 (pc' := 44) (L' := [some (.inr (some (18, x))), some (.inl (nI d)), some (.inl (ss)), some (.inl (sm)), some (.inl (th)), some (.inl (am)), some (.inl (nm)), some (.inr (some (19, x)))]) (st' := [.inl (nm), .inr (some (18, x))]) rfl ?_
  refine XN_put (k := 6) (v := .inl (nm)) rfl f_De_30 rfl rfl (Or.inr ⟨rfl, rfl, rfl⟩) (fun _ => ⟨rfl, rfl⟩) rfl ?_
  refine X_run 2 (pc' := 50) (L' := [some (.inr (some (18, x))), some (.inl (nI d)), some (.inl (ss)), some (.inl (sm)), some (.inl (th)), some (.inl (am)), some (.inl (nm)), some (.inr (some (19, x)))]) (st' := [.inr (some (19, x)), .inr (some (18, x))]) rfl ?_
  refine XN_put (k := 7) (v := .inr (some (19, x))) rfl f_De_33 rfl rfl (Or.inr ⟨rfl, rfl, rfl⟩) (fun _ => ⟨rfl, rfl⟩) rfl ?_
  refine X_vret rfl rfl (Nat.le_refl _) (Nat.le_refl _) ?_
  have e2' := cH_mk (F := F) (B := B) (C := C) (Wr := Wr) (E := E) (r := r) (a := 18) (i := x) rfl (by decide) (fun k => if k = 0 then nI d else if k = 1 then nI m else if k = 2 then ss else if k = 3 then sm else if k = 4 then th else if k = 5 then am else if k = 6 then nm else 0) (V := (va_up (va_up (va_up (va_up (va_up (va_up (va_up (va_up (fun k => df (t_De k)) 0 (.inl (nI d))) 1 (.inl (nI m))) 2 (.inl (ss))) 3 (.inl (sm))) 4 (.inl (th))) 5 (.inl (am))) 6 (.inl (nm))) 7 (.inr (some (19, x))))) ?_
  · rw [show hset (cH F B C Wr E r) (18, x) (.inr (.inr (0, (va_up (va_up (va_up (va_up (va_up (va_up (va_up (va_up (fun k => df (t_De k)) 0 (.inl (nI d))) 1 (.inl (nI m))) 2 (.inl (ss))) 3 (.inl (sm))) 4 (.inl (th))) 5 (.inl (am))) 6 (.inl (nm))) 7 (.inr (some (19, x))))))) = _ from e2']
    exact hq _ rfl rfl rfl rfl rfl rfl rfl
  · funext k
    revert k
    refine k11 _ rfl rfl rfl rfl rfl rfl rfl rfl rfl rfl rfl (fun k hk => ?_)
    rw [cVf_ge _ _ _ _ _ hk]
    repeat rw [vu_ne (by omega)]
    rw [t_De_ge k hk]
    repeat rw [if_neg (by omega)]
    rfl
theorem c_Dv_init {d : Nat} (h16 : E 16 d = false) (h17 : ∀ f, f < 4 → E 17 (4 * d + f) = false) (hq : ∀ (f : Nat → Int32) (B' : CB) (E' : Nat → Nat → Bool), f 0 = nI d → (∀ a i, ¬ (a = 17 ∧ i / 4 = d) → B' a i = B a i) → (∀ f e, f < 4 → B' 17 (4 * d + f) e = 0) → (∀ a i, ¬ ((a = 15 ∨ a = 16) ∧ i = d) → ¬ (a = 17 ∧ i / 4 = d) → E' a i = E a i) → E' 15 d = true → E' 16 d = true → (∀ f, f < 4 → E' 17 (4 * d + f) = true) → Q none (cH (uR F 15 d f) B' C Wr E' r)) : X M_Dv_init (rmo M_Dv_init 5 20) (Zm Q 5 20) 0 (ini M_Dv_init [.inr (some (15, d)), .inl (nI d)]) [] (hset (cH F B C Wr E r) (15, d) (.inr (.inr (1, fun k => df (t_Dv k))))) 0 0 := by
  show X M_Dv_init _ _ 0 [some (.inr (some (15, d))), some (.inl (nI d))] [] (hset (cH F B C Wr E r) (15, d) (.inr (.inr (1, (fun k => df (t_Dv k)))))) 0 0
  refine X_run 1 (pc' := 1) (L' := [some (.inr (some (15, d))), some (.inl (nI d))]) (st' := [.inr (some (15, d))]) rfl ?_
  refine X_obj rfl o_Dv_3 (Nat.le_of_ble_eq_true rfl) (Nat.le_of_ble_eq_true rfl) (Nat.le_of_ble_eq_true rfl) rfl ?_
  refine X_run 3 (pc' := 7) (L' := [some (.inr (some (15, d))), some (.inl (nI d))]) (st' := [.inl (4), .inl (4), .inr (some (15, d))]) rfl ?_
  refine X_grid (n := (16, d)) (r := fun f => (17, 4 * d + f)) rfl c_Dv_9 (by rw [hset_ne _ _ (by simp)]; exact cH_none (by decide) h16) (fun f hf => by show hset _ _ _ (17, 4 * d + f) = none; rw [hset_ne _ _ (by simp)]; exact cH_none (by decide) (h17 f hf)) (fun f hf => by simp) (fun f g hf hg hne => by simp; omega) (Nat.le_of_ble_eq_true rfl) (Nat.le_of_ble_eq_true rfl) rfl ?_
  have eg : hgrid (hset (cH F B C Wr E r) (15, d) (.inr (.inr (1, fun k => df (t_Dv k))))) (16, d) (fun f => (17, 4 * d + f)) = hset (cH F (uR (uR (uR (uR B 17 (4 * d + 0) (fun _ => 0)) 17 (4 * d + 1) (fun _ => 0)) 17 (4 * d + 2) (fun _ => 0)) 17 (4 * d + 3) (fun _ => 0)) C Wr (e2 (e2 (e2 (e2 (e2 E 17 (4 * d + 0)) 17 (4 * d + 1)) 17 (4 * d + 2)) 17 (4 * d + 3)) 16 d) r) (15, d) (.inr (.inr (1, fun k => df (t_Dv k)))) := by
    unfold hgrid
    have al : ∀ (B : CB) (E : Nat → Nat → Bool) (j : Nat) (o : AE), hset (hset (cH F B C Wr E r) (15, d) o) (17, j) z4 = hset (cH F (uR B 17 j (fun _ => 0)) C Wr (e2 E 17 j) r) (15, d) o := fun B E j o => by
      rw [hset_sw _ _ _ (by simp)]
      exact congrArg (fun z => hset z (15, d) o) (cH_alI (a := 17) (i := j) rfl (fun _ => 0))
    have aq : ∀ (B : CB) (E : Nat → Nat → Bool) (o : AE), hset (hset (cH F B C Wr E r) (15, d) o) (16, d) (.inr (.inl (6, 4, fun i => if i < 4 then some ((17, 4 * d + i) : Nd) else none))) = hset (cH F B C Wr (e2 E 16 d) r) (15, d) o := fun B E o => by
      rw [hset_sw _ _ _ (by simp)]
      exact congrArg (fun z => hset z (15, d) o) (cH_alQ (a := 16) (i := d) rfl rfl)
    rw [al, al, al, al, aq]
  rw [eg]
  obtain ⟨B', hB'⟩ : ∃ B', B' = uR (uR (uR (uR B 17 (4 * d + 0) (fun _ => 0)) 17 (4 * d + 1) (fun _ => 0)) 17 (4 * d + 2) (fun _ => 0)) 17 (4 * d + 3) (fun _ => 0) := ⟨_, rfl⟩
  obtain ⟨E', hE'⟩ : ∃ E', E' = e2 (e2 (e2 (e2 (e2 E 17 (4 * d + 0)) 17 (4 * d + 1)) 17 (4 * d + 2)) 17 (4 * d + 3)) 16 d := ⟨_, rfl⟩
  rw [← hB', ← hE']
  refine XN_put (k := 1) (v := .inr (some (16, d))) rfl f_Dv_11 rfl rfl (Or.inr ⟨rfl, rfl, rfl⟩) (fun _ => ⟨rfl, rfl⟩) rfl ?_
  refine X_run 2 (pc' := 16) (L' := [some (.inr (some (15, d))), some (.inl (nI d))]) (st' := [.inl (nI d), .inr (some (15, d))]) rfl ?_
  refine XN_put (k := 0) (v := .inl (nI d)) rfl f_Dv_16 rfl rfl (Or.inr ⟨rfl, rfl, rfl⟩) (fun _ => ⟨rfl, rfl⟩) rfl ?_
  refine X_vret rfl rfl (Nat.le_refl _) (Nat.le_refl _) ?_
  have e2' := cH_mk (F := F) (B := B') (C := C) (Wr := Wr) (E := E') (r := r) (a := 15) (i := d) rfl (by decide) (fun k => if k = 0 then nI d else 0) (V := (va_up (va_up (fun k => df (t_Dv k)) 1 (.inr (some (16, d)))) 0 (.inl (nI d)))) ?_
  · rw [show hset (cH F B' C Wr E' r) (15, d) (.inr (.inr (1, (va_up (va_up (fun k => df (t_Dv k)) 1 (.inr (some (16, d)))) 0 (.inl (nI d)))))) = _ from e2']
    refine hq _ _ _ rfl (fun a i hh => ?_) (fun f e hf => ?_) (fun a i h1 h2 => ?_) (e2_eq _ _ _) (e2_mono (by rw [hE']; exact e2_eq _ _ _)) (fun f hf => e2_mono (by
      rw [hE']
      rcases (show f = 0 ∨ f = 1 ∨ f = 2 ∨ f = 3 by omega) with rfl | rfl | rfl | rfl
      · exact e2_mono (e2_mono (e2_mono (e2_mono (e2_eq _ _ _))))
      · exact e2_mono (e2_mono (e2_mono (e2_eq _ _ _)))
      · exact e2_mono (e2_mono (e2_eq _ _ _))
      · exact e2_mono (e2_eq _ _ _)))
    · rw [hB', uR_ne (by omega), uR_ne (by omega), uR_ne (by omega), uR_ne (by omega)]
    · rw [hB']
      rcases (show f = 0 ∨ f = 1 ∨ f = 2 ∨ f = 3 by omega) with rfl | rfl | rfl | rfl
      · rw [uR_ne (by omega), uR_ne (by omega), uR_ne (by omega), uR_eq]
      · rw [uR_ne (by omega), uR_ne (by omega), uR_eq]
      · rw [uR_ne (by omega), uR_eq]
      · rw [uR_eq]
    · rw [e2_ne (by omega), hE', e2_ne (by omega), e2_ne (by omega), e2_ne (by omega), e2_ne (by omega), e2_ne (by omega)]
  · funext k
    revert k
    refine k11 _ rfl rfl rfl rfl rfl rfl rfl rfl rfl rfl rfl (fun k hk => ?_)
    rw [cVf_ge _ _ _ _ _ hk]
    repeat rw [vu_ne (by omega)]
    rw [t_Dv_ge k hk]
    repeat rw [if_neg (by omega)]
    rfl
def VLg : Nat → AV := (va_up (va_up (va_up (fun k => df (t_Lg k)) 0 (.inr (some (3, 0)))) 1 (.inr (some (4, 0)))) 2 (.inl (0)))
theorem c_Lg_init (h3 : h (3, 0) = none) (h4 : h (4, 0) = none) (hq : Q none (hset (hset (hset h (3, 0) (.inr (.inl (2, 160, fun _ => none)))) (4, 0) (.inr (.inl (2, 160, fun _ => none)))) (2, 0) (.inr (.inr (2, VLg))))) : X M_Lg_init (rmo M_Lg_init 2 320) (Zm Q 2 320) 0 (ini M_Lg_init [.inr (some (2, 0))]) [] (hset h (2, 0) (.inr (.inr (2, fun k => df (t_Lg k))))) 0 0 := by
  show X M_Lg_init _ _ 0 [some (.inr (some (2, 0)))] [] (hset h (2, 0) (.inr (.inr (2, (fun k => df (t_Lg k)))))) 0 0
  refine X_run 1 (pc' := 1) (L' := [some (.inr (some (2, 0)))]) (st' := [.inr (some (2, 0))]) rfl ?_
  refine X_obj rfl o_Lg_3 (Nat.le_of_ble_eq_true rfl) (Nat.le_of_ble_eq_true rfl) (Nat.le_of_ble_eq_true rfl) rfl ?_
  refine X_run 2 (pc' := 8) (L' := [some (.inr (some (2, 0)))]) (st' := [.inl (160), .inr (some (2, 0))]) rfl ?_
  refine XN_newQ (m := (3, 0)) (N := 160) (t := 2) rfl rfl c_Lg_9 ao_De (by decide) (by decide) (by decide) h3 (by decide) (Nat.le_of_ble_eq_true rfl) (Nat.le_of_ble_eq_true rfl) rfl ?_
  refine XN_put (k := 0) (v := .inr (some (3, 0))) rfl f_Lg_11 rfl rfl (Or.inr ⟨rfl, rfl, rfl⟩) (fun _ => ⟨rfl, rfl⟩) rfl ?_
  refine X_run 2 (pc' := 18) (L' := [some (.inr (some (2, 0)))]) (st' := [.inl (160), .inr (some (2, 0))]) rfl ?_
  refine XN_newQ (m := (4, 0)) (N := 160) (t := 2) rfl rfl c_Lg_9 ao_De (by decide) (by decide) (by decide) (by rw [hset_ne _ _ (by decide)]; exact h4) (by decide) (Nat.le_of_ble_eq_true rfl) (Nat.le_of_ble_eq_true rfl) rfl ?_
  refine XN_put (k := 1) (v := .inr (some (4, 0))) rfl f_Lg_17 rfl rfl (Or.inr ⟨rfl, rfl, rfl⟩) (fun _ => ⟨rfl, rfl⟩) rfl ?_
  refine X_run 2 (pc' := 26) (L' := [some (.inr (some (2, 0)))]) (st' := [.inl (0), .inr (some (2, 0))]) rfl ?_
  refine XN_put (k := 2) (v := .inl (0)) rfl f_Lg_20 rfl rfl (Or.inl rfl) (fun _ => ⟨rfl, rfl⟩) rfl ?_
  exact X_vret rfl rfl (Nat.le_refl _) (Nat.le_refl _) hq
def VPi (b : Bool) : Nat → AV := (va_up (va_up (va_up (va_up (va_up (va_up (va_up (va_up (va_up (va_up (va_up (fun k => df (t_Pi k)) 1 (.inr (some (6, 0)))) 2 (.inr (some (7, 0)))) 3 (.inr (some (8, 0)))) 4 (.inl (0))) 5 (.inr (some (9, 0)))) 6 (.inr (some (12, 0)))) 7 (.inl (0))) 8 (.inr (some (13, 0)))) 9 (.inr (some (14, 0)))) 10 (.inl (0))) 0 (.inl (b2i b)))
theorem c_Pi_init {b : Bool} (hn : ∀ a, (a = 6 ∨ a = 7 ∨ a = 8 ∨ a = 9 ∨ a = 12 ∨ a = 13 ∨ a = 14) → h (a, 0) = none) (hq : Q none (hset (hset (hset (hset (hset (hset (hset (hset h (6, 0) (.inl (0, 4, fun _ => 0))) (7, 0) (.inl (1, 160, fun _ => 0))) (8, 0) (.inr (.inl (2, 160, fun _ => none)))) (9, 0) (.inr (.inl (4, 160, fun _ => none)))) (12, 0) (.inr (.inl (4, 160, fun _ => none)))) (13, 0) (.inr (.inl (4, 1000, fun _ => none)))) (14, 0) (.inr (.inl (5, 160, fun _ => none)))) (5, 0) (.inr (.inr (3, VPi b))))) : X M_Pi_init (rmo M_Pi_init 7 1804) (Zm Q 7 1804) 0 (ini M_Pi_init [.inr (some (5, 0)), .inl (b2i b)]) [] (hset h (5, 0) (.inr (.inr (3, fun k => df (t_Pi k))))) 0 0 := by
  show X M_Pi_init _ _ 0 [some (.inr (some (5, 0))), some (.inl (b2i b))] [] (hset h (5, 0) (.inr (.inr (3, (fun k => df (t_Pi k)))))) 0 0
  refine X_run 1 (pc' := 1) (L' := [some (.inr (some (5, 0))), some (.inl (b2i b))]) (st' := [.inr (some (5, 0))]) rfl ?_
  refine X_obj rfl o_Pi_3 (Nat.le_of_ble_eq_true rfl) (Nat.le_of_ble_eq_true rfl) (Nat.le_of_ble_eq_true rfl) rfl ?_
  refine X_run 2 (pc' := 6) (L' := [some (.inr (some (5, 0))), some (.inl (b2i b))]) (st' := [.inl (4), .inr (some (5, 0))]) rfl ?_
  refine XN_newI (m := (6, 0)) (N := 4) (t := 0) rfl (Or.inl ⟨rfl, rfl⟩) (by decide) (by decide) (by decide) (hn 6 (by decide)) (by decide) (Nat.le_of_ble_eq_true rfl) (Nat.le_of_ble_eq_true rfl) rfl ?_
  refine XN_put (k := 1) (v := .inr (some (6, 0))) rfl f_Pi_9 rfl rfl (Or.inr ⟨rfl, rfl, rfl⟩) (fun _ => ⟨rfl, rfl⟩) rfl ?_
  refine X_run 2 (pc' := 15) (L' := [some (.inr (some (5, 0))), some (.inl (b2i b))]) (st' := [.inl (160), .inr (some (5, 0))]) rfl ?_
  refine XN_newI (m := (7, 0)) (N := 160) (t := 1) rfl (Or.inr ⟨rfl, rfl⟩) (by decide) (by decide) (by decide) (by rw [hset_ne _ _ (by decide)]; exact hn 7 (by decide)) (by decide) (Nat.le_of_ble_eq_true rfl) (Nat.le_of_ble_eq_true rfl) rfl ?_
  refine XN_put (k := 2) (v := .inr (some (7, 0))) rfl f_Pi_15 rfl rfl (Or.inr ⟨rfl, rfl, rfl⟩) (fun _ => ⟨rfl, rfl⟩) rfl ?_
  refine X_run 2 (pc' := 24) (L' := [some (.inr (some (5, 0))), some (.inl (b2i b))]) (st' := [.inl (160), .inr (some (5, 0))]) rfl ?_
  refine XN_newQ (m := (8, 0)) (N := 160) (t := 2) rfl rfl c_Pi_19 ao_De (by decide) (by decide) (by decide) (by rw [hset_ne _ _ (by decide), hset_ne _ _ (by decide)]; exact hn 8 (by decide)) (by decide) (Nat.le_of_ble_eq_true rfl) (Nat.le_of_ble_eq_true rfl) rfl ?_
  refine XN_put (k := 3) (v := .inr (some (8, 0))) rfl f_Pi_21 rfl rfl (Or.inr ⟨rfl, rfl, rfl⟩) (fun _ => ⟨rfl, rfl⟩) rfl ?_
  refine X_run 2 (pc' := 32) (L' := [some (.inr (some (5, 0))), some (.inl (b2i b))]) (st' := [.inl (0), .inr (some (5, 0))]) rfl ?_
  refine XN_put (k := 4) (v := .inl (0)) rfl f_Pi_25 rfl rfl (Or.inl rfl) (fun _ => ⟨rfl, rfl⟩) rfl ?_
  refine X_run 2 (pc' := 39) (L' := [some (.inr (some (5, 0))), some (.inl (b2i b))]) (st' := [.inl (160), .inr (some (5, 0))]) rfl ?_
  refine XN_newQ (m := (9, 0)) (N := 160) (t := 4) rfl rfl c_Pi_29 ao_Th (by decide) (by decide) (by decide) (by rw [hset_ne _ _ (by decide), hset_ne _ _ (by decide), hset_ne _ _ (by decide)]; exact hn 9 (by decide)) (by decide) (Nat.le_of_ble_eq_true rfl) (Nat.le_of_ble_eq_true rfl) rfl ?_
  refine XN_put (k := 5) (v := .inr (some (9, 0))) rfl f_Pi_31 rfl rfl (Or.inr ⟨rfl, rfl, rfl⟩) (fun _ => ⟨rfl, rfl⟩) rfl ?_
  refine X_run 2 (pc' := 49) (L' := [some (.inr (some (5, 0))), some (.inl (b2i b))]) (st' := [.inl (160), .inr (some (5, 0))]) rfl ?_
  refine XN_newQ (m := (12, 0)) (N := 160) (t := 4) rfl rfl c_Pi_29 ao_Th (by decide) (by decide) (by decide) (by rw [hset_ne _ _ (by decide), hset_ne _ _ (by decide), hset_ne _ _ (by decide), hset_ne _ _ (by decide)]; exact hn 12 (by decide)) (by decide) (Nat.le_of_ble_eq_true rfl) (Nat.le_of_ble_eq_true rfl) rfl ?_
  refine XN_put (k := 6) (v := .inr (some (12, 0))) rfl f_Pi_35 rfl rfl (Or.inr ⟨rfl, rfl, rfl⟩) (fun _ => ⟨rfl, rfl⟩) rfl ?_
  refine X_run 2 (pc' := 57) (L' := [some (.inr (some (5, 0))), some (.inl (b2i b))]) (st' := [.inl (0), .inr (some (5, 0))]) rfl ?_
  refine XN_put (k := 7) (v := .inl (0)) rfl f_Pi_38 rfl rfl (Or.inl rfl) (fun _ => ⟨rfl, rfl⟩) rfl ?_
  refine X_run 2 (pc' := 64) (L' := [some (.inr (some (5, 0))), some (.inl (b2i b))]) (st' := [.inl (1000), .inr (some (5, 0))]) rfl ?_
  refine XN_newQ (m := (13, 0)) (N := 1000) (t := 4) rfl rfl c_Pi_29 ao_Th (by decide) (by decide) (by decide) (by rw [hset_ne _ _ (by decide), hset_ne _ _ (by decide), hset_ne _ _ (by decide), hset_ne _ _ (by decide), hset_ne _ _ (by decide)]; exact hn 13 (by decide)) (by decide) (Nat.le_of_ble_eq_true rfl) (Nat.le_of_ble_eq_true rfl) rfl ?_
  refine XN_put (k := 8) (v := .inr (some (13, 0))) rfl f_Pi_41 rfl rfl (Or.inr ⟨rfl, rfl, rfl⟩) (fun _ => ⟨rfl, rfl⟩) rfl ?_
  refine X_run 2 (pc' := 74) (L' := [some (.inr (some (5, 0))), some (.inl (b2i b))]) (st' := [.inl (160), .inr (some (5, 0))]) rfl ?_
  refine XN_newQ (m := (14, 0)) (N := 160) (t := 5) rfl rfl c_Pi_44 ao_Rw (by decide) (by decide) (by decide) (by rw [hset_ne _ _ (by decide), hset_ne _ _ (by decide), hset_ne _ _ (by decide), hset_ne _ _ (by decide), hset_ne _ _ (by decide), hset_ne _ _ (by decide)]; exact hn 14 (by decide)) (by decide) (Nat.le_of_ble_eq_true rfl) (Nat.le_of_ble_eq_true rfl) rfl ?_
  refine XN_put (k := 9) (v := .inr (some (14, 0))) rfl f_Pi_46 rfl rfl (Or.inr ⟨rfl, rfl, rfl⟩) (fun _ => ⟨rfl, rfl⟩) rfl ?_
  refine X_run 2 (pc' := 82) (L' := [some (.inr (some (5, 0))), some (.inl (b2i b))]) (st' := [.inl (0), .inr (some (5, 0))]) rfl ?_
  refine XN_put (k := 10) (v := .inl (0)) rfl f_Pi_50 rfl rfl (Or.inl rfl) (fun _ => ⟨rfl, rfl⟩) rfl ?_
  refine X_run 2 (pc' := 87) (L' := [some (.inr (some (5, 0))), some (.inl (b2i b))]) (st' := [.inl (b2i b), .inr (some (5, 0))]) rfl ?_
  refine XN_put (k := 0) (v := .inl (b2i b)) rfl f_Pi_53 rfl rfl (Or.inr ⟨rfl, rfl, rfl⟩) (fun _ => by cases b <;> exact ⟨rfl, rfl⟩) rfl ?_
  exact X_vret rfl rfl (Nat.le_refl _) (Nat.le_refl _) hq
end

