/-! instructions that touch no cell -/
def kc (n : Int) : Int32 := match n with
  | 0 => 0
  | 1 => 1
  | 2 => 2
  | 3 => 3
  | 4 => 4
  | 5 => 5
  | -1 => -1
  | n => Int32.ofInt n
def kb (n : Int) : Int32 := match n with
  | -99 => -99
  | 6 => 6
  | 7 => 7
  | 16 => 16
  | 20 => 20
  | 31 => 31
  | 40 => 40
  | 64 => 64
  | 99 => 99
  | n => (Int8.ofInt n).toInt32
def ks (n : Int) : Int32 := match n with
  | -10000 => -10000
  | 159 => 159
  | 160 => 160
  | 640 => 640
  | 999 => 999
  | 1000 => 1000
  | n => (Int16.ofInt n).toInt32
theorem kc_ok (n : Int) : Int32.ofInt n = kc n := by unfold kc; split <;> rfl
theorem kb_ok (n : Int) : (Int8.ofInt n).toInt32 = kb n := by unfold kb; split <;> rfl
theorem ks_ok (n : Int) : (Int16.ofInt n).toInt32 = ks n := by unfold ks; split <;> rfl
abbrev PS : Type := Nat × List (Option AV) × List AV
def ps_ld (nx : Nat) (L : List (Option AV)) (st : List AV) (k : Nat) (int : Bool) : Option PS := match L[k]? with
  | some (some (.inl x)) => if int then some (nx, L, .inl x :: st) else none
  | some (some (.inr r)) => if int then none else some (nx, L, .inr r :: st)
  | _ => none
def ps_st (nL nx : Nat) (L : List (Option AV)) (st : List AV) (k : Nat) (int : Bool) : Option PS := if k < nL then (match st with
  | .inl x :: r => if int then some (nx, L.set k (some (.inl x)), r) else none
  | .inr x :: r => if int then none else some (nx, L.set k (some (.inr x)), r)
  | _ => none) else none
def ps_2 (nx : Nat) (L : List (Option AV)) (st : List AV) (f : Int32 → Int32 → Int32) : Option PS := match st with
  | .inl y :: .inl x :: r => some (nx, L, .inl (f x y) :: r)
  | _ => none
def ps_inc (nL nx : Nat) (L : List (Option AV)) (st : List AV) (k : Nat) (d : Int) : Option PS := if k < nL then (match L[k]? with
  | some (some (.inl x)) => some (nx, L.set k (some (.inl (x + kc d))), st)
  | _ => none) else none
def ps (nL : Nat) (i : Instr) (n pc : Nat) (L : List (Option AV)) (st : List AV) : Option PS := match i with
  | .iconst k => if n = 1 then some (pc + 1, L, .inl (kc k) :: st) else none
  | .bipush k => if n = 2 then some (pc + 2, L, .inl (kb k) :: st) else none
  | .sipush k => if n = 3 then some (pc + 3, L, .inl (ks k) :: st) else none
  | .aconst_null => if n = 1 then some (pc + 1, L, .inr none :: st) else none
  | .iload k => if n = 2 then ps_ld (pc + 2) L st k true else none
  | .iload_n k => if n = 1 then ps_ld (pc + 1) L st k true else none
  | .aload k => if n = 2 then ps_ld (pc + 2) L st k false else none
  | .aload_n k => if n = 1 then ps_ld (pc + 1) L st k false else none
  | .istore k => if n = 2 then ps_st nL (pc + 2) L st k true else none
  | .istore_n k => if n = 1 then ps_st nL (pc + 1) L st k true else none
  | .astore k => if n = 2 then ps_st nL (pc + 2) L st k false else none
  | .astore_n k => if n = 1 then ps_st nL (pc + 1) L st k false else none
  | .iinc k d => if n = 3 then ps_inc nL (pc + 3) L st k d else none
  | .iadd => if n = 1 then ps_2 (pc + 1) L st (fun x y => x + y) else none
  | .isub => if n = 1 then ps_2 (pc + 1) L st (fun x y => x - y) else none
  | .imul => if n = 1 then ps_2 (pc + 1) L st (fun x y => x * y) else none
  | .iand => if n = 1 then ps_2 (pc + 1) L st (fun x y => x &&& y) else none
  | .dup => if n = 1 then (match st with
    | v :: r => some (pc + 1, L, v :: v :: r)
    | _ => none) else none
  | .dup2 => if n = 1 then (match st with
    | v :: w :: r => some (pc + 1, L, v :: w :: v :: w :: r)
    | _ => none) else none
  | .goto off => if n = 3 ∧ 0 ≤ (pc : Int) + off then some (((pc : Int) + off).toNat, L, st) else none
  | _ => none
def lvO (α : Nd → Nat) (L : List (Option AV)) : List (Nat × Value) := (List.range L.length).filterMap (fun i => match L[i]? with
  | some (some v) => some (i, cv α v)
  | _ => none)
theorem lvO_mem {α : Nd → Nat} {L : List (Option AV)} {i : Nat} {v : AV} (h : L[i]? = some (some v)) : (i, cv α v) ∈ lvO α L := by
  unfold lvO
  rw [List.mem_filterMap]
  exact ⟨i, List.mem_range.mpr (List.getElem?_eq_some_iff.mp h).1, by rw [h]⟩
theorem lvO_of {α : Nd → Nat} {L : List (Option AV)} {q : Nat × Value} (h : q ∈ lvO α L) : ∃ v, L[q.1]? = some (some v) ∧ q.2 = cv α v := by
  unfold lvO at h
  rw [List.mem_filterMap] at h
  obtain ⟨i, -, h⟩ := h
  split at h
  · cases h
    exact ⟨_, by assumption, rfl⟩
  · cases h
theorem mj_L.lv {α : Nd → Nat} {h : AH} {nL : Nat} {L : List (Option AV)} {ls : Array Slot} (hL : mj_L α h nL L ls) : lv_has ls nL (lvO α L) := by
  refine ⟨hL.1, hL.2.1, fun q hq => ?_⟩
  obtain ⟨v, h1, h2⟩ := lvO_of hq
  rw [h2]
  exact (hL.2.2 _ _ h1).1
theorem mj_L.st {α : Nd → Nat} {h : AH} {nL : Nat} {L : List (Option AV)} {ls ls' : Array Slot} (hL : mj_L α h nL L ls) {k : Nat} {x : AV} (hx : okv h x) (h' : lv_has ls' nL ((k, cv α x) :: (lvO α L).filter (fun q => !(q.1 == k) && !(q.1 + 1 == k && q.2.category == 2)))) : mj_L α h nL (L.set k (some x)) ls' := by
  refine ⟨h'.1, h'.2.1, fun i v hi => ?_⟩
  by_cases hk : i = k
  · subst hk
    rw [List.getElem?_set] at hi
    simp at hi
    obtain ⟨_, rfl⟩ := hi
    exact ⟨h'.2.2 (i, cv α x) List.mem_cons_self, hx⟩
  · rw [List.getElem?_set_ne (Ne.symm hk)] at hi
    refine ⟨h'.2.2 (i, cv α v) (List.mem_cons_of_mem _ (List.mem_filter.mpr ⟨lvO_mem hi, ?_⟩)), (hL.2.2 i v hi).2⟩
    simp [hk, cv_cat]
theorem mj_L.at {α : Nd → Nat} {h : AH} {nL : Nat} {L : List (Option AV)} {ls : Array Slot} (hL : mj_L α h nL L ls) {k : Nat} {x : AV} (hx : L[k]? = some (some x)) : ls[k]? = some (.val (cv α x)) := (hL.2.2 k x hx).1
section
variable {M : MI} {R : Room} {Z : ZT} {pc : Nat} {L : List (Option AV)} {st : List AV} {h : AH} {c sl : Nat}
theorem X_ld {i : Instr} {n k nx : Nat} {int : Bool} {q : PS} (hd : mi M pc = some (i, n)) (hi : (i = .iload k ∧ int = true ∧ n = 2) ∨ (∃ k' : Fin 4, i = .iload_n k' ∧ k'.val = k ∧ int = true ∧ n = 1) ∨ (i = .aload k ∧ int = false ∧ n = 2) ∨ (∃ k' : Fin 4, i = .aload_n k' ∧ k'.val = k ∧ int = false ∧ n = 1)) (hnx : nx = pc + n) (hq : ps_ld nx L st k int = some q) (kk : X M R Z q.1 q.2.1 q.2.2 h c sl) : X M R Z pc L st h c sl := by
  intro p l e s m args below meth cd G base α0 D0 α H locs ls hC hb hD hR hS hL hst
  have hdec := mi_dec hd hC.2.2.2.2.2.2.2.2.2
  unfold ps_ld at hq
  split at hq
  · rename_i x hx
    cases int
    · simp at hq
    · simp at hq
      subst hq
      have hk := kk p l e s m args below meth cd G base α0 D0 α H locs ls hC hb hD hR hS hL (fun v hv => by
        rcases List.mem_cons.mp hv with rfl | hv
        · exact (hL.2.2 _ _ hx).2
        · exact hst v hv)
      subst hnx
      rcases hi with ⟨rfl, -, rfl⟩ | ⟨k', rfl, rfl, -, rfl⟩ | ⟨-, h0, -⟩ | ⟨_, -, -, h0, -⟩
      · exact lv_iload hC.1 hC.2.1 hdec (hL.at hx) hk
      · exact lv_iload_n hC.1 hC.2.1 hdec rfl (hL.at hx) hk
      · cases h0
      · cases h0
  · rename_i x hx
    cases int
    · simp at hq
      subst hq
      have hk := kk p l e s m args below meth cd G base α0 D0 α H locs ls hC hb hD hR hS hL (fun v hv => by
        rcases List.mem_cons.mp hv with rfl | hv
        · exact (hL.2.2 _ _ hx).2
        · exact hst v hv)
      subst hnx
      rcases hi with ⟨-, h0, -⟩ | ⟨_, -, -, h0, -⟩ | ⟨rfl, -, rfl⟩ | ⟨k', rfl, rfl, -, rfl⟩
      · cases h0
      · cases h0
      · rcases x with _ | x
        · exact lv_aloadN hC.1 hC.2.1 hdec (hL.at hx) hk
        · exact lv_aload hC.1 hC.2.1 hdec (hL.at hx) hk
      · rcases x with _ | x
        · exact lv_aload_nN hC.1 hC.2.1 hdec rfl (hL.at hx) hk
        · exact lv_aload_n hC.1 hC.2.1 hdec rfl (hL.at hx) hk
    · simp at hq
  · cases hq
theorem X_st {i : Instr} {n k nx : Nat} {int : Bool} {q : PS} (hd : mi M pc = some (i, n)) (hi : (i = .istore k ∧ int = true ∧ n = 2) ∨ (∃ k' : Fin 4, i = .istore_n k' ∧ k'.val = k ∧ int = true ∧ n = 1) ∨ (i = .astore k ∧ int = false ∧ n = 2) ∨ (∃ k' : Fin 4, i = .astore_n k' ∧ k'.val = k ∧ int = false ∧ n = 1)) (hnx : nx = pc + n) (hq : ps_st M.2.2.1 nx L st k int = some q) (kk : X M R Z q.1 q.2.1 q.2.2 h c sl) : X M R Z pc L st h c sl := by
  intro p l e s m args below meth cd G base α0 D0 α H locs ls hC hb hD hR hS hL hst
  have hdec := mi_dec hd hC.2.2.2.2.2.2.2.2.2
  unfold ps_st at hq
  split at hq
  · rename_i hkn
    split at hq
    · rename_i x r
      cases int
      · simp at hq
      · simp at hq
        subst hq
        subst hnx
        rcases hi with ⟨rfl, -, rfl⟩ | ⟨k', rfl, rfl, -, rfl⟩ | ⟨-, h0, -⟩ | ⟨_, -, -, h0, -⟩
        · exact lv_istore hC.1 hC.2.1 hdec hL.lv hkn rfl (fun ls' h' => kk p l e s m args below meth cd G base α0 D0 α H locs ls' hC hb hD hR hS (hL.st (hst _ List.mem_cons_self) h') (fun v hv => hst v (List.mem_cons_of_mem _ hv)))
        · exact lv_istore_n hC.1 hC.2.1 hdec rfl hL.lv hkn rfl (fun ls' h' => kk p l e s m args below meth cd G base α0 D0 α H locs ls' hC hb hD hR hS (hL.st (hst _ List.mem_cons_self) h') (fun v hv => hst v (List.mem_cons_of_mem _ hv)))
        · cases h0
        · cases h0
    · rename_i x r
      cases int
      · simp at hq
        subst hq
        subst hnx
        rcases hi with ⟨-, h0, -⟩ | ⟨_, -, -, h0, -⟩ | ⟨rfl, -, rfl⟩ | ⟨k', rfl, rfl, -, rfl⟩
        · cases h0
        · cases h0
        · rcases x with _ | x
          · exact lv_astoreN hC.1 hC.2.1 hdec hL.lv hkn rfl (fun ls' h' => kk p l e s m args below meth cd G base α0 D0 α H locs ls' hC hb hD hR hS (hL.st (hst _ List.mem_cons_self) h') (fun v hv => hst v (List.mem_cons_of_mem _ hv)))
          · exact lv_astore hC.1 hC.2.1 hdec hL.lv hkn rfl (fun ls' h' => kk p l e s m args below meth cd G base α0 D0 α H locs ls' hC hb hD hR hS (hL.st (hst _ List.mem_cons_self) h') (fun v hv => hst v (List.mem_cons_of_mem _ hv)))
        · rcases x with _ | x
          · exact lv_astore_nN hC.1 hC.2.1 hdec rfl hL.lv hkn rfl (fun ls' h' => kk p l e s m args below meth cd G base α0 D0 α H locs ls' hC hb hD hR hS (hL.st (hst _ List.mem_cons_self) h') (fun v hv => hst v (List.mem_cons_of_mem _ hv)))
          · exact lv_astore_n hC.1 hC.2.1 hdec rfl hL.lv hkn rfl (fun ls' h' => kk p l e s m args below meth cd G base α0 D0 α H locs ls' hC hb hD hR hS (hL.st (hst _ List.mem_cons_self) h') (fun v hv => hst v (List.mem_cons_of_mem _ hv)))
      · simp at hq
    · cases hq
  · cases hq
theorem X_inc {k : Nat} {d : Int} {q : PS} (hd : mi M pc = some (.iinc k d, 3)) (hq : ps_inc M.2.2.1 (pc + 3) L st k d = some q) (kk : X M R Z q.1 q.2.1 q.2.2 h c sl) : X M R Z pc L st h c sl := by
  intro p l e s m args below meth cd G base α0 D0 α H locs ls hC hb hD hR hS hL hst
  have hdec := mi_dec hd hC.2.2.2.2.2.2.2.2.2
  unfold ps_inc at hq
  split at hq
  · rename_i hkn
    split at hq
    · rename_i x hx
      simp at hq
      subst hq
      obtain ⟨j, hj⟩ := List.getElem?_of_mem (lvO_mem (α := α) hx)
      exact lv_iinc hC.1 hC.2.1 hdec hL.lv hj (by rw [kc_ok]) hkn rfl (fun ls' h' => kk p l e s m args below meth cd G base α0 D0 α H locs ls' hC hb hD hR hS (hL.st (x := .inl (x + kc d)) (fun n hn => by cases hn) h') hst)
    · cases hq
  · cases hq
theorem X_2 {i : Instr} {f : Int32 → Int32 → Int32} {q : PS} (hd : mi M pc = some (i, 1)) (hi : (i = .iadd ∧ f = fun x y => x + y) ∨ (i = .isub ∧ f = fun x y => x - y) ∨ (i = .imul ∧ f = fun x y => x * y) ∨ (i = .iand ∧ f = fun x y => x &&& y)) (hq : ps_2 (pc + 1) L st f = some q) (kk : X M R Z q.1 q.2.1 q.2.2 h c sl) : X M R Z pc L st h c sl := by
  intro p l e s m args below meth cd G base α0 D0 α H locs ls hC hb hD hR hS hL hst
  have hdec := mi_dec hd hC.2.2.2.2.2.2.2.2.2
  unfold ps_2 at hq
  split at hq
  · rename_i y x r
    simp at hq
    subst hq
    have hk := kk p l e s m args below meth cd G base α0 D0 α H locs ls hC hb hD hR hS hL (fun v hv => by
      rcases List.mem_cons.mp hv with rfl | hv
      · exact fun n hn => by cases hn
      · exact hst v (List.mem_cons_of_mem _ (List.mem_cons_of_mem _ hv)))
    rcases hi with ⟨rfl, rfl⟩ | ⟨rfl, rfl⟩ | ⟨rfl, rfl⟩ | ⟨rfl, rfl⟩
    · exact lv_iadd hC.1 hC.2.1 hdec hk
    · exact lv_isub hC.1 hC.2.1 hdec hk
    · exact lv_imul hC.1 hC.2.1 hdec hk
    · exact lv_iand hC.1 hC.2.1 hdec hk
  · cases hq
theorem X_push {v : AV} {n : Nat} {i : Instr} (hd : mi M pc = some (i, n)) (hv : ∀ n', v ≠ .inr (some n'))
    (hrow : ∀ {p : Program} {l : Launch} {e : Env} {s : State} {m : MethodId} {args : Array Value} {below : List Frame} {meth : Method} {cd : Code} {H : Heap} {locs : List Loc} {Q : State → Prop} {ls : Array Slot} {α : Nd → Nat} {rest : List Value}, p.tables.exec = Jvm.exec → cd.code = M.2.1 → decode M.2.1 pc = .ok (i, n) → W p l e R s m args below meth cd H locs c sl Q (F0 m (pc + n) ls (cv α v :: rest)) → W p l e R s m args below meth cd H locs c sl Q (F0 m pc ls rest))
    (kk : X M R Z (pc + n) L (v :: st) h c sl) : X M R Z pc L st h c sl := by
  intro p l e s m args below meth cd G base α0 D0 α H locs ls hC hb hD hR hS hL hst
  have hdec := mi_dec hd hC.2.2.2.2.2.2.2.2.2
  have hk := kk p l e s m args below meth cd G base α0 D0 α H locs ls hC hb hD hR hS hL (fun w hw => by
      rcases List.mem_cons.mp hw with rfl | hw
      · exact fun n' hn => absurd hn (hv n')
      · exact hst w hw)
  exact hrow hC.1 hC.2.1 hdec hk
theorem X_ps {i : Instr} {n : Nat} {q : PS} (hd : mi M pc = some (i, n)) (hq : ps M.2.2.1 i n pc L st = some q) (kk : X M R Z q.1 q.2.1 q.2.2 h c sl) : X M R Z pc L st h c sl := by
  unfold ps at hq
  split at hq
  · split at hq
    · rename_i k hn; subst hn; cases hq
      exact X_push (v := .inl (kc k)) hd (fun _ h => by cases h) (fun hx hb hdec k9 => lv_iconst hx hb hdec (kc_ok _) k9) kk
    · cases hq
  · split at hq
    · rename_i k hn; subst hn; cases hq
      exact X_push (v := .inl (kb k)) hd (fun _ h => by cases h) (fun hx hb hdec k9 => lv_bipush hx hb hdec (kb_ok _) k9) kk
    · cases hq
  · split at hq
    · rename_i k hn; subst hn; cases hq
      exact X_push (v := .inl (ks k)) hd (fun _ h => by cases h) (fun hx hb hdec k9 => lv_sipush hx hb hdec (ks_ok _) k9) kk
    · cases hq
  · split at hq
    · rename_i hn; subst hn; cases hq
      exact X_push (v := .inr none) hd (fun _ h => by cases h) (fun hx hb hdec k9 => lv_null hx hb hdec k9) kk
    · cases hq
  · split at hq
    · rename_i k hn; subst hn
      exact X_ld hd (Or.inl ⟨rfl, rfl, rfl⟩) rfl hq kk
    · cases hq
  · split at hq
    · rename_i k hn; subst hn
      exact X_ld hd (Or.inr (Or.inl ⟨k, rfl, rfl, rfl, rfl⟩)) rfl hq kk
    · cases hq
  · split at hq
    · rename_i k hn; subst hn
      exact X_ld hd (Or.inr (Or.inr (Or.inl ⟨rfl, rfl, rfl⟩))) rfl hq kk
    · cases hq
  · split at hq
    · rename_i k hn; subst hn
      exact X_ld hd (Or.inr (Or.inr (Or.inr ⟨k, rfl, rfl, rfl, rfl⟩))) rfl hq kk
    · cases hq
  · split at hq
    · rename_i k hn; subst hn
      exact X_st hd (Or.inl ⟨rfl, rfl, rfl⟩) rfl hq kk
    · cases hq
  · split at hq
    · rename_i k hn; subst hn
      exact X_st hd (Or.inr (Or.inl ⟨k, rfl, rfl, rfl, rfl⟩)) rfl hq kk
    · cases hq
  · split at hq
    · rename_i k hn; subst hn
      exact X_st hd (Or.inr (Or.inr (Or.inl ⟨rfl, rfl, rfl⟩))) rfl hq kk
    · cases hq
  · split at hq
    · rename_i k hn; subst hn
      exact X_st hd (Or.inr (Or.inr (Or.inr ⟨k, rfl, rfl, rfl, rfl⟩))) rfl hq kk
    · cases hq
  · split at hq
    · rename_i k d hn; subst hn
      exact X_inc hd hq kk
    · cases hq
  · split at hq
    · rename_i hn; subst hn
      exact X_2 hd (Or.inl ⟨rfl, rfl⟩) hq kk
    · cases hq
  · split at hq
    · rename_i hn; subst hn
      exact X_2 hd (Or.inr (Or.inl ⟨rfl, rfl⟩)) hq kk
    · cases hq
  · split at hq
    · rename_i hn; subst hn
      exact X_2 hd (Or.inr (Or.inr (Or.inl ⟨rfl, rfl⟩))) hq kk
    · cases hq
  · split at hq
    · rename_i hn; subst hn
      exact X_2 hd (Or.inr (Or.inr (Or.inr ⟨rfl, rfl⟩))) hq kk
    · cases hq
  · split at hq
    · rename_i hn; subst hn
      split at hq
      · rename_i v r
        cases hq
        intro p l e s m args below meth cd G base α0 D0 α H locs ls hC hb hD hR hS hL hst
        exact lv_dup hC.1 hC.2.1 (mi_dec hd hC.2.2.2.2.2.2.2.2.2) (cv_cat α v) (kk p l e s m args below meth cd G base α0 D0 α H locs ls hC hb hD hR hS hL (fun w hw => hst w (by simp only [List.mem_cons] at hw ⊢; rcases hw with hw | hw | hw <;> simp [hw])))
      · cases hq
    · cases hq
  · split at hq
    · rename_i hn; subst hn
      split at hq
      · rename_i v w r
        cases hq
        intro p l e s m args below meth cd G base α0 D0 α H locs ls hC hb hD hR hS hL hst
        exact lv_dup2_11 hC.1 hC.2.1 (mi_dec hd hC.2.2.2.2.2.2.2.2.2) (cv_cat α v) (cv_cat α w) (kk p l e s m args below meth cd G base α0 D0 α H locs ls hC hb hD hR hS hL (fun w hw => hst w (by simp only [List.mem_cons] at hw ⊢; rcases hw with hw | hw | hw | hw | hw <;> simp [hw])))
      · cases hq
    · cases hq
  · split at hq
    · rename_i off hn
      obtain ⟨hn, h0⟩ := hn
      subst hn
      cases hq
      intro p l e s m args below meth cd G base α0 D0 α H locs ls hC hb hD hR hS hL hst
      exact lv_goto hC.1 hC.2.1 (mi_dec hd hC.2.2.2.2.2.2.2.2.2) (tgt := ((pc : Int) + off).toNat) (by omega) (kk p l e s m args below meth cd G base α0 D0 α H locs ls hC hb hD hR hS hL hst)
    · cases hq
  · cases hq
end
def pr (M : MI) : Nat → Nat → List (Option AV) → List AV → Option PS
  | 0, pc, L, st => some (pc, L, st)
  | k + 1, pc, L, st => match mi M pc with
    | some (i, n) => (match ps M.2.2.1 i n pc L st with
      | some (pc', L', st') => pr M k pc' L' st'
      | none => none)
    | none => none
theorem X_run {M : MI} {R : Room} {Z : ZT} {h : AH} {c sl : Nat} (k : Nat) : ∀ {pc : Nat} {L : List (Option AV)} {st : List AV} {pc' : Nat} {L' : List (Option AV)} {st' : List AV}, pr M k pc L st = some (pc', L', st') → X M R Z pc' L' st' h c sl → X M R Z pc L st h c sl := by
  induction k with
  | zero =>
    intro pc L st pc' L' st' hq kk
    cases hq
    exact kk
  | succ k ih =>
    intro pc L st pc' L' st' hq kk
    unfold pr at hq
    split at hq
    · rename_i i n hd
      split at hq
      · rename_i a b d hp
        exact X_ps hd hp (ih hq kk)
      · cases hq
    · cases hq
