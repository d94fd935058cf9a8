/-! new int[4][4]; calls of own methods -/
def z4 : AE := .inl (0, 4, fun _ => 0)
/-- what new int[4][4] makes: the outer row n, the inner ones r 0 .. r 3 -/
def hgrid (h : AH) (n : Nd) (r : Nat → Nd) : AH := hset (hset (hset (hset (hset h (r 0) z4) (r 1) z4) (r 2) z4) (r 3) z4) n (.inr (.inl (6, 4, fun i => if i < 4 then some (r i) else none)))
theorem mj_outer (c : ClassId) (N h0 : Nat) : ∀ i : Nat, Jvm.Free.Multi.outerC c N h0 i = arrV c N (fun j => va_rf (if j < i then some (h0 + 1 + j) else none))
  | 0 => by
    show ({ cls := c, slots := Array.replicate N .null, vm := .none } : Cell) = _
    rw [arrV_new]
    refine congrArg (arrV c N) (funext fun j => ?_)
    simp [va_rf]
  | i + 1 => by
    show (Jvm.Free.Multi.outerC c N h0 i).setSlot i (.ref (h0 + 1 + i)) = _
    rw [mj_outer c N h0 i, arrV_store]
    refine congrArg (arrV c N) (funext fun j => ?_)
    by_cases e : j = i
    · subst e
      simp [updV, va_rf]
    · by_cases h : j < i
      · simp [updV, e, h, Nat.lt_succ_of_lt h]
      · simp [updV, e, h, show ¬ j < i + 1 by omega]
section
variable {M : MI} {R : Room} {Z : ZT} {pc : Nat} {L : List (Option AV)} {st : List AV} {h : AH} {c sl : Nat}
theorem X_grid {idx nx : Nat} {n : Nd} {r : Nat → Nd} (hd : mi M pc = some (.multianewarray idx 2, 4)) (hlk : Cond.classLink M.1.cls idx "[[I" ∈ lw_tbl) (hn : h n = none) (hr : ∀ i, i < 4 → h (r i) = none) (hrn : ∀ i, i < 4 → r i ≠ n) (hrr : ∀ i j, i < 4 → j < 4 → i ≠ j → r i ≠ r j) (h1 : c + 5 ≤ R.cells) (h2 : sl + 20 ≤ R.slots) (hx : pc + 4 = nx)
    (kk : X M R Z nx L (.inr (some n) :: st) (hgrid h n r) (c + 5) (sl + 20)) : X M R Z pc L (.inl 4 :: .inl 4 :: st) h c sl := by
  intro p l e s m args below meth cd G base α0 D0 α H locs ls hC hb hD hR hS hL hst
  subst hx
  have hTT := hC.2.2.2.2.2.1
  have hst' : ∀ v ∈ st, okv h v := fun v hv => hst v (List.mem_cons_of_mem _ (List.mem_cons_of_mem _ hv))
  have hKK := hC.2.2.2.2.2.2.2.2.1
  have hcy : s.vm.findClass "[I" = some (G.2.2 0) := (hKK.2 0 _ rfl).2
  have hcA6 : s.vm.findClass "[[I" = some (G.2.2 6) := (hKK.2 6 _ rfl).2
  intro T hT Xs
  obtain ⟨vm₁, cA, comp, -, fA, fC, hO, -, X', step⟩ := Xs.multianewarray2F (ty := .int) (own := M.1.cls) hC.1 hC.2.2.2.2.1 (hTT _ hlk rfl) (hTT _ (by decide +kernel : Cond.arrayOver (.array .int) ∈ lw_tbl) (by simp [okW])) (hTT _ (by decide +kernel : Cond.arrayClass .int ∈ lw_tbl) rfl) (g := F0 m pc ls (.int 4 :: .int 4 :: st.map (cv α))) rfl (by rw [hC.2.1]; exact mi_dec hd hC.2.2.2.2.2.2.2.2.2) rfl (n := 4) (k := 4) (by decide) (by decide) (by decide) (by decide) (by decide) rfl rfl h1 h2
  have ec : some (G.2.2 0) = some comp := hcy.symm.trans fC
  cases ec
  have ea : some (G.2.2 6) = some cA := hcA6.symm.trans fA
  cases ea
  have e4 : (4 : Int32).toNatClampNeg = 4 := by decide
  rw [e4] at X' step
  generalize hF : Jvm.Free.Multi.fill (T.setVm vm₁) (G.2.2 6) (G.2.2 0) 4 4 (defaultValue .int) 4 = F at X' step
  have hTh : (T.setVm vm₁).heap = H := hT
  obtain ⟨f1, f2, -, -⟩ := Jvm.Free.Multi.fill_facts (T.setVm vm₁) (G.2.2 6) (G.2.2 0) 4 4 (defaultValue .int) 4
  rw [hF, hTh] at f1 f2
  have hold : ∀ x : Nat, x < H.size → F.heap[x]? = H[x]? := fun x hx => by
    have := Jvm.Free.Multi.fill_old (T.setVm vm₁) (G.2.2 6) (G.2.2 0) 4 4 (defaultValue .int) (a := x) (by rw [hTh]; exact hx) 4
    rw [hF, hTh] at this
    exact this
  have hrow : ∀ j : Nat, j < 4 → F.heap[H.size + 1 + j]? = some (vp_cell (G.2.2 0) (4, .inl (fun _ => 0))) := fun j hj => by
    have := Jvm.Free.Multi.fill_inner (T.setVm vm₁) (G.2.2 6) (G.2.2 0) 4 4 (defaultValue .int) 4 j hj
    rw [hF, hTh] at this
    rw [this]
    rw [vp_cell_i, ← arrV_new]
    rfl
  have hbz : base ≤ H.size := Nat.le_trans hb hS.1
  have hR0 := hR.kept (H1 := F.heap) hold
  have lt0 : ∀ n', h n' ≠ none → α n' < H.size := fun n' h' => hR.lt h'
  -- the four rows
  have g0 := hr 0 (by omega)
  have g1 := hr 1 (by omega)
  have g2 := hr 2 (by omega)
  have g3 := hr 3 (by omega)
  have at4 : ∀ (β : Nd → Nat) (j : Nat), j < 4 → mj_at G β s (H.size + 1 + j) z4 F.heap := fun β j hj => Or.inr ⟨(by intro z; cases z), hrow j hj⟩
  have hR1 := hR0.add (n := r 0) (e := z4) (a := H.size + 1 + 0) g0 (fun n' h' => by have := lt0 n' h'; omega) (by omega) (at4 _ 0 (by omega)) trivial
  have k1 : hset h (r 0) z4 (r 1) = none := by rw [hset_ne _ _ (hrr 1 0 (by omega) (by omega) (by omega))]; exact g1
  have lt1 : ∀ n', hset h (r 0) z4 n' ≠ none → adr α (r 0) (H.size + 1 + 0) n' ≤ H.size + 1 + 0 := fun n' h' => by
    by_cases q : n' = r 0
    · rw [q, al_eq]; exact Nat.le_refl _
    · rw [hset_ne _ _ q] at h'
      rw [al_ne _ _ q]
      have := lt0 n' h'
      omega
  have hR2 := hR1.add (n := r 1) (e := z4) (a := H.size + 1 + 1) k1 (fun n' h' => by have := lt1 n' h'; omega) (by omega) (at4 _ 1 (by omega)) trivial
  have k2 : hset (hset h (r 0) z4) (r 1) z4 (r 2) = none := by
    rw [hset_ne _ _ (hrr 2 1 (by omega) (by omega) (by omega)), hset_ne _ _ (hrr 2 0 (by omega) (by omega) (by omega))]; exact g2
  have lt2 : ∀ n', hset (hset h (r 0) z4) (r 1) z4 n' ≠ none → adr (adr α (r 0) (H.size + 1 + 0)) (r 1) (H.size + 1 + 1) n' ≤ H.size + 1 + 1 := fun n' h' => by
    by_cases q : n' = r 1
    · rw [q, al_eq]; exact Nat.le_refl _
    · rw [hset_ne _ _ q] at h'
      rw [al_ne _ _ q]
      have := lt1 n' h'
      omega
  have hR3 := hR2.add (n := r 2) (e := z4) (a := H.size + 1 + 2) k2 (fun n' h' => by have := lt2 n' h'; omega) (by omega) (at4 _ 2 (by omega)) trivial
  have k3 : hset (hset (hset h (r 0) z4) (r 1) z4) (r 2) z4 (r 3) = none := by
    rw [hset_ne _ _ (hrr 3 2 (by omega) (by omega) (by omega)), hset_ne _ _ (hrr 3 1 (by omega) (by omega) (by omega)), hset_ne _ _ (hrr 3 0 (by omega) (by omega) (by omega))]; exact g3
  have lt3 : ∀ n', hset (hset (hset h (r 0) z4) (r 1) z4) (r 2) z4 n' ≠ none → adr (adr (adr α (r 0) (H.size + 1 + 0)) (r 1) (H.size + 1 + 1)) (r 2) (H.size + 1 + 2) n' ≤ H.size + 1 + 2 := fun n' h' => by
    by_cases q : n' = r 2
    · rw [q, al_eq]; exact Nat.le_refl _
    · rw [hset_ne _ _ q] at h'
      rw [al_ne _ _ q]
      have := lt2 n' h'
      omega
  have hR4 := hR3.add (n := r 3) (e := z4) (a := H.size + 1 + 3) k3 (fun n' h' => by have := lt3 n' h'; omega) (by omega) (at4 _ 3 (by omega)) trivial
  have k4 : hset (hset (hset (hset h (r 0) z4) (r 1) z4) (r 2) z4) (r 3) z4 n = none := by
    rw [hset_ne _ _ (hrn 3 (by omega)).symm, hset_ne _ _ (hrn 2 (by omega)).symm, hset_ne _ _ (hrn 1 (by omega)).symm, hset_ne _ _ (hrn 0 (by omega)).symm]; exact hn
  generalize hβ : adr (adr (adr (adr α (r 0) (H.size + 1 + 0)) (r 1) (H.size + 1 + 1)) (r 2) (H.size + 1 + 2)) (r 3) (H.size + 1 + 3) = β at hR4
  have hβr : ∀ i, i < 4 → β (r i) = H.size + 1 + i := fun i hi => by
    rw [← hβ]
    rcases (show i = 0 ∨ i = 1 ∨ i = 2 ∨ i = 3 by omega) with rfl | rfl | rfl | rfl
    · rw [al_ne _ _ (hrr 0 3 (by omega) (by omega) (by omega)), al_ne _ _ (hrr 0 2 (by omega) (by omega) (by omega)), al_ne _ _ (hrr 0 1 (by omega) (by omega) (by omega)), al_eq]
    · rw [al_ne _ _ (hrr 1 3 (by omega) (by omega) (by omega)), al_ne _ _ (hrr 1 2 (by omega) (by omega) (by omega)), al_eq]
    · rw [al_ne _ _ (hrr 2 3 (by omega) (by omega) (by omega)), al_eq]
    · rw [al_eq]
  have hβo : ∀ n', h n' ≠ none → β n' = α n' := fun n' h' => by
    rw [← hβ, al_ne _ _ (fun q => h' (by rw [q]; exact g3)), al_ne _ _ (fun q => h' (by rw [q]; exact g2)), al_ne _ _ (fun q => h' (by rw [q]; exact g1)), al_ne _ _ (fun q => h' (by rw [q]; exact g0))]
  have hne : ∀ n', hset (hset (hset (hset h (r 0) z4) (r 1) z4) (r 2) z4) (r 3) z4 n' ≠ none → β n' ≠ H.size := fun n' h' => by
    by_cases q3 : n' = r 3
    · rw [q3, hβr 3 (by omega)]; omega
    by_cases q2 : n' = r 2
    · rw [q2, hβr 2 (by omega)]; omega
    by_cases q1 : n' = r 1
    · rw [q1, hβr 1 (by omega)]; omega
    by_cases q0 : n' = r 0
    · rw [q0, hβr 0 (by omega)]; omega
    rw [hset_ne _ _ q3, hset_ne _ _ q2, hset_ne _ _ q1, hset_ne _ _ q0] at h'
    rw [hβo n' h']
    have := lt0 n' h'
    omega
  have hat : mj_at G (adr β n H.size) s H.size (.inr (.inl (6, 4, fun i => if i < 4 then some (r i) else none))) F.heap := by
    show F.heap[H.size]? = some (vp_cell _ _)
    rw [f2, mj_outer, vp_cell_q]
    congr 2
    funext j
    by_cases hj : j < 4
    · simp only [hj, if_true, Option.map_some]
      rw [al_ne _ _ (hrn j hj), hβr j hj]
    · simp [hj]
  have hR5 := hR4.add (n := n) (a := H.size) k4 hne hbz hat (fun i n' hi => by
    by_cases hj : i < 4
    · simp only [hj, if_true] at hi
      cases hi
      rw [hset_ne _ _ (hrn i hj)]
      rcases (show i = 0 ∨ i = 1 ∨ i = 2 ∨ i = 3 by omega) with rfl | rfl | rfl | rfl
      · exact hset_dom (hset_dom (hset_dom (by rw [hset_eq]; simp)))
      · exact hset_dom (hset_dom (by rw [hset_eq]; simp))
      · exact hset_dom (by rw [hset_eq]; simp)
      · rw [hset_eq]; simp
    · simp [hj] at hi)
  have dom5 : ∀ n', h n' ≠ none → hgrid h n r n' ≠ none := fun n' h' => hset_dom (hset_dom (hset_dom (hset_dom (hset_dom h'))))
  have hγo : ∀ n', h n' ≠ none → adr β n H.size n' = α n' := fun n' h' => by
    rw [al_ne _ _ (fun q => h' (by rw [q]; exact hn)), hβo n' h']
  have hcv : ∀ v, okv h v → cv (adr β n H.size) v = cv α v := fun v hv => by
    rcases v with x | _ | n'
    · rfl
    · rfl
    · show Value.ref _ = Value.ref _
      rw [hγo n' (hv n' rfl)]
  have hk := kk p l e s m args below meth cd G base α0 D0 (adr β n H.size) F.heap locs ls hC hb (fun n' h' => ⟨dom5 n' (hD n' h').1, (hγo n' (hD n' h').1).trans (hD n' h').2⟩) hR5
    (hS.push (by rw [f1]; omega) hold) ⟨hL.1, hL.2.1, fun i v hi => by
      obtain ⟨a1, a2⟩ := hL.2.2 i v hi
      exact ⟨by rw [hcv v a2]; exact a1, fun n' hn' => dom5 n' (a2 n' hn')⟩⟩ (fun v hv => by
      rcases List.mem_cons.mp hv with rfl | hv
      · intro n' hn'
        cases hn'
        show hset _ _ _ _ ≠ none
        rw [hset_eq]
        simp
      · exact fun n' hn' => dom5 n' (hst' v hv n' hn'))
  rw [List.map_cons, show st.map (cv (adr β n H.size)) = st.map (cv α) from List.map_congr_left (fun v hv => hcv v (hst' v hv))] at hk
  rw [show cv (adr β n H.size) (.inr (some n)) = .ref H.size by show Value.ref _ = _; rw [al_eq]] at hk
  obtain ⟨t, a1, b1⟩ := hk F rfl X'
  refine ⟨t, step t ?_, b1⟩
  have e : T.heap.size = H.size := by rw [hT]
  rw [e]
  exact a1
end
/-- what a call asks of the callee alone -/
def mj_ok (M : MI) (k : Nat) : Prop := plainName M.1.cls = true ∧ (∀ q ∈ M.2.2.2.2.2.2, decode M.2.1 q.1 = .ok (q.2.1, q.2.2)) ∧ Cond.code M.1 M.2.1 M.2.2.1 M.2.2.2.1 ∈ lw_tbl ∧ Cond.initialized M.1.cls ∈ lw_tbl ∧ (M.1.cls ≠ "java/lang/invoke/MethodHandle" ∧ M.1.cls ≠ "java/lang/invoke/VarHandle") ∧ (parseMethodDescriptor M.1.desc).map (fun d => d.parameters.length) = some k
def rmo (M : MI) (mc ms : Nat) : Room := { frames := M.2.2.2.2.1, cells := mc, slots := ms, locals := M.2.2.2.2.2.1 }
/-- the locals at a method's start -/
def ini (M : MI) (vs : List AV) : List (Option AV) := vs.map some ++ List.replicate (M.2.2.1 - vs.length) none
def mj_P (G : GG) (base : Nat) (α : Nd → Nat) (h : AH) (vs : List AV) : Array Value → State → Prop := fun a U =>
  a = (vs.map (cv α)).toArray ∧ (∀ a', mj_T U a') ∧ mj_K G U ∧ mj_R G base α h U U.heap ∧ base ≤ U.heap.size ∧ ∀ v ∈ vs, okv h v
theorem mj_P.blind {G : GG} {base : Nat} {α : Nd → Nat} {h : AH} {vs : List AV} : FrameBlind (mj_P G base α h vs) := by
  intro a U g mk q
  obtain ⟨q1, q2, q3, q4, q5, q6⟩ := q
  exact ⟨q1, fun a' => (q2 #[]).warm (U := U.calling g mk a) (State.WarmedH.refl U), q3.moved (U := U.calling g mk a) (Vm.Alike.refl U.vm), q4.moved (U := U.calling g mk a) (Vm.Alike.refl U.vm), q5, q6⟩
theorem lg_len (α : Nd → Nat) (vs : List AV) : (lg_sl (vs.map (cv α))).length = vs.length := by
  unfold lg_sl
  induction vs with
  | nil => rfl
  | cons v r ih =>
    rw [List.map_cons, List.flatMap_cons, if_neg (by rw [cv_cat]; decide), List.length_append, ih]
    simp
    omega
theorem lv_args_mem (α : Nd → Nat) : ∀ (vs : List AV) (k i : Nat) (v : AV), vs[i]? = some v → (k + i, cv α v) ∈ lv_args k (vs.map (cv α))
  | [], _, _, _, h => by simp at h
  | w :: r, k, 0, v, h => by
    simp at h
    subst h
    exact List.mem_cons_self
  | w :: r, k, i + 1, v, h => by
    have h2 : r[i]? = some v := by simpa using h
    have := lv_args_mem α r (k + 1) i v h2
    rw [List.map_cons]
    unfold lv_args
    rw [if_neg (by rw [cv_cat]; decide)]
    refine List.mem_cons_of_mem _ ?_
    rw [show k + (i + 1) = k + 1 + i by omega]
    exact this
theorem mj_met {l : Launch} {M : MI} {k mc ms : Nat} {Q : Option AV → AH → Prop} {G : GG} {base : Nat} {α : Nd → Nat} {h : AH} {vs : List AV} (hM : mj_ok M k) (hvs : vs.length ≤ M.2.2.1) (hX : X M (rmo M mc ms) (Zm Q mc ms) 0 (ini M vs) [] h 0 0) :
    Met l M.1 [Cond.code M.1 M.2.1 M.2.2.1 M.2.2.2.1] (rmo M mc ms) (mj_P G base α h vs) (mj_Q Q G base α (fun n => h n ≠ none)) mc ms (fun q => base ≤ q) := by
  refine Met.ofW (cc := M.2.1) (maxL := M.2.2.1) (ret := M.2.2.2.1) hM.1 rfl ?_
  intro p e s m args below meth c s₁ B hml hv
  obtain ⟨rfl, q2, q3, q4, q5, q6⟩ := hv
  have hl := lv_entry (vs.map (cv α)) (n := M.2.2.1) (by rw [lg_len]; exact hvs)
  rw [lg_entry_eq]
  generalize (lg_sl (vs.map (cv α)) ++ List.replicate (M.2.2.1 - (lg_sl (vs.map (cv α))).length) Slot.unset).toArray = ls at hl ⊢
  refine hX p l e s m _ below meth c G base α (fun n => h n ≠ none) α s.heap [] ls ⟨B.exec, B.bytes, B.returns, hml, findClass_of_methodNamed B.named, q2 _, B.notSynchronized, (name_of_methodNamed B.named B.method).1, q3, hM.2.1⟩ q5 (fun n hn => ⟨hn, rfl⟩) q4 va_S.rf ⟨hl.1, hl.2.1, fun i v hi => ?_⟩ (fun v hv => by cases hv)
  have hi2 : vs[i]? = some v := by
    unfold ini at hi
    by_cases hlt : i < vs.length
    · rw [List.getElem?_append_left (by simpa using hlt), List.getElem?_map] at hi
      cases hh : vs[i]? with
      | none => rw [hh] at hi; simp at hi
      | some w => rw [hh] at hi; simp at hi; rw [hi]
    · rw [List.getElem?_append_right (by simpa using hlt)] at hi
      have := List.eq_of_mem_replicate (List.mem_of_getElem? hi)
      cases this
  refine ⟨?_, q6 v (List.mem_of_getElem? hi2)⟩
  have := hl.2.2 _ (lv_args_mem α vs 0 i v hi2)
  simpa using this
def mj_V (own : String) (idx : Nat) (M : MI) (ci : Nat) : Prop := Cond.methodLink own idx M.1 ∈ lw_tbl ∧ Cond.instanceMethod M.1 ∈ lw_tbl ∧ Cond.selects M.1.cls M.1 M.1 ∈ lw_tbl ∧ (mj_cl[ci]?).map (fun q => q.1) = some M.1.cls
def mj_St (own : String) (idx : Nat) (M : MI) : Prop := (Cond.methodLink own idx M.1 ∈ lw_tbl ∨ ∃ host, Cond.methodLinkNest own idx M.1 host ∈ lw_tbl) ∧ Cond.static M.1 ∈ lw_tbl
def mj_I (own : String) (idx : Nat) (M : MI) : Prop := (Cond.methodLink own idx M.1 ∈ lw_tbl ∨ ∃ host, Cond.methodLinkNest own idx M.1 host ∈ lw_tbl) ∧ Cond.instanceMethod M.1 ∈ lw_tbl ∧ M.1.name = "<init>" ∧ M.2.2.2.1 = none
section
variable {M : MI} {R : Room} {Z : ZT} {pc : Nat} {L : List (Option AV)} {st : List AV} {h : AH} {c sl : Nat}
/-- behind a call -/
theorem X_back {p : Program} {l : Launch} {e : Env} {s : State} {m : MethodId} {args : Array Value} {below : List Frame} {meth : Method} {cd : Code} {G : GG} {base : Nat} {α0 : Nd → Nat} {D0 : Nd → Prop} {α : Nd → Nat} {H : Heap} {locs : List Loc} {ls : Array Slot} {mc ms : Nat} {st0 : List Value} {nx : Nat} {a : Array Value}
    (hC : mj_C M p s m args meth cd G) (hb : base ≤ s.heap.size) (hD : ∀ n, D0 n → h n ≠ none ∧ α n = α0 n) (hS : mj_S base s.heap H locs) (hL : mj_L α h M.2.2.1 L ls) (hst : ∀ v ∈ st, okv h v) (hx : pc + 3 = nx)
    (hr : va_Run p l e R s m args below meth cd H locs c sl mc ms (F0 m pc ls st0) (st.map (cv α)) (mj_Q (fun r h' => X M R Z nx L (r.toList ++ st) h' (c + mc) (sl + ms)) G base α (fun n => h n ≠ none) a) (fun q => base ≤ q)) :
    W p l e R s m args below meth cd H locs c sl (Z G base α0 D0 below args s) (F0 m pc ls st0) := by
  subst hx
  intro T hT X
  obtain ⟨v, st₀, t, T', L', h0, X', hL', e1, e2, ⟨α', h', r, hv, hD', hR', hrv, hkk, hz, hk⟩, stp⟩ := hr T hT X
  cases hv
  rw [h0] at hz hk
  have hcv : ∀ v, okv h v → cv α' v = cv α v := fun v hv => by
    rcases v with x | _ | n'
    · rfl
    · rfl
    · show Value.ref _ = Value.ref _
      rw [(hD' n' (hv n' rfl)).2]
  have hokv : ∀ v, okv h v → okv h' v := fun v hv n' hn' => (hD' n' (hv n' hn')).1
  have hal : t.vm.Alike s.vm := by
    have := X'.warmed.alike
    rw [e2] at this
    exact this.symm
  have hg := hkk p l e s m args below meth cd G base α0 D0 α' T'.heap (locs ++ L') ls hC hb (fun n hn => ⟨(hD' n (hD n hn).1).1, ((hD' n (hD n hn).1).2).trans (hD n hn).2⟩) (by rw [e1]; exact hR'.moved hal)
    ⟨Nat.le_trans hS.1 (by rw [e1]; exact hz), fun q h1 h2 => by rw [e1, hk q (Nat.lt_of_lt_of_le h1 hS.1) h2]; exact hS.2.1 q h1 h2, fun q hq => by
      rcases List.mem_append.mp hq with h | h
      · exact hS.2.2 q h
      · exact hL' q h⟩
    ⟨hL.1, hL.2.1, fun i v hi => by
      obtain ⟨a1, a2⟩ := hL.2.2 i v hi
      exact ⟨by rw [hcv v a2]; exact a1, hokv v a2⟩⟩
    (fun v hv => by
      rcases List.mem_append.mp hv with hv | hv
      · cases r with
        | none => simp at hv
        | some w =>
          simp at hv
          subst hv
          exact hrv v rfl
      · exact hokv v (hst v hv))
  obtain ⟨t2, a1, b1⟩ := hg T' rfl X'
  refine ⟨t2, stp t2 ?_, b1⟩
  have es : (r.map (cv α')).toList ++ st.map (cv α) = (r.toList ++ st).map (cv α') := by
    rw [List.map_append]
    congr 1
    · cases r <;> rfl
    · exact List.map_congr_left (fun v hv => (hcv v (hst v hv)).symm)
  show Steps p.tables e below (T'.setTop { (F0 m pc ls st0) with pc := pc + 3, stack := (r.map (cv α')).toList ++ st.map (cv α) }) t2
  rw [es]
  exact a1
theorem mj_words {s : State} {args : Array Value} {M' : MI} {k : Nat} (hT : mj_T s args) (hM : mj_ok M' k) : ∀ w ∈ [Cond.code M'.1 M'.2.1 M'.2.2.1 M'.2.2.2.1], ∀ (a' : Array Value) (U : State), s.WarmedH U.vm → w.before a' U = true := by
  intro w hw a' U hW
  rw [List.mem_singleton.mp hw]
  exact okW_warm (by simp [okW, goodWord, Cond.onTables, Cond.keeps, Cond.steady]) hW (hT _ hM.2.2.1 (by simp [okW, goodWord, Cond.onTables, Cond.keeps, Cond.steady]))
theorem mj_pre {s : State} {args : Array Value} {G : GG} {base : Nat} {α : Nd → Nat} {H : Heap} {locs : List Loc} {vs : List AV} (hT : mj_T s args) (hK : mj_K G s) (hR : mj_R G base α h s H) (hb : base ≤ s.heap.size) (hS : mj_S base s.heap H locs) (hv : ∀ v ∈ vs, okv h v) : ∀ U : State, U.heap = H → s.WarmedH U.vm → mj_P G base α h vs (vs.map (cv α)).toArray U := by
  intro U hU hW
  refine ⟨rfl, fun a' => hT.warm hW, hK.moved hW.alike, by rw [hU]; exact hR.moved hW.alike, by rw [hU]; exact Nat.le_trans hb hS.1, hv⟩
theorem X_callV {idx nx ci k mc ms : Nat} {n : Nd} {V : Nat → AV} {M' : MI} {vs : List AV} {st0 : List AV} (hd : mi M pc = some (.invokevirtual idx, 3)) (hM : mj_ok M' k) (hw : mj_V M.1.cls idx M' ci) (hn : h n = some (.inr (.inr (ci, V)))) (hst0 : vs.reverse ++ .inr (some n) :: st = st0) (hk : vs.length = k) (hkl : k + 1 ≤ M'.2.2.1) (hf : M'.2.2.2.2.1 + 1 ≤ R.frames) (hlo : 19 + M'.2.2.1 + M'.2.2.2.2.2.1 ≤ R.locals) (hs : st.length ≤ 8) (h1 : c + mc ≤ R.cells) (h2 : sl + ms ≤ R.slots) (hx : pc + 3 = nx)
    (hX : X M' (rmo M' mc ms) (Zm (fun r h' => X M R Z nx L (r.toList ++ st) h' (c + mc) (sl + ms)) mc ms) 0 (ini M' (.inr (some n) :: vs)) [] h 0 0) : X M R Z pc L st0 h c sl := by
  intro p l e s m args below meth cd G base α0 D0 α H locs ls hC hb hD hR hS hL hst
  subst hst0
  have hT := hC.2.2.2.2.2.1
  have hKK := hC.2.2.2.2.2.2.2.2.1
  have hvv : ∀ v ∈ (.inr (some n) :: vs : List AV), okv h v := fun v hv => by
    rcases List.mem_cons.mp hv with rfl | hv
    · intro n' hn'; cases hn'; rw [hn]; simp
    · exact hst v (List.mem_append_left _ (List.mem_reverse.mpr hv))
  have hss : ∀ v ∈ st, okv h v := fun v hv => hst v (List.mem_append_right _ (List.mem_cons_of_mem _ hv))
  obtain ⟨-, ⟨r', hr', cellB, g1, g2, g3, -⟩, -⟩ := hR.1 n _ hn
  have hcn : r'.1 = M'.1.cls := by
    have := hw.2.2.2
    rw [hr'] at this
    exact Option.some.inj this
  have hmet := mj_met (l := l) (G := G) (base := base) (α := α) hM (by simp; omega) hX
  refine X_back (mc := mc) (ms := ms) (a := ((.inr (some n) :: vs : List AV).map (cv α)).toArray) hC hb hD hS hL hss hx ?_
  refine va_runV (Ts := []) (As := vs.map (cv α)) (b := α n) (C := M'.1.cls) (n := k) (bytes := M'.2.1) (maxL := M'.2.2.1) (ret := M'.2.2.2.1) ⟨hC.1, hC.2.1, hC.2.2.2.1, hC.2.2.2.2.1, fun w hw => by cases hw⟩ hmet ⟨⟨rfl, rfl, hf, ?_, mj_words hT hM, List.mem_cons_self, hT _ hM.2.2.1 (by simp [okW, goodWord, Cond.onTables, Cond.keeps, Cond.steady]), hT _ hM.2.2.2.1 rfl, hM.2.2.2.2.1, ?_, hT _ hw.1 rfl⟩, hT _ hw.2.1 rfl, hT _ hw.2.2.1 rfl⟩ ⟨mj_P.blind, ⟨cellB, g1, by rw [g3]; rfl, ?_⟩, ?_⟩ rfl (by rw [List.length_map]; exact hk) hL.1 ?_ ?_ (mi_dec hd hC.2.2.2.2.2.2.2.2.2) ⟨h1, h2⟩
  · show 8 + (M'.2.2.1 + 11) + M'.2.2.2.2.2.1 ≤ R.locals
    omega
  · intro sig hsig
    have := hM.2.2.2.2.2
    rw [hsig] at this
    exact (Option.some.inj this).symm
  · rw [g2, ← hcn]
    exact (hKK.1 ci r' hr').2.1
  · exact mj_pre hT hKK hR hb hS hvv
  · rw [List.map_append, List.map_reverse, List.map_cons]
    rfl
  · show 2 * 0 + _ ≤ 8
    rw [cat_sum]
    omega
theorem X_callS {idx nx k mc ms : Nat} {M' : MI} {vs : List AV} {st0 : List AV} (hd : mi M pc = some (.invokestatic idx, 3)) (hM : mj_ok M' k) (hw : mj_St M.1.cls idx M') (hst0 : vs.reverse ++ st = st0) (hk : vs.length = k) (hkl : k ≤ M'.2.2.1) (hf : M'.2.2.2.2.1 + 1 ≤ R.frames) (hlo : 19 + M'.2.2.1 + M'.2.2.2.2.2.1 ≤ R.locals) (hs : st.length ≤ 8) (h1 : c + mc ≤ R.cells) (h2 : sl + ms ≤ R.slots) (hx : pc + 3 = nx)
    (hX : X M' (rmo M' mc ms) (Zm (fun r h' => X M R Z nx L (r.toList ++ st) h' (c + mc) (sl + ms)) mc ms) 0 (ini M' vs) [] h 0 0) : X M R Z pc L st0 h c sl := by
  intro p l e s m args below meth cd G base α0 D0 α H locs ls hC hb hD hR hS hL hst
  subst hst0
  have hT := hC.2.2.2.2.2.1
  have hKK := hC.2.2.2.2.2.2.2.2.1
  have hvv : ∀ v ∈ vs, okv h v := fun v hv => hst v (List.mem_append_left _ (List.mem_reverse.mpr hv))
  have hss : ∀ v ∈ st, okv h v := fun v hv => hst v (List.mem_append_right _ hv)
  have hmet := mj_met (l := l) (G := G) (base := base) (α := α) hM (by omega) hX
  have hlen : ∀ sig, parseMethodDescriptor M'.1.desc = some sig → k = sig.parameters.length := by
    intro sig hsig
    have := hM.2.2.2.2.2
    rw [hsig] at this
    exact (Option.some.inj this).symm
  have hlo2 : 8 + (M'.2.2.1 + 11) + (rmo M' mc ms).locals ≤ R.locals := by
    show 8 + (M'.2.2.1 + 11) + M'.2.2.2.2.2.1 ≤ R.locals
    omega
  have hstk : (F0 m pc ls ((vs.reverse ++ st).map (cv α))).stack = (vs.map (cv α)).reverse ++ st.map (cv α) := by
    show (vs.reverse ++ st).map (cv α) = _
    rw [List.map_append, List.map_reverse]
  have hW8 : 2 * (F0 m pc ls ((vs.reverse ++ st).map (cv α))).monitorRoom + ((st.map (cv α)).map fun v => v.category).sum ≤ 8 := by
    show 2 * 0 + _ ≤ 8
    rw [cat_sum]
    omega
  have hcd := hT _ hM.2.2.1 (by simp [okW, goodWord, Cond.onTables, Cond.keeps, Cond.steady])
  refine X_back (mc := mc) (ms := ms) (a := (vs.map (cv α)).toArray) hC hb hD hS hL hss hx ?_
  rcases hw with ⟨hl | ⟨host, hl⟩, hstat⟩
  · exact va_runS (Ts := []) (As := vs.map (cv α)) (n := k) (bytes := M'.2.1) (maxL := M'.2.2.1) (ret := M'.2.2.2.1) ⟨hC.1, hC.2.1, hC.2.2.2.1, hC.2.2.2.2.1, fun w hw => by cases hw⟩ hmet ⟨⟨rfl, rfl, hf, hlo2, mj_words hT hM, List.mem_cons_self, hcd, hT _ hM.2.2.2.1 rfl, hM.2.2.2.2.1, hlen, hT _ hl rfl⟩, hT _ hstat rfl⟩ ⟨mj_P.blind, mj_pre hT hKK hR hb hS hvv⟩ rfl (by rw [List.length_map]; exact hk) hL.1 hstk hW8 (mi_dec hd hC.2.2.2.2.2.2.2.2.2) ⟨h1, h2⟩
  · exact va_runSN (Ts := []) (As := vs.map (cv α)) (n := k) (bytes := M'.2.1) (maxL := M'.2.2.1) (ret := M'.2.2.2.1) (host := host) ⟨hC.1, hC.2.1, hC.2.2.2.1, hC.2.2.2.2.1, fun w hw => by cases hw⟩ hmet ⟨⟨⟨rfl, rfl, hf, hlo2, mj_words hT hM, List.mem_cons_self⟩, hcd, hT _ hM.2.2.2.1 rfl, hM.2.2.2.2.1, hlen, hT _ hl (by simp [okW])⟩, hT _ hstat rfl, trivial⟩ ⟨mj_P.blind, mj_pre hT hKK hR hb hS hvv⟩ rfl (by rw [List.length_map]; exact hk) hL.1 hstk hW8 (mi_dec hd hC.2.2.2.2.2.2.2.2.2) ⟨h1, h2⟩
theorem X_callI {idx nx k mc ms : Nat} {n : Nd} {M' : MI} {vs : List AV} {st0 : List AV} (hd : mi M pc = some (.invokespecial idx, 3)) (hM : mj_ok M' k) (hw : mj_I M.1.cls idx M') (hst0 : vs.reverse ++ .inr (some n) :: st = st0) (hk : vs.length = k) (hkl : k + 1 ≤ M'.2.2.1) (hf : M'.2.2.2.2.1 + 1 ≤ R.frames) (hlo : 19 + M'.2.2.1 + M'.2.2.2.2.2.1 ≤ R.locals) (hs : st.length ≤ 8) (h1 : c + mc ≤ R.cells) (h2 : sl + ms ≤ R.slots) (hx : pc + 3 = nx)
    (hX : X M' (rmo M' mc ms) (Zm (fun r h' => X M R Z nx L (r.toList ++ st) h' (c + mc) (sl + ms)) mc ms) 0 (ini M' (.inr (some n) :: vs)) [] h 0 0) : X M R Z pc L st0 h c sl := by
  intro p l e s m args below meth cd G base α0 D0 α H locs ls hC hb hD hR hS hL hst
  subst hst0
  have hT := hC.2.2.2.2.2.1
  have hKK := hC.2.2.2.2.2.2.2.2.1
  have hvv : ∀ v ∈ (.inr (some n) :: vs : List AV), okv h v := fun v hv => by
    rcases List.mem_cons.mp hv with rfl | hv
    · exact hst _ (List.mem_append_right _ List.mem_cons_self)
    · exact hst v (List.mem_append_left _ (List.mem_reverse.mpr hv))
  have hss : ∀ v ∈ st, okv h v := fun v hv => hst v (List.mem_append_right _ (List.mem_cons_of_mem _ hv))
  have hmet := mj_met (l := l) (G := G) (base := base) (α := α) hM (by simp; omega) hX
  have hlen : ∀ sig, parseMethodDescriptor M'.1.desc = some sig → k = sig.parameters.length := by
    intro sig hsig
    have := hM.2.2.2.2.2
    rw [hsig] at this
    exact (Option.some.inj this).symm
  have hlo2 : 8 + (M'.2.2.1 + 11) + (rmo M' mc ms).locals ≤ R.locals := by
    show 8 + (M'.2.2.1 + 11) + M'.2.2.2.2.2.1 ≤ R.locals
    omega
  have hstk : (F0 m pc ls ((vs.reverse ++ .inr (some n) :: st).map (cv α))).stack = (vs.map (cv α)).reverse ++ .ref (α n) :: st.map (cv α) := by
    show (vs.reverse ++ .inr (some n) :: st).map (cv α) = _
    rw [List.map_append, List.map_reverse]
    rfl
  have hW8 : 2 * (F0 m pc ls ((vs.reverse ++ .inr (some n) :: st).map (cv α))).monitorRoom + ((st.map (cv α)).map fun v => v.category).sum ≤ 8 := by
    show 2 * 0 + _ ≤ 8
    rw [cat_sum]
    omega
  have hcd := hT _ hM.2.2.1 (by simp [okW, goodWord, Cond.onTables, Cond.keeps, Cond.steady])
  refine X_back (mc := mc) (ms := ms) (a := ((.inr (some n) :: vs : List AV).map (cv α)).toArray) hC hb hD hS hL hss hx ?_
  obtain ⟨hl, hin, hname, hret⟩ := hw
  have hw1 := mj_words hT hM
  rw [hret] at hmet hcd hw1
  rcases hl with hl | ⟨host, hl⟩
  · exact va_runI (Ts := []) (As := vs.map (cv α)) (b := α n) (n := k) (bytes := M'.2.1) (maxL := M'.2.2.1) ⟨hC.1, hC.2.1, hC.2.2.2.1, hC.2.2.2.2.1, fun w hw => by cases hw⟩ hmet ⟨⟨rfl, rfl, hf, hlo2, hw1, List.mem_cons_self, hcd, hT _ hM.2.2.2.1 rfl, hM.2.2.2.2.1, hlen, hT _ hl rfl⟩, hname, hT _ hin rfl⟩ ⟨mj_P.blind, mj_pre hT hKK hR hb hS hvv⟩ rfl (by rw [List.length_map]; exact hk) hL.1 hstk hW8 (mi_dec hd hC.2.2.2.2.2.2.2.2.2) ⟨h1, h2⟩
  · exact va_runIN (Ts := []) (As := vs.map (cv α)) (b := α n) (n := k) (bytes := M'.2.1) (maxL := M'.2.2.1) (host := host) ⟨hC.1, hC.2.1, hC.2.2.2.1, hC.2.2.2.2.1, fun w hw => by cases hw⟩ hmet ⟨⟨⟨rfl, rfl, hf, hlo2, hw1, List.mem_cons_self⟩, hcd, hT _ hM.2.2.2.1 rfl, hM.2.2.2.2.1, hlen, hT _ hl (by simp [okW])⟩, hname, hT _ hin rfl⟩ ⟨mj_P.blind, mj_pre hT hKK hR hb hS hvv⟩ rfl (by rw [List.length_map]; exact hk) hL.1 hstk hW8 (mi_dec hd hC.2.2.2.2.2.2.2.2.2) ⟨h1, h2⟩
end
