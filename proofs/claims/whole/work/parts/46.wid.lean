/-! calls from a frame that holds up to sixteen values -/
section
variable {M : MI} {R : Room} {Z : ZT} {pc : Nat} {L : List (Option AV)} {st : List AV} {h : AH} {c sl : Nat}
theorem X_cloneW {idx nx len : Nat} {n n1 : Nd} {f : Nat → Int32} (hd : mi M pc = some (.invokevirtual idx, 3)) (hlk : Cond.methodLink M.1.cls idx ⟨"[I", "clone", "()Ljava/lang/Object;"⟩ ∈ lw_tbl) (hn : h n = some (.inl (0, len, f))) (hn1 : h n1 = none) (hf : 1 ≤ R.frames) (hlo : 30 ≤ R.locals) (hs : st.length ≤ 16) (h1 : c + 1 ≤ R.cells) (h2 : sl + len ≤ R.slots) (hx : pc + 3 = nx)
    (kk : X M R Z nx L (.inr (some n1) :: st) (hset h n1 (.inl (0, len, f))) (c + 1) (sl + len)) : X M R Z pc L (.inr (some n) :: st) h c sl := by
  intro p l e s m args below meth cd G base α0 D0 α H locs ls hC hb hD hR hS hL hst
  subst hx
  have hTT := hC.2.2.2.2.2.1
  have hst' : ∀ v ∈ st, okv h v := fun v hv => hst v (List.mem_cons_of_mem _ hv)
  obtain ⟨hbs, hat, -⟩ := hR.1 n _ hn
  have hat : H[α n]? = some (vp_cell (G.2.2 0) (len, .inl f)) := by
    rcases hat with ⟨h7, -⟩ | ⟨-, hh⟩
    · cases h7
    · exact hh
  have hKK := hC.2.2.2.2.2.2.2.2.1
  have hnm : s.vm.findClass "[I" = some (G.2.2 0) := (hKK.2 0 _ rfl).2
  obtain ⟨c0, t0', f1, f2, f3⟩ := Cond.castable_spec (hTT _ (by decide +kernel : Cond.castable "[I" "java/lang/Cloneable" ∈ lw_tbl) (by simp [okW]))
  cases hnm.symm.trans f1
  intro T hT X
  have hcellT : T.heap[α n]? = some (vp_cell (G.2.2 0) (len, .inl f)) := by rw [hT]; exact hat
  obtain ⟨-, kA, hkA, comp, hkind⟩ := State.isArrayOf_alike X.warmed.alike ((hKK.2 0 _ rfl).1 0 (fun _ => .null))
  obtain ⟨-, kS, hkS, compS, hkindS⟩ := (hKK.2 0 _ rfl).1 0 (fun _ => .null)
  obtain ⟨vm', X', stp⟩ := X.cloneArray (own := M.1.cls) hC.1 hC.2.2.2.2.1 (hTT _ hlk rfl) (hTT _ (by decide +kernel : Cond.sameMethod "[I" "java/lang/Object" "clone" "()Ljava/lang/Object;" ∈ lw_tbl) rfl) (hTT _ (by decide +kernel : Cond.native ⟨"java/lang/Object", "clone", "()Ljava/lang/Object;"⟩ ∈ lw_tbl) rfl) (hTT _ (by decide +kernel : Cond.instanceMethod ⟨"java/lang/Object", "clone", "()Ljava/lang/Object;"⟩ ∈ lw_tbl) rfl) (hTT _ (by decide +kernel : Cond.selects "[I" ⟨"[I", "clone", "()Ljava/lang/Object;"⟩ ⟨"java/lang/Object", "clone", "()Ljava/lang/Object;"⟩ ∈ lw_tbl) rfl) (a := α n) (cell := vp_cell (G.2.2 0) (len, .inl f)) hcellT (fun k h => by cases h) (fun h => by cases h) hnm f2 f3
    (fun i v hv => by
      have hk' : T.vm.classes[G.2.2 0]? = some kA := hkA
      have hj : (arrV (G.2.2 0) len (fun j => .int (f j))).slots[i]? = some v := hv
      have hlt : i < len := by
        have := (Array.getElem?_eq_some_iff.mp hj).1
        rwa [arrV_size] at this
      rw [arrV_read _ _ hlt] at hj
      cases hj
      show T.fitsSlot (G.2.2 0) _ i _ = true
      simp [State.fitsSlot, State.slotType?, hk', hkind, vp_cell_i, arrV, fits])
    (g := F0 m pc ls (.ref (α n) :: st.map (cv α))) rfl (by rw [hC.2.2.2.1]; exact hL.1) rfl (by rw [hC.2.1]; exact mi_dec hd hC.2.2.2.2.2.2.2.2.2) hf (by show 2 * 0 + _ + 14 ≤ _; rw [cat_sum]; omega) h1 (by show sl + (arrV _ _ _).slots.size ≤ _; rw [arrV_size]; exact h2) (hloader := Vm.clonesLoader_of_array hkS hkindS)
  have hcellE : ({ cls := (vp_cell (G.2.2 0) (len, .inl f)).cls, slots := (vp_cell (G.2.2 0) (len, .inl f)).slots } : Cell) = vp_cell (G.2.2 0) (len, .inl f) := rfl
  have hsz : (vp_cell (G.2.2 0) (len, .inl f)).slots.size = len := arrV_size _ _ _
  rw [hcellE, hsz] at X'
  generalize hH1 : H.push (vp_cell (G.2.2 0) (len, .inl f)) = H1
  have z1 : H1.size = H.size + 1 := by rw [← hH1, Array.size_push]
  have e1 : H1[H.size]? = some (vp_cell (G.2.2 0) (len, .inl f)) := by rw [← hH1, Array.getElem?_push_size]
  have o1 : ∀ q : Nat, q < H.size → H1[q]? = H[q]? := fun q hq => by rw [← hH1, Array.getElem?_push, if_neg (Nat.ne_of_lt hq)]
  have hk := kk p l e s m args below meth cd G base α0 D0 (adr α n1 H.size) H1 locs ls hC hb (hD_push hn1 hD)
    (hR.push hn1 (Nat.le_refl _) (Nat.le_trans hb hS.1) (Or.inr ⟨(by intro z; cases z), e1⟩) trivial o1)
    (hS.push (by omega) o1) (hL.push hn1) (fun v hv => by
      rcases List.mem_cons.mp hv with rfl | hv
      · intro n' hn'
        cases hn'
        rw [hset_eq]
        simp
      · exact (hst' v hv).set)
  rw [List.map_cons, map_al hn1 hst'] at hk
  rw [show cv (adr α n1 H.size) (.inr (some n1)) = .ref H.size by show Value.ref _ = _; rw [al_eq]] at hk
  obtain ⟨t, b1, b2⟩ := hk ((T.setVm vm').pushCell (vp_cell (G.2.2 0) (len, .inl f))) (by rw [← hH1, ← hT]; rfl) X'
  refine ⟨t, stp t ?_, b2⟩
  rw [hcellE, hT]
  exact b1
theorem X_callVw {idx nx ci k mc ms : Nat} {n : Nd} {V : Nat → AV} {M' : MI} {vs : List AV} {st0 : List AV} (hd : mi M pc = some (.invokevirtual idx, 3)) (hM : mj_ok M' k) (hw : mj_V M.1.cls idx M' ci) (hn : h n = some (.inr (.inr (ci, V)))) (hst0 : vs.reverse ++ .inr (some n) :: st = st0) (hk : vs.length = k) (hkl : k + 1 ≤ M'.2.2.1) (hf : M'.2.2.2.2.1 + 1 ≤ R.frames) (hlo : 27 + M'.2.2.1 + M'.2.2.2.2.2.1 ≤ R.locals) (hs : st.length ≤ 16) (h1 : c + mc ≤ R.cells) (h2 : sl + ms ≤ R.slots) (hx : pc + 3 = nx)
    (hX : X M' (rmo M' mc ms) (Zm (fun r h' => X M R Z nx L (r.toList ++ st) h' (c + mc) (sl + ms)) mc ms) 0 (ini M' (.inr (some n) :: vs)) [] h 0 0) : X M R Z pc L st0 h c sl := by
  intro p l e s m args below meth cd G base α0 D0 α H locs ls hC hb hD hR hS hL hst
  subst hst0
  have hT := hC.2.2.2.2.2.1
  have hKK := hC.2.2.2.2.2.2.2.2.1
  have hvv : ∀ v ∈ (.inr (some n) :: vs : List AV), okv h v := fun v hv => by
    rcases List.mem_cons.mp hv with rfl | hv
    · intro n' hn'; cases hn'; rw [hn]; simp
    · exact hst v (List.mem_append_left _ (List.mem_reverse.mpr hv))
  have hss : ∀ v ∈ st, okv h v := fun v hv => hst v (List.mem_append_right _ (List.mem_cons_of_mem _ hv))
  obtain ⟨-, ⟨r', hr', cellB, g1, g2, g3, -⟩, -⟩ := hR.1 n _ hn
  have hcn : r'.1 = M'.1.cls := by
    have := hw.2.2.2
    rw [hr'] at this
    exact Option.some.inj this
  have hmet := mj_met (l := l) (G := G) (base := base) (α := α) hM (by simp; omega) hX
  refine X_back (mc := mc) (ms := ms) (a := ((.inr (some n) :: vs : List AV).map (cv α)).toArray) hC hb hD hS hL hss hx ?_
  have hini := hT _ hM.2.2.2.1 rfl
  have hK := back_of (R := R) (p := p) (e := e) (below := below) (s := s) (sargs := args) (len := 3) (W := 16) (bytes := M'.2.1) (maxL := M'.2.2.1) (ret := M'.2.2.2.1) hmet mj_P.blind rfl rfl hf (by show 16 + (M'.2.2.1 + 11) + M'.2.2.2.2.2.1 ≤ R.locals; omega) (mj_words hT hM) List.mem_cons_self (fun a' U hW => word_at hW (Or.inl (by first | rfl | simp [Cond.onTables, Cond.keeps, Cond.steady])) hini)
  intro T hTe XX
  obtain ⟨v, vm₁, ⟨U', l2, c2, s2⟩, hW₁, X', ⟨g', mk, t, L', e1, e2, hq, q1, hL', q2, q3⟩, stp⟩ := callV XX hC.1 (C := M'.1.cls) (bytes := M'.2.1) (maxL := M'.2.2.1) (ret := M'.2.2.2.1) hC.2.2.2.2.1 (hT _ hw.1 rfl) (hT _ hw.2.1 rfl) (hT _ hw.2.2.1 rfl) (hT _ hM.2.2.1 (by simp [okW, goodWord, Cond.onTables, Cond.keeps, Cond.steady])) hM.2.2.2.2.1 hK (b := α n) (cellB := cellB) (by rw [hTe]; exact g1) (by rw [g3]; rfl) (by rw [g2, ← hcn]; exact (hKK.1 ci r' hr').2.1) (g := F0 m pc ls ((vs.reverse ++ .inr (some n) :: st).map (cv α))) rfl (by rw [hC.2.2.2.1]; exact hL.1) (argsL := vs.map (cv α)) (rest := st.map (cv α)) (fun sig hsig => by
      rw [List.length_map, hk]
      have := hM.2.2.2.2.2
      rw [hsig] at this
      exact (Option.some.inj this).symm) (by show List.map _ _ = _; rw [List.map_append, List.map_reverse, List.map_cons]; rfl) (by show 2 * 0 + _ ≤ 16; rw [cat_sum]; omega) (by rw [hC.2.1]; exact mi_dec hd hC.2.2.2.2.2.2.2.2.2)
    (fun vm₁ hW₁ => ⟨h1, h2, mj_pre hT hKK hR hb hS hvv (T.setVm vm₁) hTe hW₁⟩)
  dsimp only [Pt.U, Pt.locs, Pt.cells, Pt.slots] at X' e1 e2 q1 q2 q3 stp
  subst q1; subst q2; subst q3
  exact ⟨v, _, t, U', L', hTe, X', hL', e1, e2, hq, stp⟩
end
