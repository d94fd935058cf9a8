/-! making cells; the JDK's own: Object(), Math.max, Math.min, System.arraycopy, clone -/
theorem mj_R.kept {G : GG} {base : Nat} {α : Nd → Nat} {h : AH} {U : State} {H H1 : Heap} (hR : mj_R G base α h U H) (oq : ∀ q : Nat, q < H.size → H1[q]? = H[q]?) : mj_R G base α h U H1 := by
  refine ⟨fun n e he => ?_, hR.2⟩
  obtain ⟨h1, h2, h3⟩ := hR.1 n e he
  exact ⟨h1, h2.kept (oq _ h2.lt), h3⟩
theorem mj_R.add {G : GG} {base : Nat} {α : Nd → Nat} {h : AH} {U : State} {H : Heap} (hR : mj_R G base α h U H) {n : Nd} {e : AE} {a : Nat} (hn : h n = none) (ha : ∀ n', h n' ≠ none → α n' ≠ a) (hb : base ≤ a) (he : mj_at G (adr α n a) U a e H) (ho : okE (hset h n e) e) : mj_R G base (adr α n a) (hset h n e) U H := by
  refine ⟨fun n' e' h' => ?_, fun x y hx hy hxy => ?_⟩
  · by_cases q : n' = n
    · subst q
      rw [hset_eq] at h'
      cases h'
      rw [al_eq]
      exact ⟨fun _ => hb, he, ho⟩
    · rw [hset_ne h e q] at h'
      obtain ⟨h1, h2, h3⟩ := hR.1 n' e' h'
      rw [al_ne α a q]
      exact ⟨h1, h2.al hn h3, h3.set⟩
  · by_cases q1 : x = n <;> by_cases q2 : y = n
    · rw [q1, q2]
    · rw [hset_ne h e q2] at hy
      rw [q1, al_eq, al_ne α a q2] at hxy
      exact absurd hxy.symm (ha y hy)
    · rw [hset_ne h e q1] at hx
      rw [q2, al_eq, al_ne α a q1] at hxy
      exact absurd hxy (ha x hx)
    · rw [hset_ne h e q1] at hx
      rw [hset_ne h e q2] at hy
      rw [al_ne α a q1, al_ne α a q2] at hxy
      exact hR.2 x y hx hy hxy
theorem mj_R.lt {G : GG} {base : Nat} {α : Nd → Nat} {h : AH} {U : State} {H : Heap} (hR : mj_R G base α h U H) {n : Nd} (hn : h n ≠ none) : α n < H.size := by
  cases hh : h n with
  | none => exact absurd hh hn
  | some e => exact (hR.1 n e hh).2.1.lt
theorem hD_push {h : AH} {α α0 : Nd → Nat} {D0 : Nd → Prop} {n : Nd} {e : AE} {a : Nat} (hn : h n = none) (hD : ∀ n, D0 n → h n ≠ none ∧ α n = α0 n) : ∀ n', D0 n' → hset h n e n' ≠ none ∧ adr α n a n' = α0 n' := fun n' h' => ⟨hset_dom (hD n' h').1, (al_in hn (hD n' h').1).trans (hD n' h').2⟩
theorem cat_sum (α : Nd → Nat) (st : List AV) : ((st.map (cv α)).map fun v => v.category).sum = st.length := by
  induction st with
  | nil => rfl
  | cons v r ih =>
    rw [List.map_cons, List.map_cons, List.sum_cons, ih, cv_cat, List.length_cons]
    omega
section
variable {M : MI} {R : Room} {Z : ZT} {pc : Nat} {L : List (Option AV)} {st : List AV} {h : AH} {c sl : Nat}
theorem X_new {idx ci nx : Nat} {n : Nd} {q : vw_C} {t : Nat → FieldType} (hd : mi M pc = some (.new idx, 3)) (hc : mj_cl[ci]? = some q) (ht : mj_ft[ci]? = some t) (hl : Cond.classLink M.1.cls idx q.1 ∈ lw_tbl) (hn : h n = none) (h1 : c + 1 ≤ R.cells) (h2 : sl + q.2.2 ≤ R.slots) (hx : pc + 3 = nx)
    (kk : X M R Z nx L (.inr (some n) :: st) (hset h n (.inr (.inr (ci, fun k => df (t k))))) (c + 1) (sl + q.2.2)) : X M R Z pc L st h c sl := by
  intro p l e s m args below meth cd G base α0 D0 α H locs ls hC hb hD hR hS hL hst
  subst hx
  obtain ⟨C, T, N⟩ := q
  obtain ⟨t', ht', hcls⟩ := cls_ok _ _ hc
  cases ht.symm.trans ht'
  have hT := hC.2.2.2.2.2.1
  have hKn := hC.2.2.2.2.2.2.2.2.1.1 ci _ hc
  have hts : ∀ w ∈ u_ws C T N, w.before args s = true := fun w hw => hT w (hcls.1 w hw).1 (hcls.1 w hw).2
  refine W.newcK (own := M.1.cls) (C := C) hC.1 hC.2.1 hC.2.2.2.2.1 (hT _ hl rfl) (hT _ hcls.2.2.2.2.1 rfl) (hT _ hcls.2.2.2.2.2 rfl) rfl (mi_dec hd hC.2.2.2.2.2.2.2.2.2) h1 h2 hKn.2.1 rfl fun H1 kC hkC e1 z1 o1 => ?_
  have hk := kk p l e s m args below meth cd G base α0 D0 (adr α n H.size) H1 locs ls hC hb (hD_push hn hD)
    (hR.push hn (Nat.le_refl _) (Nat.le_trans hb hS.1) ⟨_, hc, (u_born t hts (fun _ hw => hw) hKn hkC e1 hcls.2.1).to (fun k hk => (df_ok (hcls.2.2.2.1 k hk) _).symm)⟩ (fun k => df_okv _ _) o1)
    (hS.push (by omega) o1) (hL.push hn) (fun v hv => by
      rcases List.mem_cons.mp hv with rfl | hv
      · intro n' hn'
        cases hn'
        rw [hset_eq]
        simp
      · exact (hst v hv).set)
  rw [List.map_cons, map_al hn hst] at hk
  rw [show cv (adr α n H.size) (.inr (some n)) = .ref H.size by show Value.ref _ = _; rw [al_eq]] at hk
  exact hk
theorem X_newa {atype : ArrayType} {t N nx : Nat} {i : Int32} {n : Nd} (hd : mi M pc = some (.newarray atype, 2)) (ha : (atype = .int ∧ t = 0) ∨ (atype = .boolean ∧ t = 1)) (hi : ¬ i < 0) (hN : i.toNatClampNeg = N) (hM : N ≤ 1000) (hn : h n = none) (h1 : c + 1 ≤ R.cells) (h2 : sl + N ≤ R.slots) (hx : pc + 2 = nx)
    (kk : X M R Z nx L (.inr (some n) :: st) (hset h n (.inl (t, N, fun _ => 0))) (c + 1) (sl + N)) : X M R Z pc L (.inl i :: st) h c sl := by
  intro p l e s m args below meth cd G base α0 D0 α H locs ls hC hb hD hR hS hL hst
  subst hx
  have hT := hC.2.2.2.2.2.1
  have hst' : ∀ v ∈ st, okv h v := fun v hv => hst v (List.mem_cons_of_mem _ hv)
  have fin : ∀ (H1 : Heap) (cA : ClassId) (ty : FieldType), mj_ar[t]? = some ty → t ≠ 7 → (va_RA s (G.2.2 t) ty → G.2.2 t = cA) → H1[H.size]? = some (arrV cA N (fun _ => .int 0)) → H1.size = H.size + 1 → (∀ q, q < H.size → H1[q]? = H[q]?) →
      W p l e R s m args below meth cd H1 locs (c + 1) (sl + N) (Z G base α0 D0 below args s) (F0 m (pc + 2) ls (.ref H.size :: st.map (cv α))) := by
    intro H1 cA ty hty h7 hcA e1 z1 o1
    have hc2 := hcA (hC.2.2.2.2.2.2.2.2.1.2 t _ hty).2
    have hk := kk p l e s m args below meth cd G base α0 D0 (adr α n H.size) H1 locs ls hC hb (hD_push hn hD)
      (hR.push hn (Nat.le_refl _) (Nat.le_trans hb hS.1) (Or.inr ⟨h7, by rw [e1, ← hc2]; rfl⟩) trivial o1)
      (hS.push (by omega) o1) (hL.push hn) (fun v hv => by
        rcases List.mem_cons.mp hv with rfl | hv
        · intro n' hn'
          cases hn'
          rw [hset_eq]
          simp
        · exact (hst' v hv).set)
    rw [List.map_cons, map_al hn hst'] at hk
    rw [show cv (adr α n H.size) (.inr (some n)) = .ref H.size by show Value.ref _ = _; rw [al_eq]] at hk
    exact hk
  rcases ha with ⟨rfl, rfl⟩ | ⟨rfl, rfl⟩
  · exact va_newaK (atype := .int) hC.1 hC.2.1 (hT (.arrayClass .int) (by decide +kernel) rfl) rfl (mi_dec hd hC.2.2.2.2.2.2.2.2.2) rfl hi hN (by show N * 4 ≤ _; omega) h1 h2 rfl (fun H1 cA e1 z1 o1 _ hnm => fin H1 cA _ rfl (by decide) (fun hra => Option.some.inj (hra.symm.trans hnm)) e1 z1 o1)
  · exact va_newaK (atype := .boolean) hC.1 hC.2.1 (hT (.arrayClass .boolean) (by decide +kernel) rfl) rfl (mi_dec hd hC.2.2.2.2.2.2.2.2.2) rfl hi hN (by show N * 1 ≤ _; omega) h1 h2 rfl (fun H1 cA e1 z1 o1 _ hnm => fin H1 cA _ rfl (by decide) (fun hra => Option.some.inj (hra.symm.trans hnm)) e1 z1 o1)
theorem X_newq {idx t N nx : Nat} {C : String} {i : Int32} {n : Nd} (hd : mi M pc = some (.anewarray idx, 3)) (ht : mj_ar[t]? = some (.object C)) (hl : Cond.classLink M.1.cls idx C ∈ lw_tbl) (ho : Cond.arrayOver (.object C) ∈ lw_tbl) (hi : ¬ i < 0) (hN : i.toNatClampNeg = N) (hM : N ≤ 1000) (hn : h n = none) (h1 : c + 1 ≤ R.cells) (h2 : sl + N ≤ R.slots) (hx : pc + 3 = nx)
    (kk : X M R Z nx L (.inr (some n) :: st) (hset h n (.inr (.inl (t, N, fun _ => none)))) (c + 1) (sl + N)) : X M R Z pc L (.inl i :: st) h c sl := by
  intro p l e s m args below meth cd G base α0 D0 α H locs ls hC hb hD hR hS hL hst
  subst hx
  subst hN
  have hT := hC.2.2.2.2.2.1
  have hst' : ∀ v ∈ st, okv h v := fun v hv => hst v (List.mem_cons_of_mem _ hv)
  refine W.anew (own := M.1.cls) hC.1 hC.2.1 hC.2.2.2.2.1 (hT _ hl rfl) (hT _ ho (by simp [okW])) rfl (mi_dec hd hC.2.2.2.2.2.2.2.2.2) rfl hi (by omega) h1 h2 fun cA kA comp f1 f2 f3 f4 => ?_
  obtain ⟨_, _, _, _, _, g4⟩ := (hC.2.2.2.2.2.2.2.2.1.2 t _ ht).2
  have hc2 : G.2.2 t = cA := Option.some.inj (g4.symm.trans f1)
  generalize hH1 : H.push ({ cls := cA, slots := Array.replicate i.toNatClampNeg .null, vm := .none } : Cell) = H1
  have z1 : H1.size = H.size + 1 := by rw [← hH1, Array.size_push]
  have e1 : H1[H.size]? = some (arrV cA i.toNatClampNeg (fun _ => .null)) := by rw [← hH1, Array.getElem?_push_size, ← arrV_new]
  have o1 : ∀ q : Nat, q < H.size → H1[q]? = H[q]? := fun q hq => by rw [← hH1, Array.getElem?_push, if_neg (Nat.ne_of_lt hq)]
  have hk := kk p l e s m args below meth cd G base α0 D0 (adr α n H.size) H1 locs ls hC hb (hD_push hn hD)
    (hR.push hn (Nat.le_refl _) (Nat.le_trans hb hS.1) (by show H1[_]? = _; rw [e1, ← hc2, vp_cell_q]; rfl) (fun i n' hn' => by cases hn') o1)
    (hS.push (by omega) o1) (hL.push hn) (fun v hv => by
      rcases List.mem_cons.mp hv with rfl | hv
      · intro n' hn'
        cases hn'
        rw [hset_eq]
        simp
      · exact (hst' v hv).set)
  rw [List.map_cons, map_al hn hst'] at hk
  rw [show cv (adr α n H.size) (.inr (some n)) = .ref H.size by show Value.ref _ = _; rw [al_eq]] at hk
  exact hk
theorem X_obj {idx nx : Nat} {n : Nd} (hd : mi M pc = some (.invokespecial idx, 3)) (hl : Cond.methodLink M.1.cls idx objectInit ∈ lw_tbl) (hf : 1 ≤ R.frames) (hlo : 20 ≤ R.locals) (hs : st.length ≤ 8) (hx : pc + 3 = nx) (kk : X M R Z nx L st h c sl) : X M R Z pc L (.inr (some n) :: st) h c sl := by
  intro p l e s m args below meth cd G base α0 D0 α H locs ls hC hb hD hR hS hL hst
  subst hx
  have hT := hC.2.2.2.2.2.1
  have hcat := cat_sum α st
  exact W.objInit (own := M.1.cls) hC.1 hC.2.1 hC.2.2.2.2.1 (hT _ hl rfl) (hT _ (by decide +kernel : Cond.instanceMethod objectInit ∈ lw_tbl) rfl) (hT _ (by decide +kernel : Cond.code objectInit ⟨#[0xb1]⟩ 1 none ∈ lw_tbl) rfl) rfl (by rw [hC.2.2.2.1]; exact hL.1) rfl (mi_dec hd hC.2.2.2.2.2.2.2.2.2) hf (by show 2 * 0 + _ + 12 ≤ _; rw [hcat]; omega) (kk p l e s m args below meth cd G base α0 D0 α H locs ls hC hb hD hR hS hL (fun v hv => hst v (List.mem_cons_of_mem _ hv)))
theorem X_max {idx nx : Nat} {x y : Int32} (hd : mi M pc = some (.invokestatic idx, 3)) (hl : Cond.methodLink M.1.cls idx Lib.Math.max.name ∈ lw_tbl) (hf : 1 ≤ R.frames) (hlo : 21 ≤ R.locals) (hs : st.length ≤ 8) (h1 : c ≤ R.cells) (h2 : sl ≤ R.slots) (hx : pc + 3 = nx) (kk : X M R Z nx L (.inl (if x < y then y else x) :: st) h c sl) : X M R Z pc L (.inl y :: .inl x :: st) h c sl := by
  intro p l e s m args below meth cd G base α0 D0 α H locs ls hC hb hD hR hS hL hst
  subst hx
  have hT := hC.2.2.2.2.2.1
  exact va_mmax (own := M.1.cls) hC.1 hC.2.1 (by rw [hC.2.2.2.1]; exact hL.1.symm) hC.2.2.2.2.1 (hT _ hl rfl) (hT _ (by decide +kernel : Cond.static Lib.Math.max.name ∈ lw_tbl) rfl) (hT _ (by decide +kernel : Cond.initialized "java/lang/Math" ∈ lw_tbl) rfl) (hT _ (by decide +kernel : Cond.code Lib.Math.max.name Lib.Math.max.code 2 (some .int) ∈ lw_tbl) rfl) hf (by rw [cat_sum]; omega) h1 h2 (mi_dec hd hC.2.2.2.2.2.2.2.2.2) (kk p l e s m args below meth cd G base α0 D0 α H locs ls hC hb hD hR hS hL (fun v hv => by
    rcases List.mem_cons.mp hv with rfl | hv
    · exact okv_i _
    · exact hst v (List.mem_cons_of_mem _ (List.mem_cons_of_mem _ hv))))
theorem X_min {idx nx : Nat} {x y : Int32} (hd : mi M pc = some (.invokestatic idx, 3)) (hl : Cond.methodLink M.1.cls idx Lib.Math.min.name ∈ lw_tbl) (hf : 1 ≤ R.frames) (hlo : 21 ≤ R.locals) (hs : st.length ≤ 8) (h1 : c ≤ R.cells) (h2 : sl ≤ R.slots) (hx : pc + 3 = nx) (kk : X M R Z nx L (.inl (if y < x then y else x) :: st) h c sl) : X M R Z pc L (.inl y :: .inl x :: st) h c sl := by
  intro p l e s m args below meth cd G base α0 D0 α H locs ls hC hb hD hR hS hL hst
  subst hx
  have hT := hC.2.2.2.2.2.1
  exact va_mmin (own := M.1.cls) hC.1 hC.2.1 (by rw [hC.2.2.2.1]; exact hL.1.symm) hC.2.2.2.2.1 (hT _ hl rfl) (hT _ (by decide +kernel : Cond.static Lib.Math.min.name ∈ lw_tbl) rfl) (hT _ (by decide +kernel : Cond.initialized "java/lang/Math" ∈ lw_tbl) rfl) (hT _ (by decide +kernel : Cond.code Lib.Math.min.name Lib.Math.min.code 2 (some .int) ∈ lw_tbl) rfl) hf (by rw [cat_sum]; omega) h1 h2 (mi_dec hd hC.2.2.2.2.2.2.2.2.2) (kk p l e s m args below meth cd G base α0 D0 α H locs ls hC hb hD hR hS hL (fun v hv => by
    rcases List.mem_cons.mp hv with rfl | hv
    · exact okv_i _
    · exact hst v (List.mem_cons_of_mem _ (List.mem_cons_of_mem _ hv))))
/-- System.arraycopy of the first four of two int arrays of four -/
theorem X_cpy {idx nx : Nat} {n0 n1 : Nd} {f g : Nat → Int32} (hd : mi M pc = some (.invokestatic idx, 3)) (hlk : Cond.methodLink M.1.cls idx arraycopyName ∈ lw_tbl) (hn0 : h n0 = some (.inl (0, 4, f))) (hn1 : h n1 = some (.inl (0, 4, g))) (hf : 1 ≤ R.frames) (hlo : 26 ≤ R.locals) (hs : st.length ≤ 8) (hx : pc + 3 = nx)
    (kk : X M R Z nx L st (hset h n1 (.inl (0, 4, va_cpy f g 0 0 4))) c sl) : X M R Z pc L (.inl 4 :: .inl 0 :: .inr (some n1) :: .inl 0 :: .inr (some n0) :: st) h c sl := by
  intro p l e s m args below meth cd G base α0 D0 α H locs ls hC hb hD hR hS hL hst
  subst hx
  have hTT := hC.2.2.2.2.2.1
  obtain ⟨-, hat0, -⟩ := hR.1 n0 _ hn0
  obtain ⟨hbs, hat1, -⟩ := hR.1 n1 _ hn1
  have hc0 : H[α n0]? = some (vp_cell (G.2.2 0) (4, .inl f)) := by
    rcases hat0 with ⟨h7, -⟩ | ⟨-, hh⟩
    · cases h7
    · exact hh
  have hc1 : H[α n1]? = some (vp_cell (G.2.2 0) (4, .inl g)) := by
    rcases hat1 with ⟨h7, -⟩ | ⟨-, hh⟩
    · cases h7
    · exact hh
  have hKK := hC.2.2.2.2.2.2.2.2.1
  obtain ⟨-, k0, hk0, cm0, hkk0⟩ := (hKK.2 0 _ rfl).1 4 (fun j => .int (f j))
  obtain ⟨-, k1, hk1, cm1, hkk1⟩ := (hKK.2 0 _ rfl).1 4 (fun j => .int (g j))
  intro T hT X
  obtain ⟨vm', X', step⟩ := X.arraycopy (own := M.1.cls) hC.1 hC.2.2.2.2.1 (hTT _ hlk rfl) (hTT _ (by decide +kernel : Cond.native arraycopyName ∈ lw_tbl) rfl) (hTT _ (by decide +kernel : Cond.static arraycopyName ∈ lw_tbl) rfl) (hTT _ (by decide +kernel : Cond.initialized "java/lang/System" ∈ lw_tbl) rfl) (src := α n0) (dst := α n1) (cs := vp_cell (G.2.2 0) (4, .inl f)) (cd := vp_cell (G.2.2 0) (4, .inl g)) (srcPos := 0) (destPos := 0) (n := 4) (by rw [hT]; exact hc0) (by rw [hT]; exact hc1)
    (fun _ h => by cases h) (fun _ h => by cases h) (fun h => by cases h) (fun h => by cases h) hk0 hk1 hkk0 hkk1 (by simp [refKind]) (by decide) (by decide) (by decide)
    (by show ¬ _ > ((arrV (G.2.2 0) 4 (fun j => .int (f j))).slots.size : Int); rw [arrV_size]; decide)
    (by show ¬ _ > ((arrV (G.2.2 0) 4 (fun j => .int (g j))).slots.size : Int); rw [arrV_size]; decide)
    (fun vm₁ _ i hi => by
      have hi : i < 4 := hi
      have e : (vp_cell (G.2.2 0) (4, .inl f)).slots.getD ((0 : Int32).toNatClampNeg + i) .null = .int (f ((0 : Int32).toNatClampNeg + i)) := by
        show (arrV (G.2.2 0) 4 (fun j => .int (f j))).slots.getD _ _ = _
        rw [Array.getD_eq_getD_getElem?, arrV_read _ _ (by show 0 + i < 4; omega)]
        rfl
      refine ⟨?_, ?_⟩
      · rw [e]
        rfl
      · rw [e]
        exact trivial)
    (g := F0 m pc ls (.int 4 :: .int 0 :: .ref (α n1) :: .int 0 :: .ref (α n0) :: st.map (cv α))) rfl (by rw [hC.2.2.2.1]; exact hL.1) (rest := st.map (cv α)) rfl (by rw [hC.2.1]; exact mi_dec hd hC.2.2.2.2.2.2.2.2.2) hf (by show 2 * 0 + _ + (7 + 11) ≤ _; rw [cat_sum]; omega)
  have e1 : copied (vp_cell (G.2.2 0) (4, .inl f)) (vp_cell (G.2.2 0) (4, .inl g)) 0 0 4 = vp_cell (G.2.2 0) (4, .inl (va_cpy f g 0 0 4)) := va_copied (fun z => .int z) _ _ f g (by show 0 + 4 ≤ 4; omega)
  rw [e1] at X' step
  have hl : α n1 < H.size := (Array.getElem?_eq_some_iff.mp hc1).1
  have hheap : ((T.setVm vm').setCell (α n1) (vp_cell (G.2.2 0) (4, .inl (va_cpy f g 0 0 4)))).heap = H.setIfInBounds (α n1) (vp_cell (G.2.2 0) (4, .inl (va_cpy f g 0 0 4))) := by rw [← hT]; rfl
  have oq : ∀ q : Nat, q ≠ α n1 → (H.setIfInBounds (α n1) (vp_cell (G.2.2 0) (4, .inl (va_cpy f g 0 0 4))))[q]? = H[q]? := fun q hq => by simp [Array.getElem?_setIfInBounds, Ne.symm hq]
  have hba : base ≤ α n1 := hbs (by intro z; cases z)
  obtain ⟨t, a1, b1⟩ := kk p l e s m args below meth cd G base α0 D0 α _ _ ls hC hb (fun n' hn' => ⟨hset_dom (hD n' hn').1, (hD n' hn').2⟩) (hR.set hn1 (by intro z; cases z) (Or.inr ⟨(by intro z; cases z), (show (H.setIfInBounds (α n1) _)[α n1]? = some _ by simp [Array.getElem?_setIfInBounds, hl])⟩) trivial oq) (⟨by simp; exact hS.1, fun q g1 g2 => by
      rw [oq q (fun e => g2 (by rw [e]; exact hba))]
      exact hS.2.1 q g1 g2, fun q hq => by
      rcases List.mem_append.mp hq with h | h
      · exact hS.2.2 q h
      · obtain ⟨z, -, hz⟩ := List.mem_map.mp h
        rw [← hz]
        exact hba⟩) hL.set (fun v hv => (hst v (by simp [hv])).set) _ hheap X'
  exact ⟨t, step t a1, b1⟩
/-- clone() of an int array, and the cast behind it -/
theorem X_clone {idx nx len : Nat} {n n1 : Nd} {f : Nat → Int32} (hd : mi M pc = some (.invokevirtual idx, 3)) (hlk : Cond.methodLink M.1.cls idx ⟨"[I", "clone", "()Ljava/lang/Object;"⟩ ∈ lw_tbl) (hn : h n = some (.inl (0, len, f))) (hn1 : h n1 = none) (hf : 1 ≤ R.frames) (hlo : 22 ≤ R.locals) (hs : st.length ≤ 8) (h1 : c + 1 ≤ R.cells) (h2 : sl + len ≤ R.slots) (hx : pc + 3 = nx)
    (kk : X M R Z nx L (.inr (some n1) :: st) (hset h n1 (.inl (0, len, f))) (c + 1) (sl + len)) : X M R Z pc L (.inr (some n) :: st) h c sl := by
  intro p l e s m args below meth cd G base α0 D0 α H locs ls hC hb hD hR hS hL hst
  subst hx
  have hTT := hC.2.2.2.2.2.1
  have hst' : ∀ v ∈ st, okv h v := fun v hv => hst v (List.mem_cons_of_mem _ hv)
  obtain ⟨hbs, hat, -⟩ := hR.1 n _ hn
  have hat : H[α n]? = some (vp_cell (G.2.2 0) (len, .inl f)) := by
    rcases hat with ⟨h7, -⟩ | ⟨-, hh⟩
    · cases h7
    · exact hh
  have hKK := hC.2.2.2.2.2.2.2.2.1
  have hnm : s.vm.findClass "[I" = some (G.2.2 0) := (hKK.2 0 _ rfl).2
  obtain ⟨c0, t0', f1, f2, f3⟩ := Cond.castable_spec (hTT _ (by decide +kernel : Cond.castable "[I" "java/lang/Cloneable" ∈ lw_tbl) (by simp [okW]))
  cases hnm.symm.trans f1
  intro T hT X
  have hcellT : T.heap[α n]? = some (vp_cell (G.2.2 0) (len, .inl f)) := by rw [hT]; exact hat
  obtain ⟨-, kA, hkA, comp, hkind⟩ := State.isArrayOf_alike X.warmed.alike ((hKK.2 0 _ rfl).1 0 (fun _ => .null))
  obtain ⟨-, kS, hkS, compS, hkindS⟩ := (hKK.2 0 _ rfl).1 0 (fun _ => .null)
  obtain ⟨vm', X', stp⟩ := X.cloneArray (own := M.1.cls) hC.1 hC.2.2.2.2.1 (hTT _ hlk rfl) (hTT _ (by decide +kernel : Cond.sameMethod "[I" "java/lang/Object" "clone" "()Ljava/lang/Object;" ∈ lw_tbl) rfl) (hTT _ (by decide +kernel : Cond.native ⟨"java/lang/Object", "clone", "()Ljava/lang/Object;"⟩ ∈ lw_tbl) rfl) (hTT _ (by decide +kernel : Cond.instanceMethod ⟨"java/lang/Object", "clone", "()Ljava/lang/Object;"⟩ ∈ lw_tbl) rfl) (hTT _ (by decide +kernel : Cond.selects "[I" ⟨"[I", "clone", "()Ljava/lang/Object;"⟩ ⟨"java/lang/Object", "clone", "()Ljava/lang/Object;"⟩ ∈ lw_tbl) rfl) (a := α n) (cell := vp_cell (G.2.2 0) (len, .inl f)) hcellT (fun k h => by cases h) (fun h => by cases h) hnm f2 f3
    (fun i v hv => by
      have hk' : T.vm.classes[G.2.2 0]? = some kA := hkA
      have hj : (arrV (G.2.2 0) len (fun j => .int (f j))).slots[i]? = some v := hv
      have hlt : i < len := by
        have := (Array.getElem?_eq_some_iff.mp hj).1
        rwa [arrV_size] at this
      rw [arrV_read _ _ hlt] at hj
      cases hj
      show T.fitsSlot (G.2.2 0) _ i _ = true
      simp [State.fitsSlot, State.slotType?, hk', hkind, vp_cell_i, arrV, fits])
    (g := F0 m pc ls (.ref (α n) :: st.map (cv α))) rfl (by rw [hC.2.2.2.1]; exact hL.1) rfl (by rw [hC.2.1]; exact mi_dec hd hC.2.2.2.2.2.2.2.2.2) hf (by show 2 * 0 + _ + 14 ≤ _; rw [cat_sum]; omega) h1 (by show sl + (arrV _ _ _).slots.size ≤ _; rw [arrV_size]; exact h2) (hloader := Vm.clonesLoader_of_array hkS hkindS)
  have hcellE : ({ cls := (vp_cell (G.2.2 0) (len, .inl f)).cls, slots := (vp_cell (G.2.2 0) (len, .inl f)).slots } : Cell) = vp_cell (G.2.2 0) (len, .inl f) := rfl
  have hsz : (vp_cell (G.2.2 0) (len, .inl f)).slots.size = len := arrV_size _ _ _
  rw [hcellE, hsz] at X'
  generalize hH1 : H.push (vp_cell (G.2.2 0) (len, .inl f)) = H1
  have z1 : H1.size = H.size + 1 := by rw [← hH1, Array.size_push]
  have e1 : H1[H.size]? = some (vp_cell (G.2.2 0) (len, .inl f)) := by rw [← hH1, Array.getElem?_push_size]
  have o1 : ∀ q : Nat, q < H.size → H1[q]? = H[q]? := fun q hq => by rw [← hH1, Array.getElem?_push, if_neg (Nat.ne_of_lt hq)]
  have hk := kk p l e s m args below meth cd G base α0 D0 (adr α n1 H.size) H1 locs ls hC hb (hD_push hn1 hD)
    (hR.push hn1 (Nat.le_refl _) (Nat.le_trans hb hS.1) (Or.inr ⟨(by intro z; cases z), e1⟩) trivial o1)
    (hS.push (by omega) o1) (hL.push hn1) (fun v hv => by
      rcases List.mem_cons.mp hv with rfl | hv
      · intro n' hn'
        cases hn'
        rw [hset_eq]
        simp
      · exact (hst' v hv).set)
  rw [List.map_cons, map_al hn1 hst'] at hk
  rw [show cv (adr α n1 H.size) (.inr (some n1)) = .ref H.size by show Value.ref _ = _; rw [al_eq]] at hk
  obtain ⟨t, b1, b2⟩ := hk ((T.setVm vm').pushCell (vp_cell (G.2.2 0) (len, .inl f))) (by rw [← hH1, ← hT]; rfl) X'
  refine ⟨t, stp t ?_, b2⟩
  rw [hcellE, hT]
  exact b1
theorem X_castI {idx nx len : Nat} {n : Nd} {f : Nat → Int32} (hd : mi M pc = some (.checkcast idx, 3)) (hlk : Cond.classLink M.1.cls idx "[I" ∈ lw_tbl) (hn : h n = some (.inl (0, len, f))) (hx : pc + 3 = nx) (kk : X M R Z nx L (.inr (some n) :: st) h c sl) : X M R Z pc L (.inr (some n) :: st) h c sl := by
  intro p l e s m args below meth cd G base α0 D0 α H locs ls hC hb hD hR hS hL hst
  subst hx
  have hTT := hC.2.2.2.2.2.1
  obtain ⟨hbs, hat, -⟩ := hR.1 n _ hn
  have hat : H[α n]? = some (vp_cell (G.2.2 0) (len, .inl f)) := by
    rcases hat with ⟨h7, -⟩ | ⟨-, hh⟩
    · cases h7
    · exact hh
  have hKK := hC.2.2.2.2.2.2.2.2.1
  have hnm : s.vm.findClass "[I" = some (G.2.2 0) := (hKK.2 0 _ rfl).2
  exact va_castA (D := (G.1, G.2.1)) (cl := mj_cl) (ws := [(α n, .inl (G.2.2 0, (len, .inl f)))]) (own := M.1.cls) hC.1 hC.2.1 hC.2.2.2.2.1 (hTT _ hlk rfl) (fun k q hq => by
    cases k with
    | zero => cases hq; exact hat
    | succ k => simp at hq) 0 rfl hnm (mi_dec hd hC.2.2.2.2.2.2.2.2.2) (kk p l e s m args below meth cd G base α0 D0 α H locs ls hC hb hD hR hS hL hst)
end
