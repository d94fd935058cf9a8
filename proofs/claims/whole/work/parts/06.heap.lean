/-! cells: fields, arrays, making -/
def nice (ty : FieldType) : Bool := match ty with
  | .int => true
  | .boolean => true
  | .object _ => true
  | .array _ => true
  | _ => false
def df (ty : FieldType) : AV := match ty with
  | .object _ => .inr none
  | .array _ => .inr none
  | _ => .inl 0
theorem df_ok {ty : FieldType} (h : nice ty = true) (α : Nd → Nat) : cv α (df ty) = defaultValue ty := by
  cases ty <;> first | rfl | (simp [nice] at h)
theorem df_okv (h : AH) (ty : FieldType) : okv h (df ty) := by
  cases ty <;> exact fun n hn => by cases hn
def mj_cls (C : String) (T : u_T) (N : Nat) (t : Nat → FieldType) : Prop :=
  (∀ w ∈ u_ws C T N, w ∈ lw_tbl ∧ okW w = true) ∧ (∀ k, k < N → parseFieldDescriptor (T k).2.2.1 = some (t k)) ∧ (∀ a, a < N → ∀ b, b < N → a ≠ b → (T a).2.1 ≠ (T b).2.1) ∧ (∀ k, k < N → nice (t k) = true) ∧ Cond.instantiable C N ∈ lw_tbl ∧ Cond.initialized C ∈ lw_tbl
theorem cls_De : mj_cls R_De T_De 8 t_De := ⟨by decide +kernel, ty_De, nm_De, by decide +kernel, by decide +kernel, by decide +kernel⟩
theorem cls_Dv : mj_cls R_Dv T_Dv 2 t_Dv := ⟨by decide +kernel, ty_Dv, nm_Dv, by decide +kernel, by decide +kernel, by decide +kernel⟩
theorem cls_Lg : mj_cls R_Lg T_Lg 3 t_Lg := ⟨by decide +kernel, ty_Lg, nm_Lg, by decide +kernel, by decide +kernel, by decide +kernel⟩
theorem cls_Pi : mj_cls R_Pi T_Pi 11 t_Pi := ⟨by decide +kernel, ty_Pi, nm_Pi, by decide +kernel, by decide +kernel, by decide +kernel⟩
theorem cls_Rw : mj_cls R_Rw T_Rw 7 t_Rw := ⟨by decide +kernel, ty_Rw, nm_Rw, by decide +kernel, by decide +kernel, by decide +kernel⟩
theorem cls_Th : mj_cls R_Th T_Th 10 t_Th := ⟨by decide +kernel, ty_Th, nm_Th, by decide +kernel, by decide +kernel, by decide +kernel⟩
theorem cls_Pl : mj_cls R_Pl T_Pl 7 t_Pl := ⟨by decide +kernel, ty_Pl, nm_Pl, by decide +kernel, by decide +kernel, by decide +kernel⟩
theorem cls_Mo : mj_cls R_Mo T_Mo 22 t_Mo := ⟨by decide +kernel, ty_Mo, nm_Mo, by decide +kernel, by decide +kernel, by decide +kernel⟩
theorem cls_ok : ∀ (ci : Nat) (q : vw_C), mj_cl[ci]? = some q → ∃ t, mj_ft[ci]? = some t ∧ mj_cls q.1 q.2.1 q.2.2 t
  | 0, _, h => by cases h; exact ⟨_, rfl, cls_De⟩
  | 1, _, h => by cases h; exact ⟨_, rfl, cls_Dv⟩
  | 2, _, h => by cases h; exact ⟨_, rfl, cls_Lg⟩
  | 3, _, h => by cases h; exact ⟨_, rfl, cls_Pi⟩
  | 4, _, h => by cases h; exact ⟨_, rfl, cls_Rw⟩
  | 5, _, h => by cases h; exact ⟨_, rfl, cls_Th⟩
  | 6, _, h => by cases h; exact ⟨_, rfl, cls_Pl⟩
  | 7, _, h => by cases h; exact ⟨_, rfl, cls_Mo⟩
  | n + 8, _, h => by simp [mj_cl] at h
/-- the place idx of a class's pool is field k of class ci -/
def mj_F (own : String) (idx ci k : Nat) : Prop := ∃ q : vw_C, mj_cl[ci]? = some q ∧ k < q.2.2 ∧ Cond.fieldLink own idx (q.2.1 k).1 (q.2.1 k).2.1 (q.2.1 k).2.2.1 ∈ lw_tbl
def hset (h : AH) (n : Nd) (e : AE) : AH := fun n' => if n' = n then some e else h n'
theorem hset_eq (h : AH) (n : Nd) (e : AE) : hset h n e n = some e := by simp [hset]
theorem hset_ne (h : AH) {n n' : Nd} (e : AE) (hn : n' ≠ n) : hset h n e n' = h n' := by simp [hset, hn]
theorem hset_hset (h : AH) (n : Nd) (e e' : AE) : hset (hset h n e) n e' = hset h n e' := by
  funext n'
  by_cases q : n' = n <;> simp [hset, q]
theorem hset_dom {h : AH} {n : Nd} {e : AE} {n' : Nd} (hn : h n' ≠ none) : hset h n e n' ≠ none := by
  by_cases q : n' = n <;> simp [hset, q, hn]
theorem okv.set {h : AH} {n : Nd} {e : AE} {v : AV} (hv : okv h v) : okv (hset h n e) v := fun n' hn => hset_dom (hv n' hn)
theorem okE.set {h : AH} {n : Nd} {e e' : AE} (he : okE h e') : okE (hset h n e) e' := by
  rcases e' with _ | ⟨t, k, g⟩ | ⟨ci, V⟩
  · trivial
  · exact fun i n' hn => hset_dom (he i n' hn)
  · exact fun k => (he k).set
theorem mj_at.kept {G : GG} {α : Nd → Nat} {U : State} {a : Nat} {e : AE} {H H1 : Heap} (h : mj_at G α U a e H) (hq : H1[a]? = H[a]?) : mj_at G α U a e H1 := by
  rcases e with ⟨t, k, f⟩ | ⟨t, k, g⟩ | ⟨ci, V⟩
  · rcases h with ⟨h1, h2⟩ | ⟨h1, h2⟩
    · exact Or.inl ⟨h1, h2.kept hq⟩
    · exact Or.inr ⟨h1, by rw [hq]; exact h2⟩
  · exact hq.trans h
  · obtain ⟨r, h1, h2⟩ := h
    exact ⟨r, h1, h2.kept hq⟩
theorem mj_at.lt {G : GG} {α : Nd → Nat} {U : State} {a : Nat} {e : AE} {H : Heap} (h : mj_at G α U a e H) : a < H.size := by
  rcases e with ⟨t, k, f⟩ | ⟨t, k, g⟩ | ⟨ci, V⟩
  · rcases h with ⟨h1, cell, h2, -⟩ | ⟨h1, h2⟩
    · exact (Array.getElem?_eq_some_iff.mp h2).1
    · exact (Array.getElem?_eq_some_iff.mp h2).1
  · exact (Array.getElem?_eq_some_iff.mp h).1
  · obtain ⟨r, h1, cell, h2, -⟩ := h
    exact (Array.getElem?_eq_some_iff.mp h2).1
theorem mj_R.set {G : GG} {base : Nat} {α : Nd → Nat} {h : AH} {U : State} {H H1 : Heap} (hR : mj_R G base α h U H) {n : Nd} {e0 e : AE} (hn : h n = some e0) (hw : wrt e0) (he : mj_at G α U (α n) e H1) (ho : okE h e) (oq : ∀ q : Nat, q ≠ α n → H1[q]? = H[q]?) : mj_R G base α (hset h n e) U H1 := by
  have hd : ∀ n', hset h n e n' ≠ none → h n' ≠ none := fun n' h' => by
    by_cases q : n' = n
    · rw [q, hn]; simp
    · rwa [hset_ne h e q] at h'
  refine ⟨fun n' e' h' => ?_, fun a b ha hb hab => hR.2 a b (hd a ha) (hd b hb) hab⟩
  by_cases q : n' = n
  · subst q
    rw [hset_eq] at h'
    cases h'
    exact ⟨fun _ => (hR.1 _ _ hn).1 hw, he, ho.set⟩
  · rw [hset_ne h e q] at h'
    obtain ⟨h1, h2, h3⟩ := hR.1 n' e' h'
    refine ⟨h1, h2.kept (oq _ (fun z => q (hR.2 n' n (by rw [h']; simp) (by rw [hn]; simp) z))), h3.set⟩
/-- a new node gets the address a -/
def adr (α : Nd → Nat) (n : Nd) (a : Nat) : Nd → Nat := fun n' => if n' = n then a else α n'
theorem al_eq (α : Nd → Nat) (n : Nd) (a : Nat) : adr α n a n = a := by simp [adr]
theorem al_ne (α : Nd → Nat) {n n' : Nd} (a : Nat) (h : n' ≠ n) : adr α n a n' = α n' := by simp [adr, h]
theorem al_in {α : Nd → Nat} {h : AH} {n n' : Nd} {a : Nat} (hn : h n = none) (h' : h n' ≠ none) : adr α n a n' = α n' := al_ne α a (fun q => h' (by rw [q]; exact hn))
theorem cv_al {α : Nd → Nat} {h : AH} {n : Nd} {a : Nat} {v : AV} (hn : h n = none) (hv : okv h v) : cv (adr α n a) v = cv α v := by
  rcases v with x | _ | n'
  · rfl
  · rfl
  · show Value.ref _ = Value.ref _
    rw [al_in hn (hv n' rfl)]
theorem mj_at.al {G : GG} {α : Nd → Nat} {h : AH} {U : State} {b : Nat} {e : AE} {H : Heap} {n : Nd} {a : Nat} (hn : h n = none) (ho : okE h e) (ha : mj_at G α U b e H) : mj_at G (adr α n a) U b e H := by
  rcases e with ⟨t, k, f⟩ | ⟨t, k, g⟩ | ⟨ci, V⟩
  · exact ha
  · have e1 : (fun i => (g i).map (adr α n a)) = (fun i => (g i).map α) := by
      funext i
      cases hg : g i with
      | none => rfl
      | some n' => simp [al_in hn (ho i n' hg)]
    show H[b]? = some (vp_cell _ (_, .inr (.inr (.inr (.inr (fun i => (g i).map (adr α n a)))))))
    rw [e1]
    exact ha
  · obtain ⟨r, h1, h2⟩ := ha
    exact ⟨r, h1, h2.to (fun k _ => (cv_al hn (ho k)).symm)⟩
theorem mj_R.push {G : GG} {base : Nat} {α : Nd → Nat} {h : AH} {U : State} {H H1 : Heap} (hR : mj_R G base α h U H) {n : Nd} {e : AE} {a : Nat} (hn : h n = none) (ha : H.size ≤ a) (hb : base ≤ a) (he : mj_at G (adr α n a) U a e H1) (ho : okE (hset h n e) e) (oq : ∀ q : Nat, q < H.size → H1[q]? = H[q]?) : mj_R G base (adr α n a) (hset h n e) U H1 := by
  have lt : ∀ n', h n' ≠ none → α n' < H.size := fun n' h' => by
    cases hh : h n' with
    | none => exact absurd hh h'
    | some e' => exact (hR.1 n' e' hh).2.1.lt
  refine ⟨fun n' e' h' => ?_, fun x y hx hy hxy => ?_⟩
  · by_cases q : n' = n
    · subst q
      rw [hset_eq] at h'
      cases h'
      rw [al_eq]
      exact ⟨fun _ => hb, he, ho⟩
    · rw [hset_ne h e q] at h'
      obtain ⟨h1, h2, h3⟩ := hR.1 n' e' h'
      rw [al_ne α a q]
      exact ⟨h1, (h2.al hn h3).kept (oq _ h2.lt), h3.set⟩
  · by_cases q1 : x = n <;> by_cases q2 : y = n
    · rw [q1, q2]
    · rw [hset_ne h e q2] at hy
      rw [q1, al_eq, al_ne α a q2] at hxy
      have := lt y hy
      omega
    · rw [hset_ne h e q1] at hx
      rw [q2, al_eq, al_ne α a q1] at hxy
      have := lt x hx
      omega
    · rw [hset_ne h e q1] at hx
      rw [hset_ne h e q2] at hy
      rw [al_ne α a q1, al_ne α a q2] at hxy
      exact hR.2 x y hx hy hxy
theorem mj_L.set {α : Nd → Nat} {h : AH} {nL : Nat} {L : List (Option AV)} {ls : Array Slot} {n : Nd} {e : AE} (hL : mj_L α h nL L ls) : mj_L α (hset h n e) nL L ls := ⟨hL.1, hL.2.1, fun i v hi => ⟨(hL.2.2 i v hi).1, (hL.2.2 i v hi).2.set⟩⟩
theorem mj_L.push {α : Nd → Nat} {h : AH} {nL : Nat} {L : List (Option AV)} {ls : Array Slot} {n : Nd} {e : AE} {a : Nat} (hn : h n = none) (hL : mj_L α h nL L ls) : mj_L (adr α n a) (hset h n e) nL L ls := ⟨hL.1, hL.2.1, fun i v hi => by
  obtain ⟨h1, h2⟩ := hL.2.2 i v hi
  exact ⟨by rw [cv_al hn h2]; exact h1, h2.set⟩⟩
theorem map_al {α : Nd → Nat} {h : AH} {n : Nd} {a : Nat} (hn : h n = none) {st : List AV} (hst : ∀ v ∈ st, okv h v) : st.map (cv (adr α n a)) = st.map (cv α) := List.map_congr_left (fun v hv => cv_al hn (hst v hv))
theorem mj_S.put {base : Nat} {H0 H H1 : Heap} {locs : List Loc} {a k : Nat} (h : mj_S base H0 H locs) (z : H1.size = H.size) (oq : ∀ q : Nat, q ≠ a → H1[q]? = H[q]?) (ha : base ≤ a) : mj_S base H0 H1 (locs ++ [⟨a, k⟩]) := va_S.put h z oq ha
theorem mj_S.push {base : Nat} {H0 H H1 : Heap} {locs : List Loc} (h : mj_S base H0 H locs) (z : H.size ≤ H1.size) (oq : ∀ q : Nat, q < H.size → H1[q]? = H[q]?) : mj_S base H0 H1 locs := ⟨Nat.le_trans h.1 z, fun q h1 h2 => (oq q (Nat.lt_of_lt_of_le h1 h.1)).trans (h.2.1 q h1 h2), h.2.2⟩
section
variable {M : MI} {R : Room} {Z : ZT} {pc : Nat} {L : List (Option AV)} {st : List AV} {h : AH} {c sl : Nat}
theorem X_get {idx ci k nx : Nat} {n : Nd} {V : Nat → AV} {v : AV} (hd : mi M pc = some (.getfield idx, 3)) (hf : mj_F M.1.cls idx ci k) (hn : h n = some (.inr (.inr (ci, V)))) (hv : V k = v) (hx : pc + 3 = nx) (kk : X M R Z nx L (v :: st) h c sl) : X M R Z pc L (.inr (some n) :: st) h c sl := by
  intro p l e s m args below meth cd G base α0 D0 α H locs ls hC hb hD hR hS hL hst
  subst hx
  subst hv
  obtain ⟨⟨C, T, N⟩, hc, hk, hlw⟩ := hf
  obtain ⟨t, -, hcls⟩ := cls_ok _ _ hc
  obtain ⟨-, ⟨r, h1, cell, q1, q2, q3, q4⟩, hok⟩ := hR.1 n _ hn
  have hr : r = (C, T, N) := Option.some.inj (h1.symm.trans hc)
  subst hr
  obtain ⟨hSl, hfc, kC, hkC, hkind⟩ := hC.2.2.2.2.2.2.2.2.1.1 ci _ hc
  obtain ⟨cf, kf, fi, f, hi, hsl⟩ := hSl k hk
  have hT := hC.2.2.2.2.2.1
  refine W.getf (own := M.1.cls) hC.1 hC.2.1 hC.2.2.2.2.1 (hT _ hlw rfl) hi (u_facts hfc hkC (u_lays (ws := u_ws C T N) (fun w hw => hT w (hcls.1 w hw).1 (hcls.1 w hw).2) (fun _ hw => hw) hk) hi).1 q1 (by rw [q3]; exact fun z => by cases z) (v := cv α (V k)) ?_ rfl rfl (mi_dec hd hC.2.2.2.2.2.2.2.2.2) (kk p l e s m args below meth cd G base α0 D0 α H locs ls hC hb hD hR hS hL (fun v hv => by
    rcases List.mem_cons.mp hv with rfl | hv
    · exact hok k
    · exact hst v (List.mem_cons_of_mem _ hv)))
  rw [hsl, q4 k hk]
theorem X_put {idx ci k nx : Nat} {n : Nd} {V : Nat → AV} {v : AV} {q : vw_C} {t : Nat → FieldType} (hd : mi M pc = some (.putfield idx, 3)) (hf : mj_F M.1.cls idx ci k) (hc : mj_cl[ci]? = some q) (ht : mj_ft[ci]? = some t) (hfin : (q.2.1 k).2.2.2 = false ∨ ((q.2.1 k).2.2.2 = true ∧ M.1.name = "<init>" ∧ (q.2.1 k).1 = M.1.cls)) (hn : h n = some (.inr (.inr (ci, V)))) (hv : ∀ α, narrow (t k) (cv α v) = cv α v ∧ fits (t k) (cv α v) = true) (hx : pc + 3 = nx)
    (kk : X M R Z nx L st (hset h n (.inr (.inr (ci, va_up V k v)))) c sl) : X M R Z pc L (v :: .inr (some n) :: st) h c sl := by
  intro p l e s m args below meth cd G base α0 D0 α H locs ls hC hb hD hR hS hL hst
  subst hx
  obtain ⟨⟨C, T, N⟩, hc', hk, hlw⟩ := hf
  cases hc.symm.trans hc'
  obtain ⟨t', ht', hcls⟩ := cls_ok _ _ hc
  cases ht.symm.trans ht'
  obtain ⟨hbs, ⟨r, h1, cell, q1, q2, q3, q4⟩, hok⟩ := hR.1 n _ hn
  have hr : r = (C, T, N) := Option.some.inj (h1.symm.trans hc)
  subst hr
  have hKK := hC.2.2.2.2.2.2.2.2.1
  obtain ⟨hSl, hfc, kC, hkC, hkind⟩ := hKK.1 ci _ hc
  obtain ⟨cf, kf, fi, f, hi, hsl⟩ := hSl k hk
  have hT := hC.2.2.2.2.2.1
  have hts : ∀ w ∈ u_ws C T N, w.before args s = true := fun w hw => hT w (hcls.1 w hw).1 (hcls.1 w hw).2
  have hap : ∀ x y, x < N → y < N → x ≠ y → (G.2.1 ci) x ≠ (G.2.1 ci) y := va_apart (D := (G.1, G.2.1)) (cl := mj_cl) (tys := []) (own := M.1.cls) hts (fun _ hw => hw) t hcls.2.1 hcls.2.2.1 ⟨hKK.1, fun k q hq => by simp at hq⟩ hc
  have hst2 := (u_facts hfc hkC (u_lays hts (fun _ hw => hw) hk) hi).1
  have hdec := mi_dec hd hC.2.2.2.2.2.2.2.2.2
  have hvok : okv h v := hst _ List.mem_cons_self
  have hlay := hts _ (u_in_lay hk)
  have fin : ∀ (H1 : Heap) (locs1 : List Loc), H1[α n]? = some (cell.setSlot f.slot (cv α v)) → H1.size = H.size → (∀ q, q ≠ α n → H1[q]? = H[q]?) → mj_S base s.heap H1 locs1 → W p l e R s m args below meth cd H1 locs1 c sl (Z G base α0 D0 below args s) (F0 m (pc + 3) ls (st.map (cv α))) := by
    intro H1 locs1 e1 e2 e3 hS1
    refine kk p l e s m args below meth cd G base α0 D0 α H1 locs1 ls hC hb (fun n' hn' => ⟨hset_dom (hD n' hn').1, (hD n' hn').2⟩) (hR.set hn trivial ?_ ?_ e3) hS1 hL.set (fun v hv => (hst v (List.mem_cons_of_mem _ (List.mem_cons_of_mem _ hv))).set)
    · rw [hsl] at e1
      refine ⟨_, hc, t_OB.to (V := updV (fun k => cv α (V k)) k (cv α v)) ⟨_, e1, q2, q3, t_set q4 hap hk (cv α v)⟩ (fun j _ => ?_)⟩
      by_cases hj : j = k
      · simp [updV, va_up, hj]
      · simp [updV, va_up, hj]
    · intro j
      by_cases hj : j = k
      · simp only [va_up, hj, if_true]; exact hvok
      · simp only [va_up, hj, if_false]; exact hok j
  unfold u_lay at hlay
  rcases hfin with hfin | ⟨hfin, hin2, hdecl⟩
  · rw [if_neg (by rw [hfin]; decide)] at hlay
    have h6 := u_store hfc hkC hkind hlay hi (hcls.2.1 k hk) (hv α).1 (hv α).2
    exact W.putK (own := M.1.cls) hC.1 hC.2.1 (f := f) ⟨hC.2.2.2.2.1, hT _ hlw rfl, ⟨_, _, _, hi⟩, hst2⟩ (by rw [q2]; exact h6) q1 q3 (by rw [hsl]; exact k2_hasslot (q4 k hk)) rfl rfl hdec (fun H' e1 e2 e3 => fin H' _ e1 e2 e3 (hS.put e2 e3 (hbs trivial)))
  · rw [if_pos hfin] at hlay
    have hown := hC.2.2.2.2.1
    have hcf : m.cls = cf := by
      obtain ⟨_, _, c', _, _, _, -, -, hf', -, -, -, hown2, -⟩ := Cond.laysFinal_spec hlay
      have e1 : c' = cf := by have := hi.symm.trans hf'; simp at this; exact this.1.symm
      rw [hdecl] at hown2
      rw [← e1]; exact Option.some.inj (hown.symm.trans hown2)
    have h6 := u_fits hfc hkC hkind (Or.inr hlay) hi (hcls.2.1 k hk) (hv α).1 (hv α).2
    exact W.putFinK (own := M.1.cls) hC.1 hC.2.1 hown (hT _ hlw rfl) hi hst2 hcf (hC.2.2.2.2.2.2.2.1.trans hin2) (by rw [q2]; exact h6) q1 q3 (by rw [hsl]; exact k2_hasslot (q4 k hk)) rfl rfl hdec (fun H' e1 e2 e3 => fin H' _ e1 e2 e3 (hS.put e2 e3 (hbs trivial)))
/-- an int array, or the script: what it holds in the machine -/
theorem mj_int {G : GG} {α : Nd → Nat} {s : State} {a t n : Nat} {f : Nat → Int32} {H : Heap} (hK : mj_K G s) (ht : t = 0 ∨ t = 7) (h : mj_at G α s a (.inl (t, n, f)) H) : ∃ cell : Cell, H[a]? = some cell ∧ s.isArrayOf cell .int ∧ cell.vm ≠ .unknown ∧ cell.slots.size = n ∧ ∀ j, j < n → cell.slots[j]? = some (.int (f j)) := by
  rcases h with ⟨h1, h2⟩ | ⟨h1, h2⟩
  · exact h2
  · rcases ht with rfl | rfl
    · exact ⟨_, h2, (hK.2 0 _ rfl).1 n (fun j => .int (f j)), (fun q => by cases q), arrV_size _ _ _, fun j hj => arrV_read _ _ hj⟩
    · exact absurd rfl h1
theorem X_iald {n : Nd} {t len nx : Nat} {f : Nat → Int32} {i : Int32} (hd : mi M pc = some (.iaload, 1)) (hn : h n = some (.inl (t, len, f))) (ht : t = 0 ∨ t = 7) (hi : vp_in i len) (hx : pc + 1 = nx) (kk : X M R Z nx L (.inl (f i.toNatClampNeg) :: st) h c sl) : X M R Z pc L (.inl i :: .inr (some n) :: st) h c sl := by
  intro p l e s m args below meth cd G base α0 D0 α H locs ls hC hb hD hR hS hL hst
  subst hx
  obtain ⟨-, hat, -⟩ := hR.1 n _ hn
  obtain ⟨cell, h1, h2, h3, h4, h5⟩ := mj_int hC.2.2.2.2.2.2.2.2.1 ht hat
  have hlt : i.toNatClampNeg < len := Nat.not_le.mp fun q => hi (Or.inr q)
  exact W.iald (v := .int (f i.toNatClampNeg)) hC.1 hC.2.1 h1 h2 h3 (by rw [h4]; exact hi) (h5 _ hlt) rfl rfl (mi_dec hd hC.2.2.2.2.2.2.2.2.2) (kk p l e s m args below meth cd G base α0 D0 α H locs ls hC hb hD hR hS hL (fun v hv => by
    rcases List.mem_cons.mp hv with rfl | hv
    · exact okv_i _
    · exact hst v (List.mem_cons_of_mem _ (List.mem_cons_of_mem _ hv))))
theorem X_alen {n : Nd} {t len nx : Nat} {f : Nat → Int32} (hd : mi M pc = some (.arraylength, 1)) (hn : h n = some (.inl (t, len, f))) (ht : t = 0 ∨ t = 7) (hx : pc + 1 = nx) (kk : X M R Z nx L (.inl (Int32.ofNat len) :: st) h c sl) : X M R Z pc L (.inr (some n) :: st) h c sl := by
  intro p l e s m args below meth cd G base α0 D0 α H locs ls hC hb hD hR hS hL hst
  subst hx
  obtain ⟨-, hat, -⟩ := hR.1 n _ hn
  obtain ⟨cell, h1, h2, h3, h4, h5⟩ := mj_int hC.2.2.2.2.2.2.2.2.1 ht hat
  exact W.alen (n := Int32.ofNat len) hC.1 hC.2.1 h1 h2 (by rw [h4] <;> rfl) rfl rfl (mi_dec hd hC.2.2.2.2.2.2.2.2.2) (kk p l e s m args below meth cd G base α0 D0 α H locs ls hC hb hD hR hS hL (fun v hv => by
    rcases List.mem_cons.mp hv with rfl | hv
    · exact okv_i _
    · exact hst v (List.mem_cons_of_mem _ hv)))
theorem X_alenq {n : Nd} {t len nx : Nat} {g : Nat → Option Nd} (hd : mi M pc = some (.arraylength, 1)) (hn : h n = some (.inr (.inl (t, len, g)))) (ht : t < 7) (hx : pc + 1 = nx) (kk : X M R Z nx L (.inl (Int32.ofNat len) :: st) h c sl) : X M R Z pc L (.inr (some n) :: st) h c sl := by
  intro p l e s m args below meth cd G base α0 D0 α H locs ls hC hb hD hR hS hL hst
  subst hx
  obtain ⟨-, hat, -⟩ := hR.1 n _ hn
  obtain ⟨ty, hty⟩ : ∃ ty, mj_ar[t]? = some ty := ⟨_, List.getElem?_eq_getElem (by simpa [mj_ar] using ht)⟩
  exact W.alen (n := Int32.ofNat len) hC.1 hC.2.1 hat ((hC.2.2.2.2.2.2.2.2.1.2 t _ hty).1 len (fun j => va_rf ((g j).map α))) (by rw [vp_cell_q, arrV_size] <;> rfl) rfl rfl (mi_dec hd hC.2.2.2.2.2.2.2.2.2) (kk p l e s m args below meth cd G base α0 D0 α H locs ls hC hb hD hR hS hL (fun v hv => by
    rcases List.mem_cons.mp hv with rfl | hv
    · exact okv_i _
    · exact hst v (List.mem_cons_of_mem _ hv)))
theorem X_iast {n : Nd} {len nx : Nat} {f : Nat → Int32} {i x : Int32} (hd : mi M pc = some (.iastore, 1)) (hn : h n = some (.inl (0, len, f))) (hi : vp_in i len) (hx : pc + 1 = nx) (kk : X M R Z nx L st (hset h n (.inl (0, len, upd f i.toNatClampNeg x))) c sl) : X M R Z pc L (.inl x :: .inl i :: .inr (some n) :: st) h c sl := by
  intro p l e s m args below meth cd G base α0 D0 α H locs ls hC hb hD hR hS hL hst
  subst hx
  obtain ⟨hbs, hat, -⟩ := hR.1 n _ hn
  have hat : H[α n]? = some (vp_cell (G.2.2 0) (len, .inl f)) := by
    rcases hat with ⟨h7, -⟩ | ⟨-, hh⟩
    · cases h7
    · exact hh
  refine W.iast hC.1 hC.2.1 hat ((hC.2.2.2.2.2.2.2.2.1.2 0 _ rfl).1 len (fun j => .int (f j))) (fun q => by cases q) (by show ¬ (i < 0 ∨ (arrV _ _ _).slots.size ≤ _); rw [arrV_size]; exact hi) rfl rfl (mi_dec hd hC.2.2.2.2.2.2.2.2.2) fun H1 e1 z oq => ?_
  refine kk p l e s m args below meth cd G base α0 D0 α H1 _ ls hC hb (fun n' hn' => ⟨hset_dom (hD n' hn').1, (hD n' hn').2⟩) (hR.set hn (by intro z; cases z) (Or.inr ⟨(by intro z; cases z), ?_⟩) trivial oq) (hS.put z oq (hbs (by intro z; cases z))) hL.set (fun v hv => (hst v (List.mem_cons_of_mem _ (List.mem_cons_of_mem _ (List.mem_cons_of_mem _ hv)))).set)
  rw [e1, vp_cell_i, vp_cell_i, arrV_store]
  congr 2
  funext q
  by_cases hq : q = i.toNatClampNeg
  · subst hq
    simp [updV, upd]
  · simp [updV, upd, hq]
theorem X_zald {n : Nd} {len nx : Nat} {f : Nat → Int32} {i : Int32} (hd : mi M pc = some (.baload, 1)) (hn : h n = some (.inl (1, len, f))) (hi : vp_in i len) (hx : pc + 1 = nx) (kk : X M R Z nx L (.inl (f i.toNatClampNeg) :: st) h c sl) : X M R Z pc L (.inl i :: .inr (some n) :: st) h c sl := by
  intro p l e s m args below meth cd G base α0 D0 α H locs ls hC hb hD hR hS hL hst
  subst hx
  obtain ⟨hbs, hat, -⟩ := hR.1 n _ hn
  have hat : H[α n]? = some (vp_cell (G.2.2 1) (len, .inl f)) := by
    rcases hat with ⟨h7, -⟩ | ⟨-, hh⟩
    · cases h7
    · exact hh
  have hlt : i.toNatClampNeg < len := Nat.not_le.mp fun q => hi (Or.inr q)
  exact W.zald (v := .int (f i.toNatClampNeg)) hC.1 hC.2.1 hat ((hC.2.2.2.2.2.2.2.2.1.2 1 _ rfl).1 len (fun j => .int (f j))) (fun q => by cases q) (by show ¬ (i < 0 ∨ (arrV _ _ _).slots.size ≤ _); rw [arrV_size]; exact hi) (by show (arrV _ _ _).slots[_]? = _; rw [arrV_read _ _ hlt]) rfl rfl (mi_dec hd hC.2.2.2.2.2.2.2.2.2) (kk p l e s m args below meth cd G base α0 D0 α H locs ls hC hb hD hR hS hL (fun v hv => by
    rcases List.mem_cons.mp hv with rfl | hv
    · exact okv_i _
    · exact hst v (List.mem_cons_of_mem _ (List.mem_cons_of_mem _ hv))))
theorem X_zast {n : Nd} {len nx : Nat} {f : Nat → Int32} {i x : Int32} (hd : mi M pc = some (.bastore, 1)) (hn : h n = some (.inl (1, len, f))) (hi : vp_in i len) (hz : narrow .boolean (.int x) = .int x) (hx : pc + 1 = nx) (kk : X M R Z nx L st (hset h n (.inl (1, len, upd f i.toNatClampNeg x))) c sl) : X M R Z pc L (.inl x :: .inl i :: .inr (some n) :: st) h c sl := by
  intro p l e s m args below meth cd G base α0 D0 α H locs ls hC hb hD hR hS hL hst
  subst hx
  obtain ⟨hbs, hat, -⟩ := hR.1 n _ hn
  have hat : H[α n]? = some (vp_cell (G.2.2 1) (len, .inl f)) := by
    rcases hat with ⟨h7, -⟩ | ⟨-, hh⟩
    · cases h7
    · exact hh
  refine W.zast hC.1 hC.2.1 hat ((hC.2.2.2.2.2.2.2.2.1.2 1 _ rfl).1 len (fun j => .int (f j))) (fun q => by cases q) (by show ¬ (i < 0 ∨ (arrV _ _ _).slots.size ≤ _); rw [arrV_size]; exact hi) rfl rfl (mi_dec hd hC.2.2.2.2.2.2.2.2.2) fun H1 e1 z oq => ?_
  refine kk p l e s m args below meth cd G base α0 D0 α H1 _ ls hC hb (fun n' hn' => ⟨hset_dom (hD n' hn').1, (hD n' hn').2⟩) (hR.set hn (by intro z; cases z) (Or.inr ⟨(by intro z; cases z), ?_⟩) trivial oq) (hS.put z oq (hbs (by intro z; cases z))) hL.set (fun v hv => (hst v (List.mem_cons_of_mem _ (List.mem_cons_of_mem _ (List.mem_cons_of_mem _ hv)))).set)
  rw [e1, vp_cell_i, vp_cell_i, arrV_store, hz]
  congr 2
  funext q
  by_cases hq : q = i.toNatClampNeg
  · subst hq
    simp [updV, upd]
  · simp [updV, upd, hq]
theorem X_aald {n : Nd} {t len nx : Nat} {g : Nat → Option Nd} {i : Int32} (hd : mi M pc = some (.aaload, 1)) (hn : h n = some (.inr (.inl (t, len, g)))) (ht : 2 ≤ t ∧ t < 7) (hi : vp_in i len) (hx : pc + 1 = nx) (kk : X M R Z nx L (.inr (g i.toNatClampNeg) :: st) h c sl) : X M R Z pc L (.inl i :: .inr (some n) :: st) h c sl := by
  intro p l e s m args below meth cd G base α0 D0 α H locs ls hC hb hD hR hS hL hst
  subst hx
  obtain ⟨hbs, hat, hok⟩ := hR.1 n _ hn
  have hlt : i.toNatClampNeg < len := Nat.not_le.mp fun q => hi (Or.inr q)
  obtain ⟨ty, hty, hrt⟩ : ∃ ty, mj_ar[t]? = some ty ∧ ty.isReference = true := by
    obtain ⟨h1, h2⟩ := ht
    match t, h1, h2 with
    | 2, _, _ => exact ⟨_, rfl, rfl⟩
    | 3, _, _ => exact ⟨_, rfl, rfl⟩
    | 4, _, _ => exact ⟨_, rfl, rfl⟩
    | 5, _, _ => exact ⟨_, rfl, rfl⟩
    | 6, _, _ => exact ⟨_, rfl, rfl⟩
  have ec : va_rf ((g i.toNatClampNeg).map α) = cv α (.inr (g i.toNatClampNeg)) := by cases g i.toNatClampNeg <;> rfl
  refine W.aald (v := va_rf ((g i.toNatClampNeg).map α)) (ty := ty) hC.1 hC.2.1 hat ((hC.2.2.2.2.2.2.2.2.1.2 t _ hty).1 len (fun j => va_rf ((g j).map α))) hrt (fun q => by cases q) (by show ¬ (i < 0 ∨ (arrV _ _ _).slots.size ≤ _); rw [arrV_size]; exact hi) (by show (arrV _ _ _).slots[_]? = _; rw [arrV_read _ _ hlt]) rfl rfl (mi_dec hd hC.2.2.2.2.2.2.2.2.2) ?_
  rw [ec]
  exact kk p l e s m args below meth cd G base α0 D0 α H locs ls hC hb hD hR hS hL (fun v hv => by
    rcases List.mem_cons.mp hv with rfl | hv
    · exact fun n' hn' => hok _ _ (Sum.inr.inj hn')
    · exact hst v (List.mem_cons_of_mem _ (List.mem_cons_of_mem _ hv)))
theorem X_aast {n n2 : Nd} {t len nx ci : Nat} {g : Nat → Option Nd} {V : Nat → AV} {q : vw_C} {i : Int32} (hd : mi M pc = some (.aastore, 1)) (hn : h n = some (.inr (.inl (t, len, g)))) (hn2 : h n2 = some (.inr (.inr (ci, V)))) (hc : mj_cl[ci]? = some q) (ht : mj_ar[t]? = some (.object q.1)) (hi : vp_in i len) (hx : pc + 1 = nx) (kk : X M R Z nx L st (hset h n (.inr (.inl (t, len, va_up g i.toNatClampNeg (some n2))))) c sl) : X M R Z pc L (.inr (some n2) :: .inl i :: .inr (some n) :: st) h c sl := by
  intro p l e s m args below meth cd G base α0 D0 α H locs ls hC hb hD hR hS hL hst
  subst hx
  obtain ⟨hbs, hat, hok⟩ := hR.1 n _ hn
  obtain ⟨-, ⟨r', hr', cellV, g1, g2, g3, -⟩, -⟩ := hR.1 n2 _ hn2
  have hKK := hC.2.2.2.2.2.2.2.2.1
  have hlt : i.toNatClampNeg < len := Nat.not_le.mp fun z => hi (Or.inr z)
  have h0 : ¬ i < 0 := fun z => hi (Or.inl z)
  have hcls := (hKK.1 ci q hc).2
  obtain ⟨kA, comp, k1, k2, k3, -⟩ := (hKK.2 t _ ht).2
  have hcomp : comp = G.1 ci := Option.some.inj (k3.symm.trans hcls.1)
  subst hcomp
  obtain ⟨kC, hkC, -⟩ := hcls.2
  refine W.aast hC.1 hC.2.1 hat (fun z hz => by cases hz) (fun hz => by cases hz) k1 k2 rfl hkC ⟨h0, by show _ < (arrV _ _ _).slots.size; rw [arrV_size]; exact hlt⟩ g1 (fun z hz => by rw [g3] at hz; cases hz) (by rw [g2]; exact hkC) (by rw [g2]; exact va_assign hcls) rfl rfl (mi_dec hd hC.2.2.2.2.2.2.2.2.2) fun H1 e1 z oq => ?_
  refine kk p l e s m args below meth cd G base α0 D0 α H1 _ ls hC hb (fun n' hn' => ⟨hset_dom (hD n' hn').1, (hD n' hn').2⟩) (hR.set hn trivial ?_ ?_ oq) (hS.put z oq (hbs trivial)) hL.set (fun v hv => (hst v (List.mem_cons_of_mem _ (List.mem_cons_of_mem _ (List.mem_cons_of_mem _ hv)))).set)
  · show H1[α n]? = some (vp_cell _ _)
    rw [e1, vp_cell_q, vp_cell_q, arrV_store]
    congr 2
    funext j
    by_cases hj : j = i.toNatClampNeg
    · simp [updV, va_up, va_rf, hj]
    · simp [updV, va_up, hj]
  · intro j n' hj
    by_cases e : j = i.toNatClampNeg
    · simp only [va_up, e, if_true] at hj
      cases hj
      rw [hn2]; simp
    · simp only [va_up, e, if_false] at hj
      exact hok j n' hj
end
