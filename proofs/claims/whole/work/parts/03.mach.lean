/-! THE SMALL MACHINE: an abstract heap of named nodes; X: the walk of a method's body over it. Refs are names (role, number), never addresses. -/
abbrev Nd : Type := Nat × Nat
abbrev AV : Type := Int32 ⊕ Option Nd
abbrev AE : Type := (Nat × Nat × (Nat → Int32)) ⊕ ((Nat × Nat × (Nat → Option Nd)) ⊕ (Nat × (Nat → AV)))
abbrev AH : Type := Nd → Option AE
abbrev GG : Type := (Nat → ClassId) × (Nat → Nat → Nat) × (Nat → ClassId)
def cv (α : Nd → Nat) : AV → Value
  | .inl x => .int x
  | .inr none => .null
  | .inr (some n) => .ref (α n)
theorem cv_cat (α : Nd → Nat) (v : AV) : (cv α v).category = 1 := by
  rcases v with x | _ | n <;> rfl
/-- the kinds of arrays: 0 int, 1 boolean, then of references; 7 is the law's script, which is only read -/
abbrev mj_ar : List FieldType := [.int, .boolean, .object R_De, .object R_Dv, .object R_Th, .object R_Rw, .array .int]
def okv (h : AH) (v : AV) : Prop := ∀ n, v = .inr (some n) → h n ≠ none
/-- the refs that a cell holds are held -/
def okE (h : AH) (e : AE) : Prop := match e with
  | .inl _ => True
  | .inr (.inl (_, _, g)) => ∀ i n, g i = some n → h n ≠ none
  | .inr (.inr (_, V)) => ∀ k, okv h (V k)
def mj_at (G : GG) (α : Nd → Nat) (U : State) (a : Nat) (e : AE) (H : Heap) : Prop := match e with
  | .inl (t, n, f) => (t = 7 ∧ va_X a n f U H) ∨ (t ≠ 7 ∧ H[a]? = some (vp_cell (G.2.2 t) (n, .inl f)))
  | .inr (.inl (t, n, g)) => H[a]? = some (vp_cell (G.2.2 t) (n, .inr (.inr (.inr (.inr (fun i => (g i).map α))))))
  | .inr (.inr (ci, V)) => ∃ r : vw_C, mj_cl[ci]? = some r ∧ t_OB a (G.1 ci) r.2.2 (G.2.1 ci) H (fun k => cv α (V k))
/-- only what isn't the script may be written -/
def wrt (e : AE) : Prop := match e with
  | .inl (t, _, _) => t ≠ 7
  | _ => True
def mj_R (G : GG) (base : Nat) (α : Nd → Nat) (h : AH) (U : State) (H : Heap) : Prop :=
  (∀ n e, h n = some e → (wrt e → base ≤ α n) ∧ mj_at G α U (α n) e H ∧ okE h e) ∧ ∀ n n', h n ≠ none → h n' ≠ none → α n = α n' → n = n'
def mj_K (G : GG) (U : State) : Prop :=
  (∀ (c : Nat) (q : vw_C), mj_cl[c]? = some q → u_Kn U q.1 q.2.1 q.2.2 (G.1 c) (G.2.1 c)) ∧
  (∀ (t : Nat) (ty : FieldType), mj_ar[t]? = some ty → ArrOfT U (G.2.2 t) ty ∧ va_RA U (G.2.2 t) ty)
def okW (w : Cond) : Bool := goodWord w || (match w with
  | .methodLinkNest .. => true
  | .arrayOver _ => true
  | .castable .. => true
  | _ => false)
def mj_T (U : State) (args : Array Value) : Prop := ∀ w ∈ lw_tbl, okW w = true → w.before args U = true
def mj_S (base : Nat) (H0 H : Heap) (locs : List Loc) : Prop := va_S (fun q => base ≤ q) H0 H locs
def mj_L (α : Nd → Nat) (h : AH) (nL : Nat) (L : List (Option AV)) (ls : Array Slot) : Prop :=
  ls.size = nL ∧ lv_wf ls ∧ ∀ (i : Nat) (v : AV), L[i]? = some (some v) → ls[i]? = some (Slot.val (cv α v)) ∧ okv h v
def mj_C (M : MI) (p : Program) (s : State) (m : MethodId) (args : Array Value) (meth : Method) (cd : Code) (G : GG) : Prop :=
  p.tables.exec = Jvm.exec ∧ cd.code = M.2.1 ∧ meth.sig.returnType = M.2.2.2.1 ∧ cd.maxLocals = M.2.2.1 ∧ s.vm.findClass M.1.cls = some m.cls ∧ mj_T s args ∧ meth.locks = false ∧ meth.name = M.1.name ∧ mj_K G s ∧
  ∀ q ∈ M.2.2.2.2.2.2, decode M.2.1 q.1 = .ok (q.2.1, q.2.2)
abbrev ZT : Type := GG → Nat → (Nd → Nat) → (Nd → Prop) → List Frame → Array Value → State → State → Prop
def X (M : MI) (R : Room) (Z : ZT) (pc : Nat) (L : List (Option AV)) (st : List AV) (h : AH) (c sl : Nat) : Prop :=
  ∀ (p : Program) (l : Launch) (e : Env) (s : State) (m : MethodId) (args : Array Value) (below : List Frame) (meth : Method) (cd : Code) (G : GG) (base : Nat) (α0 : Nd → Nat) (D0 : Nd → Prop) (α : Nd → Nat) (H : Heap) (locs : List Loc) (ls : Array Slot),
    mj_C M p s m args meth cd G → base ≤ s.heap.size → (∀ n, D0 n → h n ≠ none ∧ α n = α0 n) → mj_R G base α h s H → mj_S base s.heap H locs → mj_L α h M.2.2.1 L ls → (∀ v ∈ st, okv h v) →
    W p l e R s m args below meth cd H locs c sl (Z G base α0 D0 below args s) (F0 m pc ls (st.map (cv α)))
/-- what a method's end says -/
def mj_Q (Q : Option AV → AH → Prop) (G : GG) (base : Nat) (α0 : Nd → Nat) (D0 : Nd → Prop) : Array Value → State → Outcome → State → Prop := fun _ st o t =>
  ∃ (α : Nd → Nat) (h : AH) (r : Option AV), o = .returned (r.map (cv α)) ∧ (∀ n, D0 n → h n ≠ none ∧ α n = α0 n) ∧ mj_R G base α h t t.heap ∧ (∀ v, r = some v → okv h v) ∧ Q r h ∧ va_F (fun q => base ≤ q) st t
def Zm (Q : Option AV → AH → Prop) (mc ms : Nat) : ZT := fun G base α0 D0 below args s => MQ below (mj_Q Q G base α0 D0) args s mc ms (fun q => base ≤ q)
/-- the instruction at a place -/
def mi (M : MI) (pc : Nat) : Option (Instr × Nat) := M.2.2.2.2.2.2.lookup pc
theorem mi_dec {M : MI} {pc : Nat} {i : Instr} {n : Nat} (h : mi M pc = some (i, n)) (hM : ∀ q ∈ M.2.2.2.2.2.2, decode M.2.1 q.1 = .ok (q.2.1, q.2.2)) : decode M.2.1 pc = .ok (i, n) := by
  unfold mi at h
  generalize M.2.2.2.2.2.2 = l at h hM
  induction l with
  | nil => simp at h
  | cons q r ih =>
    obtain ⟨k, x⟩ := q
    rw [List.lookup_cons] at h
    by_cases hk : pc = k
    · subst hk
      simp at h
      have := hM _ List.mem_cons_self
      rw [h] at this
      exact this
    · have : (pc == k) = false := by simpa using hk
      rw [this] at h
      exact ih h (fun q hq => hM q (List.mem_cons_of_mem _ hq))
theorem mj_R.moved {G : GG} {base : Nat} {α : Nd → Nat} {h : AH} {u U : State} {H : Heap} (hvm : u.vm.Alike U.vm) (hR : mj_R G base α h u H) : mj_R G base α h U H := by
  refine ⟨fun n e he => ?_, hR.2⟩
  obtain ⟨h1, h2, h3⟩ := hR.1 n e he
  refine ⟨h1, ?_, h3⟩
  rcases e with ⟨t, k, f⟩ | ⟨t, k, g⟩ | ⟨ci, V⟩
  · rcases h2 with ⟨e7, h2⟩ | h2
    · exact Or.inl ⟨e7, h2.moved hvm⟩
    · exact Or.inr h2
  · exact h2
  · exact h2
theorem mj_K.moved {G : GG} {u U : State} (hvm : u.vm.Alike U.vm) (h : mj_K G u) : mj_K G U :=
  ⟨fun c q hq => u_Kn_moved hvm (h.1 c q hq), fun t ty ht => ⟨arrOfT_moved hvm (h.2 t ty ht).1, (h.2 t ty ht).2.moved hvm⟩⟩
theorem okW_warm {w : Cond} (hw : okW w = true) {s U : State} {args a' : Array Value} (hW : s.WarmedH U.vm) (h : w.before args s = true) : w.before a' U = true := by
  unfold okW at hw
  rw [Bool.or_eq_true] at hw
  rcases hw with hw | hw
  · exact word_at hW (good_of_word hw) h
  · cases w with
    | methodLinkNest a i x hh => exact va_Nw.use rfl (va_Nw.warmM hW (va_Nw.of rfl h))
    | castable a b => exact va_Nw.use rfl (va_Nw.warmC hW (va_Nw.of rfl h))
    | arrayOver ty =>
      have h1 : (Cond.arrayOver ty).before args (s.setVm U.vm) = true := by rw [Cond.arrayOver_setVmC hW.alike ty]; exact h
      exact h1
    | _ => simp at hw
theorem mj_T.warm {s U : State} {args a' : Array Value} (hW : s.WarmedH U.vm) (h : mj_T s args) : mj_T U a' := fun w hw ho => okW_warm ho hW (h w hw ho)
