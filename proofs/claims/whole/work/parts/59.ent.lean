/-! the claim -/
theorem all_chunks {α : Type} {P : α → Prop} {l : List α} (hl : l.length ≤ 550) (h : ∀ k, k < 11 → ∀ q ∈ (l.drop (50 * k)).take 50, P q) : ∀ q ∈ l, P q := by
  intro q hq
  obtain ⟨i, hi⟩ := List.getElem?_of_mem hq
  have hl2 := (List.getElem?_eq_some_iff.mp hi).1
  refine h (i / 50) (by omega) q (List.mem_of_getElem? (i := i - 50 * (i / 50)) ?_)
  rw [List.getElem?_take, if_pos (by omega), List.getElem?_drop, show 50 * (i / 50) + (i - 50 * (i / 50)) = i by omega]
  exact hi
theorem dc_law : ∀ q ∈ tb_La_law, dcP q := by
  refine all_chunks dc_len (fun k hk => ?_)
  rcases (show k = 0 ∨ k = 1 ∨ k = 2 ∨ k = 3 ∨ k = 4 ∨ k = 5 ∨ k = 6 ∨ k = 7 ∨ k = 8 ∨ k = 9 ∨ k = 10 by omega) with rfl | rfl | rfl | rfl | rfl | rfl | rfl | rfl | rfl | rfl | rfl
  · exact dc_0
  · exact dc_1
  · exact dc_2
  · exact dc_3
  · exact dc_4
  · exact dc_5
  · exact dc_6
  · exact dc_7
  · exact dc_8
  · exact dc_9
  · exact dc_10
theorem mj_Kex {s : State} {args : Array Value} (hts : ∀ w ∈ lw_tbl, w.before args s = true) : ∃ G : GG, mj_K G s := by
  have hC : ∀ c : Nat, ∃ p : ClassId × (Nat → Nat), ∀ q : vw_C, mj_cl[c]? = some q → u_Kn s q.1 q.2.1 q.2.2 p.1 p.2 := by
    intro c
    rcases (show c = 0 ∨ c = 1 ∨ c = 2 ∨ c = 3 ∨ c = 4 ∨ c = 5 ∨ c = 6 ∨ c = 7 ∨ 8 ≤ c by omega) with rfl | rfl | rfl | rfl | rfl | rfl | rfl | rfl | h8
    · obtain ⟨cC, iS, hk⟩ := u_known (C := R_De) (T := T_De) (N := 8) (n := 8) hts in_De (hts (.instantiable R_De 8) (by decide +kernel))
      exact ⟨(cC, iS), fun q hq => by cases hq; exact hk⟩
    · obtain ⟨cC, iS, hk⟩ := u_known (C := R_Dv) (T := T_Dv) (N := 2) (n := 2) hts in_Dv (hts (.instantiable R_Dv 2) (by decide +kernel))
      exact ⟨(cC, iS), fun q hq => by cases hq; exact hk⟩
    · obtain ⟨cC, iS, hk⟩ := u_known (C := R_Lg) (T := T_Lg) (N := 3) (n := 3) hts in_Lg (hts (.instantiable R_Lg 3) (by decide +kernel))
      exact ⟨(cC, iS), fun q hq => by cases hq; exact hk⟩
    · obtain ⟨cC, iS, hk⟩ := u_known (C := R_Pi) (T := T_Pi) (N := 11) (n := 11) hts in_Pi (hts (.instantiable R_Pi 11) (by decide +kernel))
      exact ⟨(cC, iS), fun q hq => by cases hq; exact hk⟩
    · obtain ⟨cC, iS, hk⟩ := u_known (C := R_Rw) (T := T_Rw) (N := 7) (n := 7) hts in_Rw (hts (.instantiable R_Rw 7) (by decide +kernel))
      exact ⟨(cC, iS), fun q hq => by cases hq; exact hk⟩
    · obtain ⟨cC, iS, hk⟩ := u_known (C := R_Th) (T := T_Th) (N := 10) (n := 10) hts in_Th (hts (.instantiable R_Th 10) (by decide +kernel))
      exact ⟨(cC, iS), fun q hq => by cases hq; exact hk⟩
    · obtain ⟨cC, iS, hk⟩ := u_known (C := R_Pl) (T := T_Pl) (N := 7) (n := 7) hts in_Pl (hts (.instantiable R_Pl 7) (by decide +kernel))
      exact ⟨(cC, iS), fun q hq => by cases hq; exact hk⟩
    · obtain ⟨cC, iS, hk⟩ := u_known (C := R_Mo) (T := T_Mo) (N := 22) (n := 22) hts in_Mo (hts (.instantiable R_Mo 22) (by decide +kernel))
      exact ⟨(cC, iS), fun q hq => by cases hq; exact hk⟩
    · refine ⟨(0, fun _ => 0), fun q hq => ?_⟩
      have := (List.getElem?_eq_some_iff.mp hq).1
      have e : mj_cl.length = 8 := rfl
      omega
  have hA : ∀ t : Nat, ∃ cA : ClassId, ∀ ty : FieldType, mj_ar[t]? = some ty → ArrOfT s cA ty ∧ va_RA s cA ty := by
    intro t
    rcases (show t = 0 ∨ t = 1 ∨ t = 2 ∨ t = 3 ∨ t = 4 ∨ t = 5 ∨ t = 6 ∨ 7 ≤ t by omega) with rfl | rfl | rfl | rfl | rfl | rfl | rfl | h7
    · obtain ⟨cA, k, comp, f1, f2, f3⟩ := Cond.arrayClass_spec (hts (.arrayClass .int) (by decide +kernel))
      exact ⟨cA, fun ty ht => by cases ht; exact ⟨fun N z => ⟨(fun k h => by cases h), k, f2, comp, f3⟩, f1⟩⟩
    · obtain ⟨cA, k, comp, f1, f2, f3⟩ := Cond.arrayClass_spec (hts (.arrayClass .boolean) (by decide +kernel))
      exact ⟨cA, fun ty ht => by cases ht; exact ⟨fun N z => ⟨(fun k h => by cases h), k, f2, comp, f3⟩, f1⟩⟩
    · obtain ⟨comp, cA, k, f1, f2, f3, f4, f5⟩ := Cond.arrayOver_spec (hts (.arrayOver (.object R_De)) (by decide +kernel))
      exact ⟨cA, fun ty ht => by cases ht; exact ⟨fun N z => ⟨(fun k h => by cases h), k, f3, comp, f4⟩, ⟨k, comp, f3, f4, f1, f5⟩⟩⟩
    · obtain ⟨comp, cA, k, f1, f2, f3, f4, f5⟩ := Cond.arrayOver_spec (hts (.arrayOver (.object R_Dv)) (by decide +kernel))
      exact ⟨cA, fun ty ht => by cases ht; exact ⟨fun N z => ⟨(fun k h => by cases h), k, f3, comp, f4⟩, ⟨k, comp, f3, f4, f1, f5⟩⟩⟩
    · obtain ⟨comp, cA, k, f1, f2, f3, f4, f5⟩ := Cond.arrayOver_spec (hts (.arrayOver (.object R_Th)) (by decide +kernel))
      exact ⟨cA, fun ty ht => by cases ht; exact ⟨fun N z => ⟨(fun k h => by cases h), k, f3, comp, f4⟩, ⟨k, comp, f3, f4, f1, f5⟩⟩⟩
    · obtain ⟨comp, cA, k, f1, f2, f3, f4, f5⟩ := Cond.arrayOver_spec (hts (.arrayOver (.object R_Rw)) (by decide +kernel))
      exact ⟨cA, fun ty ht => by cases ht; exact ⟨fun N z => ⟨(fun k h => by cases h), k, f3, comp, f4⟩, ⟨k, comp, f3, f4, f1, f5⟩⟩⟩
    · obtain ⟨comp, cA, k, f1, f2, f3, f4, f5⟩ := arrayOverA_spec (hts (.arrayOver (.array .int)) (by decide +kernel))
      exact ⟨cA, fun ty ht => by cases ht; exact ⟨fun N z => ⟨(fun k h => by cases h), k, f3, comp, f4⟩, f5⟩⟩
    · refine ⟨0, fun ty ht => ?_⟩
      have := (List.getElem?_eq_some_iff.mp ht).1
      have e : mj_ar.length = 7 := rfl
      omega
  obtain ⟨f, hf⟩ := Classical.axiomOfChoice hC
  obtain ⟨a, ha⟩ := Classical.axiomOfChoice hA
  exact ⟨(fun c => (f c).1, fun c => (f c).2, a), fun c q hq => hf c q hq, fun t ty ht => ha t ty ht⟩
def R_law : String := "PocketListLaw"
def lw_P (b : Addr) (xs : List Int32) (args : Array Value) (s : State) : Prop := args = #[.ref b] ∧ s.IntsAt b xs ∧ xs.length ≤ 2561 ∧ (Jvm.Cond.and given_1 narrow_1).before args s = true
/-- what holds at the law's entry -/
def lw_At (p : Program) (s : State) (m : MethodId) (meth : Method) (c : Code) (b L : Nat) (xs : Nat → Int32) : Prop :=
  p.tables.exec = Jvm.exec ∧ c.code = code ∧ meth.sig.returnType = ret ∧ c.maxLocals = 4 ∧ s.vm.findClass R_law = some m.cls ∧ (∀ w ∈ lw_tbl, w.before #[Value.ref b] s = true) ∧ va_X b L xs s s.heap ∧ b < s.heap.size ∧ meth.locks = false ∧ meth.name = "law"
def scr0 (L : Nat) (xs : Nat → Int32) : AH := fun m => if m = (30, 0) then some (.inl (7, L, xs)) else none
set_option maxRecDepth 100000 in
theorem whole_start {p : Program} {e : Env} {s : State} {m : MethodId} {below : List Frame} {meth : Method} {c : Code} (l : Launch) {b L : Nat} {xs : Nat → Int32} (hL : L ≤ 2561) (C0 : lw_At p s m meth c b L xs) : W p l e room_1 s m #[Value.ref b] below meth c s.heap [] 0 0 (lw_Z below #[Value.ref b] s) (entryFrame m ([Value.ref b] : List Value).toArray 4) := by
  obtain ⟨hx, hb, hr, hml, hown, hts, hX, hbl, hlocks, hnm⟩ := C0
  obtain ⟨G, hK⟩ := mj_Kex hts
  have hl := lv_entry ([.ref b]) (n := 4) (Nat.le_of_ble_eq_true rfl)
  rw [lg_entry_eq]
  generalize (lg_sl ([.ref b]) ++ List.replicate (4 - (lg_sl ([.ref b])).length) Slot.unset).toArray = ls at hl ⊢
  have hg : scr0 L xs (30, 0) = some (.inl (7, L, xs)) := if_pos rfl
  have hz : ∀ m : Nd, m ≠ (30, 0) → scr0 L xs m = none := fun m hm => if_neg hm
  have hR : mj_R G s.heap.size (fun _ => b) (scr0 L xs) s s.heap := by
    refine ⟨fun n e he => ?_, fun n n' h1 h2 _ => ?_⟩
    · by_cases q : n = (30, 0)
      · rw [q, hg] at he
        cases he
        exact ⟨fun z => absurd rfl z, Or.inl ⟨rfl, hX⟩, trivial⟩
      · rw [hz n q] at he
        cases he
    · have a1 : n = (30, 0) := Classical.byContradiction (fun z => h1 (hz n z))
      have a2 : n' = (30, 0) := Classical.byContradiction (fun z => h2 (hz n' z))
      rw [a1, a2]
  have hLL : mj_L (fun _ => b) (scr0 L xs) M_La_law.2.2.1 [some (.inr (some (30, 0))), none, none, none] ls := by
    refine ⟨hl.1, hl.2.1, fun i v hi => ?_⟩
    rcases (show i = 0 ∨ i = 1 ∨ i = 2 ∨ i = 3 ∨ 4 ≤ i by omega) with rfl | rfl | rfl | rfl | h4
    · cases hi
      exact ⟨hl.2.2 (0, .ref b) List.mem_cons_self, fun n' hn' => by cases hn'; rw [hg]; simp⟩
    · cases hi
    · cases hi
    · cases hi
    · have := (List.getElem?_eq_some_iff.mp hi).1
      simp at this
      omega
  have k := law_X hg hL hz p l e s m #[Value.ref b] below meth c G s.heap.size (fun _ => b) (fun _ => False) (fun _ => b) s.heap [] ls ⟨hx, hb, hr, hml, hown, fun w hw _ => hts w hw, hlocks, hnm, hK, dc_law⟩ (Nat.le_refl _) (fun _ hn => hn.elim) hR va_S.rf hLL (fun v hv => by cases hv)
  intro T hT X
  obtain ⟨t, a1, a2⟩ := k T hT X
  exact ⟨t, a1, a2 rfl⟩
