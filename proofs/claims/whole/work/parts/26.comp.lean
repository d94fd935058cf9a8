/-! THE COMPONENT's cells, by role and number (see NOTES.md): F int fields, B int arrays, C arrays of references, Wr a thing's row, E which nodes are there; r: all other nodes -/
abbrev CF : Type := Nat → Nat → Nat → Int32
abbrev CB : Type := Nat → Nat → Nat → Int32
abbrev CC : Type := Nat → Nat → Option Nd
/-- 0 object, 1 array of numbers, 2 array of references, 3 no role of the component -/
def rKd (a : Nat) : Nat := match a with
  | 0 => 0
  | 1 => 2
  | 2 => 0
  | 3 => 2
  | 4 => 2
  | 5 => 0
  | 6 => 1
  | 7 => 1
  | 8 => 2
  | 9 => 2
  | 12 => 2
  | 13 => 2
  | 14 => 2
  | 15 => 0
  | 16 => 2
  | 17 => 1
  | 18 => 0
  | 19 => 1
  | 20 => 0
  | 21 => 1
  | 22 => 1
  | 23 => 0
  | 24 => 1
  | _ => 3
/-- the class of a role's objects -/
def rCi (a : Nat) : Nat := match a with
  | 0 => 6
  | 2 => 2
  | 5 => 3
  | 15 => 1
  | 18 => 0
  | 20 => 5
  | _ => 4
/-- the kind of a role's arrays -/
def rTg (a : Nat) : Nat := match a with
  | 1 => 3
  | 3 => 2
  | 4 => 2
  | 7 => 1
  | 8 => 2
  | 9 => 4
  | 12 => 4
  | 13 => 4
  | 14 => 5
  | 16 => 6
  | _ => 0
def rLn (a : Nat) : Nat := match a with
  | 3 => 160
  | 4 => 160
  | 7 => 160
  | 8 => 160
  | 9 => 160
  | 12 => 160
  | 13 => 1000
  | 14 => 160
  | _ => 4
/-- the fields that hold a reference, by role and field -/
def rRf (a i k : Nat) : Option Nd := match a, k with
  | 0, 1 => some (1, 0)
  | 0, 3 => some (2, 0)
  | 0, 4 => some (5, 0)
  | 2, 0 => some (3, 0)
  | 2, 1 => some (4, 0)
  | 5, 1 => some (6, 0)
  | 5, 2 => some (7, 0)
  | 5, 3 => some (8, 0)
  | 5, 5 => some (9, 0)
  | 5, 6 => some (12, 0)
  | 5, 8 => some (13, 0)
  | 5, 9 => some (14, 0)
  | 15, 1 => some (16, i)
  | 18, 7 => some (19, i)
  | 20, 8 => some (21, i)
  | 20, 9 => some (22, i)
  | 23, 6 => some (24, i)
  | _, _ => none
def rRow (a k : Nat) : Bool := a == 20 && k == 7
def cV (F : CF) (Wr : Nat → Option Nd) (a i : Nat) : Nat → AV := fun k => if rRow a k then .inr (Wr i) else match rRf a i k with
  | some n => .inr (some n)
  | none => .inl (F a i k)
def cR (C : CC) (a i : Nat) : Nat → Option Nd := if a = 16 then fun f => if f < 4 then some (17, 4 * i + f) else none else C a
def cE (F : CF) (B : CB) (C : CC) (Wr : Nat → Option Nd) (a i : Nat) : AE := if rKd a = 0 then .inr (.inr (rCi a, cV F Wr a i)) else if rKd a = 1 then .inl (rTg a, rLn a, B a i) else .inr (.inl (rTg a, rLn a, cR C a i))
def cH (F : CF) (B : CB) (C : CC) (Wr : Nat → Option Nd) (E : Nat → Nat → Bool) (r : AH) : AH := fun n => if rKd n.1 = 3 then r n else if E n.1 n.2 then some (cE F B C Wr n.1 n.2) else none
def u3 (F : Nat → Nat → Nat → Int32) (a i k : Nat) (x : Int32) : Nat → Nat → Nat → Int32 := fun a' i' k' => if a' = a ∧ i' = i ∧ k' = k then x else F a' i' k'
def u2 (C : CC) (a k : Nat) (x : Option Nd) : CC := fun a' k' => if a' = a ∧ k' = k then x else C a' k'
def e2 (E : Nat → Nat → Bool) (a i : Nat) : Nat → Nat → Bool := fun a' i' => (a' == a && i' == i) || E a' i'
theorem u3_eq (F : Nat → Nat → Nat → Int32) (a i k : Nat) (x : Int32) : u3 F a i k x a i k = x := by simp [u3]
theorem u3_ne {F : Nat → Nat → Nat → Int32} {a i k a' i' k' : Nat} {x : Int32} (h : ¬ (a' = a ∧ i' = i ∧ k' = k)) : u3 F a i k x a' i' k' = F a' i' k' := by simp [u3, h]
theorem u2_eq (C : CC) (a k : Nat) (x : Option Nd) : u2 C a k x a k = x := by simp [u2]
theorem u2_ne {C : CC} {a k a' k' : Nat} {x : Option Nd} (h : ¬ (a' = a ∧ k' = k)) : u2 C a k x a' k' = C a' k' := by simp [u2, h]
section
variable {F : CF} {B : CB} {C : CC} {Wr : Nat → Option Nd} {E : Nat → Nat → Bool} {r : AH}
theorem cH_at {a i : Nat} (hk : rKd a ≠ 3) (hE : E a i = true) : cH F B C Wr E r (a, i) = some (cE F B C Wr a i) := by
  unfold cH
  rw [if_neg hk, if_pos hE]
theorem cH_none {a i : Nat} (hk : rKd a ≠ 3) (hE : E a i = false) : cH F B C Wr E r (a, i) = none := by
  unfold cH
  rw [if_neg hk, hE]
  rfl
theorem cH_obj {a i : Nat} (hk : rKd a = 0) (hE : E a i = true) : cH F B C Wr E r (a, i) = some (.inr (.inr (rCi a, cV F Wr a i))) := by
  rw [cH_at (by omega) hE]
  unfold cE
  rw [if_pos hk]
theorem cH_int {a i : Nat} (hk : rKd a = 1) (hE : E a i = true) : cH F B C Wr E r (a, i) = some (.inl (rTg a, rLn a, B a i)) := by
  rw [cH_at (by omega) hE]
  unfold cE
  rw [if_neg (by omega), if_pos hk]
theorem cH_ref {a i : Nat} (hk : rKd a = 2) (hE : E a i = true) : cH F B C Wr E r (a, i) = some (.inr (.inl (rTg a, rLn a, cR C a i))) := by
  rw [cH_at (by omega) hE]
  unfold cE
  rw [if_neg (by omega), if_neg (by omega)]
theorem cH_putI {a i k : Nat} (hk : rKd a = 0) (hE : E a i = true) (hf : rRow a k = false ∧ rRf a i k = none) (x : Int32) : hset (cH F B C Wr E r) (a, i) (.inr (.inr (rCi a, va_up (cV F Wr a i) k (.inl x)))) = cH (u3 F a i k x) B C Wr E r := by
  funext n
  obtain ⟨a', i'⟩ := n
  by_cases q : (a', i') = (a, i)
  · cases q
    rw [hset_eq, cH_obj hk hE]
    have e : va_up (cV F Wr a i) k (.inl x) = cV (u3 F a i k x) Wr a i := by
      funext j
      unfold va_up
      by_cases qj : j = k
      · rw [if_pos qj, qj]
        unfold cV
        rw [hf.1, hf.2]
        simp [u3]
      · rw [if_neg qj]
        unfold cV
        split
        · rfl
        · split
          · rfl
          · rw [u3_ne (by rintro ⟨-, -, z⟩; exact qj z)]
    rw [e]
  · rw [hset_ne _ _ q]
    unfold cH
    by_cases k3 : rKd a' = 3
    · simp [k3]
    · have e : cE (u3 F a i k x) B C Wr a' i' = cE F B C Wr a' i' := by
        unfold cE
        have e2 : cV (u3 F a i k x) Wr a' i' = cV F Wr a' i' := by
          funext j
          unfold cV
          split
          · rfl
          · split
            · rfl
            · rw [u3_ne (by rintro ⟨z1, z2, -⟩; exact q (by rw [z1, z2]))]
        rw [e2]
      simp only [k3, if_false, e]
theorem cH_putW {i : Nat} (hE : E 20 i = true) (x : Option Nd) : hset (cH F B C Wr E r) (20, i) (.inr (.inr (5, va_up (cV F Wr 20 i) 7 (.inr x)))) = cH F B C (up1 Wr i x) E r := by
  funext n
  obtain ⟨a', i'⟩ := n
  by_cases q : (a', i') = (20, i)
  · cases q
    rw [hset_eq, cH_obj rfl hE]
    have e : va_up (cV F Wr 20 i) 7 (.inr x) = cV F (up1 Wr i x) 20 i := by
      funext j
      unfold va_up
      by_cases qj : j = 7
      · rw [if_pos qj, qj]
        simp [cV, rRow, up1]
      · rw [if_neg qj]
        unfold cV
        rw [show rRow 20 j = false by simp [rRow, qj]]
        rfl
    rw [e]
    rfl
  · rw [hset_ne _ _ q]
    unfold cH
    by_cases k3 : rKd a' = 3
    · simp [k3]
    · have e : cE F B C (up1 Wr i x) a' i' = cE F B C Wr a' i' := by
        unfold cE
        have e2 : cV F (up1 Wr i x) a' i' = cV F Wr a' i' := by
          funext j
          unfold cV
          split
          · rename_i hr
            have ha : a' = 20 := by
              simp [rRow] at hr
              exact hr.1
            have hi : i' ≠ i := fun z => q (by rw [ha, z])
            simp [up1, hi]
          · rfl
        rw [e2]
      simp only [k3, if_false, e]
theorem cH_ist {a i : Nat} (hk : rKd a = 1) (hE : E a i = true) (j : Nat) (x : Int32) : hset (cH F B C Wr E r) (a, i) (.inl (rTg a, rLn a, upd (B a i) j x)) = cH F (u3 B a i j x) C Wr E r := by
  funext n
  obtain ⟨a', i'⟩ := n
  by_cases q : (a', i') = (a, i)
  · cases q
    rw [hset_eq, cH_int hk hE]
    have e : upd (B a i) j x = u3 B a i j x a i := by
      funext z
      simp [upd, u3]
    rw [e]
  · rw [hset_ne _ _ q]
    unfold cH
    by_cases k3 : rKd a' = 3
    · simp [k3]
    · have e : cE F (u3 B a i j x) C Wr a' i' = cE F B C Wr a' i' := by
        unfold cE
        have e2 : u3 B a i j x a' i' = B a' i' := by
          funext z
          rw [u3_ne (by rintro ⟨z1, z2, -⟩; exact q (by rw [z1, z2]))]
        rw [e2]
      simp only [k3, if_false, e]
theorem cH_ast {a : Nat} (hk : rKd a = 2) (h16 : a ≠ 16) (hE : ∀ i, E a i = true ↔ i = 0) (j : Nat) (x : Option Nd) : hset (cH F B C Wr E r) (a, 0) (.inr (.inl (rTg a, rLn a, va_up (cR C a 0) j x))) = cH F B (u2 C a j x) Wr E r := by
  have hE0 : E a 0 = true := (hE 0).mpr rfl
  funext n
  obtain ⟨a', i'⟩ := n
  by_cases q : (a', i') = (a, 0)
  · cases q
    rw [hset_eq, cH_ref hk hE0]
    have e : va_up (cR C a 0) j x = cR (u2 C a j x) a 0 := by
      unfold cR
      rw [if_neg h16, if_neg h16]
      funext z
      simp [va_up, u2]
    rw [e]
  · rw [hset_ne _ _ q]
    unfold cH
    by_cases k3 : rKd a' = 3
    · simp [k3]
    · by_cases ha : a' = a
      · have hi : E a' i' = false := by
          rw [ha]
          cases he : E a i' with
          | false => rfl
          | true => exact absurd (by rw [ha, (hE i').mp he]) q
        simp [k3, hi]
      · have e : cE F B (u2 C a j x) Wr a' i' = cE F B C Wr a' i' := by
          unfold cE
          have e2 : cR (u2 C a j x) a' i' = cR C a' i' := by
            unfold cR
            split
            · rfl
            · funext z
              rw [u2_ne (by rintro ⟨z1, -⟩; exact ha z1)]
          rw [e2]
        simp only [k3, if_false, e]
theorem cH_mH (g : AH) (I : Nat → Int32) (A : Nat → Nat → Int32) : cH F B C Wr E (mH g I A) = mH (cH F B C Wr E g) I A := by
  funext n
  obtain ⟨a, i⟩ := n
  unfold cH mH
  by_cases h1 : a = 10
  · subst h1
    simp [rKd]
  · by_cases h2 : a = 11
    · subst h2
      simp [rKd]
    · simp [h1, h2]
end
section
variable {M : MI} {R : Room} {Z : ZT} {pc : Nat} {L : List (Option AV)} {st : List AV} {F : CF} {B : CB} {C : CC} {Wr : Nat → Option Nd} {E : Nat → Nat → Bool} {r : AH} {c sl : Nat}
theorem rLn_small (a : Nat) : rLn a < 2 ^ 31 := by
  unfold rLn
  split <;> decide
theorem XC_get {idx ci k nx a i : Nat} {v : AV} (hd : mi M pc = some (.getfield idx, 3)) (hf : mj_F M.1.cls idx ci k) (hk : rKd a = 0 ∧ rCi a = ci) (hE : E a i = true) (hv : cV F Wr a i k = v) (hx : pc + 3 = nx) (kk : X M R Z nx L (v :: st) (cH F B C Wr E r) c sl) : X M R Z pc L (.inr (some (a, i)) :: st) (cH F B C Wr E r) c sl := by
  refine X_get hd hf ?_ hv hx kk
  rw [cH_obj hk.1 hE, hk.2]
theorem XC_put {idx ci k nx a i : Nat} {x : Int32} {q : vw_C} {t : Nat → FieldType} (hd : mi M pc = some (.putfield idx, 3)) (hf : mj_F M.1.cls idx ci k) (hc : mj_cl[ci]? = some q) (ht : mj_ft[ci]? = some t) (hfin : (q.2.1 k).2.2.2 = false) (hk : rKd a = 0 ∧ rCi a = ci) (hr : rRow a k = false ∧ rRf a i k = none) (hE : E a i = true) (hv : ∀ α, narrow (t k) (cv α (.inl x)) = cv α (.inl x) ∧ fits (t k) (cv α (.inl x)) = true) (hx : pc + 3 = nx)
    (kk : X M R Z nx L st (cH (u3 F a i k x) B C Wr E r) c sl) : X M R Z pc L (.inl x :: .inr (some (a, i)) :: st) (cH F B C Wr E r) c sl := by
  refine X_put hd hf hc ht (Or.inl hfin) (by rw [cH_obj hk.1 hE, hk.2]) hv hx ?_
  have := cH_putI (F := F) (B := B) (C := C) (Wr := Wr) (r := r) hk.1 hE hr x
  rw [hk.2] at this
  rw [this]
  exact kk
theorem XC_ild {a i j nx : Nat} (hd : mi M pc = some (.iaload, 1)) (hk : rKd a = 1 ∧ rTg a = 0) (hE : E a i = true) (hj : j < rLn a) (hx : pc + 1 = nx) (kk : X M R Z nx L (.inl (B a i j) :: st) (cH F B C Wr E r) c sl) : X M R Z pc L (.inl (nI j) :: .inr (some (a, i)) :: st) (cH F B C Wr E r) c sl := by
  refine X_iald (t := 0) (len := rLn a) (f := B a i) hd (by rw [cH_int hk.1 hE, hk.2]) (Or.inl rfl) (vp_in_nI hj (rLn_small a)) hx ?_
  rw [nI_clamp (Nat.lt_trans hj (rLn_small a))]
  exact kk
theorem XC_ist {a i j nx : Nat} {x : Int32} (hd : mi M pc = some (.iastore, 1)) (hk : rKd a = 1 ∧ rTg a = 0) (hE : E a i = true) (hj : j < rLn a) (hx : pc + 1 = nx) (kk : X M R Z nx L st (cH F (u3 B a i j x) C Wr E r) c sl) : X M R Z pc L (.inl x :: .inl (nI j) :: .inr (some (a, i)) :: st) (cH F B C Wr E r) c sl := by
  refine X_iast (len := rLn a) (f := B a i) hd (by rw [cH_int hk.1 hE, hk.2]) (vp_in_nI hj (rLn_small a)) hx ?_
  rw [nI_clamp (Nat.lt_trans hj (rLn_small a))]
  have := cH_ist (F := F) (B := B) (C := C) (Wr := Wr) (r := r) hk.1 hE j x
  rw [hk.2] at this
  rw [this]
  exact kk
theorem XC_zld {a i j nx : Nat} (hd : mi M pc = some (.baload, 1)) (hk : rKd a = 1 ∧ rTg a = 1) (hE : E a i = true) (hj : j < rLn a) (hx : pc + 1 = nx) (kk : X M R Z nx L (.inl (B a i j) :: st) (cH F B C Wr E r) c sl) : X M R Z pc L (.inl (nI j) :: .inr (some (a, i)) :: st) (cH F B C Wr E r) c sl := by
  refine X_zald (len := rLn a) (f := B a i) hd (by rw [cH_int hk.1 hE, hk.2]) (vp_in_nI hj (rLn_small a)) hx ?_
  rw [nI_clamp (Nat.lt_trans hj (rLn_small a))]
  exact kk
theorem XC_zst {a i j nx : Nat} {x : Int32} (hd : mi M pc = some (.bastore, 1)) (hk : rKd a = 1 ∧ rTg a = 1) (hE : E a i = true) (hj : j < rLn a) (hz : x = 0 ∨ x = 1) (hx : pc + 1 = nx) (kk : X M R Z nx L st (cH F (u3 B a i j x) C Wr E r) c sl) : X M R Z pc L (.inl x :: .inl (nI j) :: .inr (some (a, i)) :: st) (cH F B C Wr E r) c sl := by
  refine X_zast (len := rLn a) (f := B a i) hd (by rw [cH_int hk.1 hE, hk.2]) (vp_in_nI hj (rLn_small a)) (by rcases hz with rfl | rfl <;> rfl) hx ?_
  rw [nI_clamp (Nat.lt_trans hj (rLn_small a))]
  have := cH_ist (F := F) (B := B) (C := C) (Wr := Wr) (r := r) hk.1 hE j x
  rw [hk.2] at this
  rw [this]
  exact kk
theorem XC_ald {a i j nx : Nat} {v : Option Nd} (hd : mi M pc = some (.aaload, 1)) (hk : rKd a = 2 ∧ 2 ≤ rTg a ∧ rTg a < 7) (hE : E a i = true) (hj : j < rLn a) (hv : cR C a i j = v) (hx : pc + 1 = nx) (kk : X M R Z nx L (.inr v :: st) (cH F B C Wr E r) c sl) : X M R Z pc L (.inl (nI j) :: .inr (some (a, i)) :: st) (cH F B C Wr E r) c sl := by
  refine X_aald (t := rTg a) (len := rLn a) (g := cR C a i) hd (cH_ref hk.1 hE) hk.2 (vp_in_nI hj (rLn_small a)) hx ?_
  rw [nI_clamp (Nat.lt_trans hj (rLn_small a)), hv]
  exact kk
theorem XC_ast {a j nx a2 i2 : Nat} {q : vw_C} (hd : mi M pc = some (.aastore, 1)) (hk : rKd a = 2 ∧ a ≠ 16) (hE : ∀ i, E a i = true ↔ i = 0) (hj : j < rLn a) (hk2 : rKd a2 = 0) (hE2 : E a2 i2 = true) (hc : mj_cl[rCi a2]? = some q) (ht : mj_ar[rTg a]? = some (.object q.1)) (hx : pc + 1 = nx) (kk : X M R Z nx L st (cH F B (u2 C a j (some (a2, i2))) Wr E r) c sl) : X M R Z pc L (.inr (some (a2, i2)) :: .inl (nI j) :: .inr (some (a, 0)) :: st) (cH F B C Wr E r) c sl := by
  refine X_aast (t := rTg a) (len := rLn a) (g := cR C a 0) hd (cH_ref hk.1 ((hE 0).mpr rfl)) (cH_obj hk2 hE2) hc ht (vp_in_nI hj (rLn_small a)) hx ?_
  rw [nI_clamp (Nat.lt_trans hj (rLn_small a)), cH_ast hk.1 hk.2 hE]
  exact kk
end
section
variable {M : MI} {R : Room} {Z : ZT} {pc : Nat} {L : List (Option AV)} {st : List AV} {F : CF} {B : CB} {C : CC} {Wr : Nat → Option Nd} {E : Nat → Nat → Bool} {r : AH} {c sl : Nat}
theorem XC_putW {idx nx i : Nat} {x : Option Nd} (hd : mi M pc = some (.putfield idx, 3)) (hf : mj_F M.1.cls idx 5 7) (hE : E 20 i = true) (hx : pc + 3 = nx)
    (kk : X M R Z nx L st (cH F B C (up1 Wr i x) E r) c sl) : X M R Z pc L (.inr x :: .inr (some (20, i)) :: st) (cH F B C Wr E r) c sl := by
  refine X_put (q := (R_Th, T_Th, 10)) (t := t_Th) hd hf rfl rfl (Or.inl rfl) (cH_obj rfl hE) (fun α => ?_) hx ?_
  · cases x <;> exact ⟨rfl, rfl⟩
  · show X M R Z nx L st (hset (cH F B C Wr E r) (20, i) (.inr (.inr (5, va_up (cV F Wr 20 i) 7 (.inr x))))) c sl
    rw [cH_putW hE x]
    exact kk
end
