/-! THE MODEL's cells: one object, node (10, 0), its arrays, node (11, field). I: the int fields, A: the arrays. All other nodes: g. -/
def b2i (b : Bool) : Int32 := if b then 1 else 0
def mo : AV := .inr (some (10, 0))
def mV (I : Nat → Int32) : Nat → AV := fun k => match k with
  | 0 => .inl (I 0)
  | 1 => .inl (I 1)
  | 10 => .inl (I 10)
  | 11 => .inl (I 11)
  | 13 => .inl (I 13)
  | 17 => .inl (I 17)
  | 21 => .inl (I 21)
  | k => if k < 21 then .inr (some (11, k)) else .inl 0
def mln (k : Nat) : Nat := match k with
  | 2 => 4
  | 8 => 640
  | 9 => 64
  | 12 => 4
  | 19 => 16
  | _ => 160
def mtag (k : Nat) : Nat := if k = 15 ∨ k = 16 then 1 else 0
def isMI (k : Nat) : Bool := k == 0 || k == 1 || k == 10 || k == 11 || k == 13 || k == 17 || k == 21
def mH (g : AH) (I : Nat → Int32) (A : Nat → Nat → Int32) : AH := fun n =>
  if n.1 = 10 then (if n.2 = 0 then some (.inr (.inr (7, mV I))) else none)
  else if n.1 = 11 then (if n.2 < 21 ∧ isMI n.2 = false then some (.inl (mtag n.2, mln n.2, A n.2)) else none) else g n
/-- one place of one array -/
def ua (A : Nat → Nat → Int32) (k i : Nat) (x : Int32) : Nat → Nat → Int32 := fun k' j => if k' = k ∧ j = i then x else A k' j
theorem ua_eq (A : Nat → Nat → Int32) (k i : Nat) (x : Int32) : ua A k i x k i = x := by simp [ua]
theorem ua_k {A : Nat → Nat → Int32} {k k' i j : Nat} {x : Int32} (h : k' ≠ k) : ua A k i x k' j = A k' j := by simp [ua, h]
theorem ua_i {A : Nat → Nat → Int32} {k i j : Nat} {x : Int32} (h : j ≠ i) : ua A k i x k j = A k j := by simp [ua, h]
theorem mH_put (g : AH) (I : Nat → Int32) (A : Nat → Nat → Int32) {k : Nat} (hk : isMI k = true) (x : Int32) : hset (mH g I A) (10, 0) (.inr (.inr (7, va_up (mV I) k (.inl x)))) = mH g (upd I k x) A := by
  have e : va_up (mV I) k (.inl x) = mV (upd I k x) := by
    funext j
    by_cases hj : j = k
    · subst hj
      simp only [va_up, if_true]
      simp [isMI] at hk
      rcases hk with ((((((rfl | rfl) | rfl) | rfl) | rfl) | rfl) | rfl) <;> simp [mV, upd]
    · simp only [va_up, hj, if_false]
      unfold mV
      split <;> first | rfl | simp [upd, hj]
  rw [e]
  funext n
  by_cases h1 : n = (10, 0)
  · subst h1
    rw [hset_eq]
    rfl
  · rw [hset_ne _ _ h1]
    obtain ⟨a, b⟩ := n
    unfold mH
    by_cases h2 : a = 10
    · subst h2
      have h3 : b ≠ 0 := fun q => h1 (by rw [q])
      simp [h3]
    · simp [h2]
theorem mH_ast (g : AH) (I : Nat → Int32) (A : Nat → Nat → Int32) {k : Nat} (hk : k < 21 ∧ isMI k = false) (i : Nat) (x : Int32) : hset (mH g I A) (11, k) (.inl (mtag k, mln k, upd (A k) i x)) = mH g I (ua A k i x) := by
  funext n
  by_cases h1 : n = (11, k)
  · subst h1
    rw [hset_eq]
    unfold mH
    simp only [hk, and_self, if_true]
    congr
    funext j
    simp [upd, ua]
  · rw [hset_ne _ _ h1]
    obtain ⟨a, b⟩ := n
    unfold mH
    by_cases h2 : a = 11
    · subst h2
      have h3 : b ≠ k := fun q => h1 (by rw [q])
      have e : A b = ua A k i x b := by
        funext j
        simp [ua, h3]
      simp only [← e]
    · simp [h2]
section
variable {M : MI} {R : Room} {Z : ZT} {pc : Nat} {L : List (Option AV)} {st : List AV} {g : AH} {I : Nat → Int32} {A : Nat → Nat → Int32} {c sl : Nat}
theorem XM_get {idx k nx : Nat} {v : AV} (hd : mi M pc = some (.getfield idx, 3)) (hf : mj_F M.1.cls idx 7 k) (hv : mV I k = v) (hx : pc + 3 = nx) (kk : X M R Z nx L (v :: st) (mH g I A) c sl) : X M R Z pc L (.inr (some (10, 0)) :: st) (mH g I A) c sl :=
  X_get hd hf rfl hv hx kk
theorem XM_put {idx k nx : Nat} {x : Int32} (hd : mi M pc = some (.putfield idx, 3)) (hf : mj_F M.1.cls idx 7 k) (hk : isMI k = true) (hnf : k ≠ 0) (hx : pc + 3 = nx) (kk : X M R Z nx L st (mH g (upd I k x) A) c sl) : X M R Z pc L (.inl x :: .inr (some (10, 0)) :: st) (mH g I A) c sl := by
  refine X_put (q := (R_Mo, T_Mo, 22)) (t := t_Mo) hd hf rfl rfl ?_ rfl ?_ hx (by rw [mH_put g I A hk]; exact kk)
  · left
    simp [isMI] at hk
    rcases hk with ((((((rfl | rfl) | rfl) | rfl) | rfl) | rfl) | rfl)
    · exact absurd rfl hnf
    all_goals rfl
  · intro α
    simp [isMI] at hk
    rcases hk with ((((((rfl | rfl) | rfl) | rfl) | rfl) | rfl) | rfl)
    · exact absurd rfl hnf
    all_goals exact ⟨rfl, rfl⟩
theorem mH_arr {k : Nat} (hk : k < 21 ∧ isMI k = false) : mH g I A (11, k) = some (.inl (mtag k, mln k, A k)) := by
  unfold mH
  simp [hk]
theorem mln_small (k : Nat) : mln k < 2 ^ 31 := by
  unfold mln
  split <;> decide
theorem XM_ald {k i nx : Nat} (hd : mi M pc = some (.iaload, 1)) (hk : k < 21 ∧ isMI k = false ∧ mtag k = 0) (hi : i < mln k) (hx : pc + 1 = nx) (kk : X M R Z nx L (.inl (A k i) :: st) (mH g I A) c sl) : X M R Z pc L (.inl (nI i) :: .inr (some (11, k)) :: st) (mH g I A) c sl := by
  refine X_iald (t := 0) (len := mln k) (f := A k) hd (by rw [mH_arr ⟨hk.1, hk.2.1⟩, hk.2.2]) (Or.inl rfl) (vp_in_nI hi (mln_small k)) hx ?_
  rw [nI_clamp (Nat.lt_trans hi (mln_small k))]
  exact kk
theorem XM_ast {k i nx : Nat} {x : Int32} (hd : mi M pc = some (.iastore, 1)) (hk : k < 21 ∧ isMI k = false ∧ mtag k = 0) (hi : i < mln k) (hx : pc + 1 = nx) (kk : X M R Z nx L st (mH g I (ua A k i x)) c sl) : X M R Z pc L (.inl x :: .inl (nI i) :: .inr (some (11, k)) :: st) (mH g I A) c sl := by
  refine X_iast (len := mln k) (f := A k) hd (by rw [mH_arr ⟨hk.1, hk.2.1⟩, hk.2.2]) (vp_in_nI hi (mln_small k)) hx ?_
  rw [nI_clamp (Nat.lt_trans hi (mln_small k))]
  have := mH_ast g I A ⟨hk.1, hk.2.1⟩ i x
  rw [hk.2.2] at this
  rw [this]
  exact kk
theorem XM_zld {k i nx : Nat} (hd : mi M pc = some (.baload, 1)) (hk : k < 21 ∧ isMI k = false ∧ mtag k = 1) (hi : i < mln k) (hx : pc + 1 = nx) (kk : X M R Z nx L (.inl (A k i) :: st) (mH g I A) c sl) : X M R Z pc L (.inl (nI i) :: .inr (some (11, k)) :: st) (mH g I A) c sl := by
  refine X_zald (len := mln k) (f := A k) hd (by rw [mH_arr ⟨hk.1, hk.2.1⟩, hk.2.2]) (vp_in_nI hi (mln_small k)) hx ?_
  rw [nI_clamp (Nat.lt_trans hi (mln_small k))]
  exact kk
theorem XM_zst {k i nx : Nat} {x : Int32} (hd : mi M pc = some (.bastore, 1)) (hk : k < 21 ∧ isMI k = false ∧ mtag k = 1) (hi : i < mln k) (hz : x = 0 ∨ x = 1) (hx : pc + 1 = nx) (kk : X M R Z nx L st (mH g I (ua A k i x)) c sl) : X M R Z pc L (.inl x :: .inl (nI i) :: .inr (some (11, k)) :: st) (mH g I A) c sl := by
  refine X_zast (len := mln k) (f := A k) hd (by rw [mH_arr ⟨hk.1, hk.2.1⟩, hk.2.2]) (vp_in_nI hi (mln_small k)) (by rcases hz with rfl | rfl <;> rfl) hx ?_
  rw [nI_clamp (Nat.lt_trans hi (mln_small k))]
  have := mH_ast g I A ⟨hk.1, hk.2.1⟩ i x
  rw [hk.2.2] at this
  rw [this]
  exact kk
end
theorem il_0 : (0 : Int32) = nI 0 := rfl
theorem il_1 : (1 : Int32) = nI 1 := rfl
theorem il_2 : (2 : Int32) = nI 2 := rfl
theorem il_3 : (3 : Int32) = nI 3 := rfl
theorem il_4 : (4 : Int32) = nI 4 := rfl
theorem il_5 : (5 : Int32) = nI 5 := rfl
theorem il_6 : (6 : Int32) = nI 6 := rfl
theorem il_7 : (7 : Int32) = nI 7 := rfl
theorem il_16 : (16 : Int32) = nI 16 := rfl
theorem il_20 : (20 : Int32) = nI 20 := rfl
theorem il_40 : (40 : Int32) = nI 40 := rfl
theorem il_160 : (160 : Int32) = nI 160 := rfl
theorem b2i_nar (b : Bool) : narrow .boolean (.int (b2i b)) = .int (b2i b) := by cases b <;> rfl
theorem b2i_01 (b : Bool) : b2i b = 0 ∨ b2i b = 1 := by cases b <;> simp [b2i]
theorem b2i_0 {b : Bool} : b2i b = 0 ↔ b = false := by cases b <;> simp [b2i]
theorem b2i_n0 {b : Bool} : ¬ b2i b = 0 ↔ b = true := by cases b <;> simp [b2i]
