/-! switches -/
section
variable {M : MI} {R : Room} {Z : ZT} {pc : Nat} {L : List (Option AV)} {st : List AV} {h : AH} {c sl : Nat}
theorem X_sw_0_4 {x : Int32} {dflt o0 o1 o2 o3 : Int} {len t0 t1 t2 t3 tout : Nat} (hd : mi M pc = some (.tableswitch dflt 0 3 #[o0, o1, o2, o3], len)) (h0 : (pc : Int) + o0 = (t0 : Int)) (h1 : (pc : Int) + o1 = (t1 : Int)) (h2 : (pc : Int) + o2 = (t2 : Int)) (h3 : (pc : Int) + o3 = (t3 : Int)) (ho : (pc : Int) + dflt = (tout : Int)) (k0 : x = nI 0 → X M R Z t0 L st h c sl) (k1 : x = nI 1 → X M R Z t1 L st h c sl) (k2 : x = nI 2 → X M R Z t2 L st h c sl) (k3 : x = nI 3 → X M R Z t3 L st h c sl) (ko : x ≠ nI 0 → x ≠ nI 1 → x ≠ nI 2 → x ≠ nI 3 → X M R Z tout L st h c sl) : X M R Z pc L (.inl x :: st) h c sl := by
  refine X_sw hd tout ho (fun k => match k with | 0 => t0 | 1 => t1 | 2 => t2 | _ => t3) (fun k hk => ?_) (fun q => ?_) (fun k hk hx => ?_)
  · rcases (show k = 0 ∨ k = 1 ∨ k = 2 ∨ k = 3 by omega) with rfl | rfl | rfl | rfl
    · exact ⟨o0, rfl, h0⟩
    · exact ⟨o1, rfl, h1⟩
    · exact ⟨o2, rfl, h2⟩
    · exact ⟨o3, rfl, h3⟩
  · refine ko ?_ ?_ ?_ ?_ <;> (intro e; rw [e, nI_toInt (by decide)] at q; omega)
  · rcases (show k = 0 ∨ k = 1 ∨ k = 2 ∨ k = 3 by omega) with rfl | rfl | rfl | rfl
    · exact k0 (toInt_k (by decide) (by omega))
    · exact k1 (toInt_k (by decide) (by omega))
    · exact k2 (toInt_k (by decide) (by omega))
    · exact k3 (toInt_k (by decide) (by omega))
theorem X_sw_0_5 {x : Int32} {dflt o0 o1 o2 o3 o4 : Int} {len t0 t1 t2 t3 t4 tout : Nat} (hd : mi M pc = some (.tableswitch dflt 0 4 #[o0, o1, o2, o3, o4], len)) (h0 : (pc : Int) + o0 = (t0 : Int)) (h1 : (pc : Int) + o1 = (t1 : Int)) (h2 : (pc : Int) + o2 = (t2 : Int)) (h3 : (pc : Int) + o3 = (t3 : Int)) (h4 : (pc : Int) + o4 = (t4 : Int)) (ho : (pc : Int) + dflt = (tout : Int)) (k0 : x = nI 0 → X M R Z t0 L st h c sl) (k1 : x = nI 1 → X M R Z t1 L st h c sl) (k2 : x = nI 2 → X M R Z t2 L st h c sl) (k3 : x = nI 3 → X M R Z t3 L st h c sl) (k4 : x = nI 4 → X M R Z t4 L st h c sl) (ko : x ≠ nI 0 → x ≠ nI 1 → x ≠ nI 2 → x ≠ nI 3 → x ≠ nI 4 → X M R Z tout L st h c sl) : X M R Z pc L (.inl x :: st) h c sl := by
  refine X_sw hd tout ho (fun k => match k with | 0 => t0 | 1 => t1 | 2 => t2 | 3 => t3 | _ => t4) (fun k hk => ?_) (fun q => ?_) (fun k hk hx => ?_)
  · rcases (show k = 0 ∨ k = 1 ∨ k = 2 ∨ k = 3 ∨ k = 4 by omega) with rfl | rfl | rfl | rfl | rfl
    · exact ⟨o0, rfl, h0⟩
    · exact ⟨o1, rfl, h1⟩
    · exact ⟨o2, rfl, h2⟩
    · exact ⟨o3, rfl, h3⟩
    · exact ⟨o4, rfl, h4⟩
  · refine ko ?_ ?_ ?_ ?_ ?_ <;> (intro e; rw [e, nI_toInt (by decide)] at q; omega)
  · rcases (show k = 0 ∨ k = 1 ∨ k = 2 ∨ k = 3 ∨ k = 4 by omega) with rfl | rfl | rfl | rfl | rfl
    · exact k0 (toInt_k (by decide) (by omega))
    · exact k1 (toInt_k (by decide) (by omega))
    · exact k2 (toInt_k (by decide) (by omega))
    · exact k3 (toInt_k (by decide) (by omega))
    · exact k4 (toInt_k (by decide) (by omega))
theorem X_sw_0_6 {x : Int32} {dflt o0 o1 o2 o3 o4 o5 : Int} {len t0 t1 t2 t3 t4 t5 tout : Nat} (hd : mi M pc = some (.tableswitch dflt 0 5 #[o0, o1, o2, o3, o4, o5], len)) (h0 : (pc : Int) + o0 = (t0 : Int)) (h1 : (pc : Int) + o1 = (t1 : Int)) (h2 : (pc : Int) + o2 = (t2 : Int)) (h3 : (pc : Int) + o3 = (t3 : Int)) (h4 : (pc : Int) + o4 = (t4 : Int)) (h5 : (pc : Int) + o5 = (t5 : Int)) (ho : (pc : Int) + dflt = (tout : Int)) (k0 : x = nI 0 → X M R Z t0 L st h c sl) (k1 : x = nI 1 → X M R Z t1 L st h c sl) (k2 : x = nI 2 → X M R Z t2 L st h c sl) (k3 : x = nI 3 → X M R Z t3 L st h c sl) (k4 : x = nI 4 → X M R Z t4 L st h c sl) (k5 : x = nI 5 → X M R Z t5 L st h c sl) (ko : x ≠ nI 0 → x ≠ nI 1 → x ≠ nI 2 → x ≠ nI 3 → x ≠ nI 4 → x ≠ nI 5 → X M R Z tout L st h c sl) : X M R Z pc L (.inl x :: st) h c sl := by
  refine X_sw hd tout ho (fun k => match k with | 0 => t0 | 1 => t1 | 2 => t2 | 3 => t3 | 4 => t4 | _ => t5) (fun k hk => ?_) (fun q => ?_) (fun k hk hx => ?_)
  · rcases (show k = 0 ∨ k = 1 ∨ k = 2 ∨ k = 3 ∨ k = 4 ∨ k = 5 by omega) with rfl | rfl | rfl | rfl | rfl | rfl
    · exact ⟨o0, rfl, h0⟩
    · exact ⟨o1, rfl, h1⟩
    · exact ⟨o2, rfl, h2⟩
    · exact ⟨o3, rfl, h3⟩
    · exact ⟨o4, rfl, h4⟩
    · exact ⟨o5, rfl, h5⟩
  · refine ko ?_ ?_ ?_ ?_ ?_ ?_ <;> (intro e; rw [e, nI_toInt (by decide)] at q; omega)
  · rcases (show k = 0 ∨ k = 1 ∨ k = 2 ∨ k = 3 ∨ k = 4 ∨ k = 5 by omega) with rfl | rfl | rfl | rfl | rfl | rfl
    · exact k0 (toInt_k (by decide) (by omega))
    · exact k1 (toInt_k (by decide) (by omega))
    · exact k2 (toInt_k (by decide) (by omega))
    · exact k3 (toInt_k (by decide) (by omega))
    · exact k4 (toInt_k (by decide) (by omega))
    · exact k5 (toInt_k (by decide) (by omega))
theorem X_sw_0_7 {x : Int32} {dflt o0 o1 o2 o3 o4 o5 o6 : Int} {len t0 t1 t2 t3 t4 t5 t6 tout : Nat} (hd : mi M pc = some (.tableswitch dflt 0 6 #[o0, o1, o2, o3, o4, o5, o6], len)) (h0 : (pc : Int) + o0 = (t0 : Int)) (h1 : (pc : Int) + o1 = (t1 : Int)) (h2 : (pc : Int) + o2 = (t2 : Int)) (h3 : (pc : Int) + o3 = (t3 : Int)) (h4 : (pc : Int) + o4 = (t4 : Int)) (h5 : (pc : Int) + o5 = (t5 : Int)) (h6 : (pc : Int) + o6 = (t6 : Int)) (ho : (pc : Int) + dflt = (tout : Int)) (k0 : x = nI 0 → X M R Z t0 L st h c sl) (k1 : x = nI 1 → X M R Z t1 L st h c sl) (k2 : x = nI 2 → X M R Z t2 L st h c sl) (k3 : x = nI 3 → X M R Z t3 L st h c sl) (k4 : x = nI 4 → X M R Z t4 L st h c sl) (k5 : x = nI 5 → X M R Z t5 L st h c sl) (k6 : x = nI 6 → X M R Z t6 L st h c sl) (ko : x ≠ nI 0 → x ≠ nI 1 → x ≠ nI 2 → x ≠ nI 3 → x ≠ nI 4 → x ≠ nI 5 → x ≠ nI 6 → X M R Z tout L st h c sl) : X M R Z pc L (.inl x :: st) h c sl := by
  refine X_sw hd tout ho (fun k => match k with | 0 => t0 | 1 => t1 | 2 => t2 | 3 => t3 | 4 => t4 | 5 => t5 | _ => t6) (fun k hk => ?_) (fun q => ?_) (fun k hk hx => ?_)
  · rcases (show k = 0 ∨ k = 1 ∨ k = 2 ∨ k = 3 ∨ k = 4 ∨ k = 5 ∨ k = 6 by omega) with rfl | rfl | rfl | rfl | rfl | rfl | rfl
    · exact ⟨o0, rfl, h0⟩
    · exact ⟨o1, rfl, h1⟩
    · exact ⟨o2, rfl, h2⟩
    · exact ⟨o3, rfl, h3⟩
    · exact ⟨o4, rfl, h4⟩
    · exact ⟨o5, rfl, h5⟩
    · exact ⟨o6, rfl, h6⟩
  · refine ko ?_ ?_ ?_ ?_ ?_ ?_ ?_ <;> (intro e; rw [e, nI_toInt (by decide)] at q; omega)
  · rcases (show k = 0 ∨ k = 1 ∨ k = 2 ∨ k = 3 ∨ k = 4 ∨ k = 5 ∨ k = 6 by omega) with rfl | rfl | rfl | rfl | rfl | rfl | rfl
    · exact k0 (toInt_k (by decide) (by omega))
    · exact k1 (toInt_k (by decide) (by omega))
    · exact k2 (toInt_k (by decide) (by omega))
    · exact k3 (toInt_k (by decide) (by omega))
    · exact k4 (toInt_k (by decide) (by omega))
    · exact k5 (toInt_k (by decide) (by omega))
    · exact k6 (toInt_k (by decide) (by omega))
theorem X_sw_1_6 {x : Int32} {dflt o0 o1 o2 o3 o4 o5 : Int} {len t0 t1 t2 t3 t4 t5 tout : Nat} (hd : mi M pc = some (.tableswitch dflt 1 6 #[o0, o1, o2, o3, o4, o5], len)) (h0 : (pc : Int) + o0 = (t0 : Int)) (h1 : (pc : Int) + o1 = (t1 : Int)) (h2 : (pc : Int) + o2 = (t2 : Int)) (h3 : (pc : Int) + o3 = (t3 : Int)) (h4 : (pc : Int) + o4 = (t4 : Int)) (h5 : (pc : Int) + o5 = (t5 : Int)) (ho : (pc : Int) + dflt = (tout : Int)) (k0 : x = nI 1 → X M R Z t0 L st h c sl) (k1 : x = nI 2 → X M R Z t1 L st h c sl) (k2 : x = nI 3 → X M R Z t2 L st h c sl) (k3 : x = nI 4 → X M R Z t3 L st h c sl) (k4 : x = nI 5 → X M R Z t4 L st h c sl) (k5 : x = nI 6 → X M R Z t5 L st h c sl) (ko : x ≠ nI 1 → x ≠ nI 2 → x ≠ nI 3 → x ≠ nI 4 → x ≠ nI 5 → x ≠ nI 6 → X M R Z tout L st h c sl) : X M R Z pc L (.inl x :: st) h c sl := by
  refine X_sw hd tout ho (fun k => match k with | 0 => t0 | 1 => t1 | 2 => t2 | 3 => t3 | 4 => t4 | _ => t5) (fun k hk => ?_) (fun q => ?_) (fun k hk hx => ?_)
  · rcases (show k = 0 ∨ k = 1 ∨ k = 2 ∨ k = 3 ∨ k = 4 ∨ k = 5 by omega) with rfl | rfl | rfl | rfl | rfl | rfl
    · exact ⟨o0, rfl, h0⟩
    · exact ⟨o1, rfl, h1⟩
    · exact ⟨o2, rfl, h2⟩
    · exact ⟨o3, rfl, h3⟩
    · exact ⟨o4, rfl, h4⟩
    · exact ⟨o5, rfl, h5⟩
  · refine ko ?_ ?_ ?_ ?_ ?_ ?_ <;> (intro e; rw [e, nI_toInt (by decide)] at q; omega)
  · rcases (show k = 0 ∨ k = 1 ∨ k = 2 ∨ k = 3 ∨ k = 4 ∨ k = 5 by omega) with rfl | rfl | rfl | rfl | rfl | rfl
    · exact k0 (toInt_k (by decide) (by omega))
    · exact k1 (toInt_k (by decide) (by omega))
    · exact k2 (toInt_k (by decide) (by omega))
    · exact k3 (toInt_k (by decide) (by omega))
    · exact k4 (toInt_k (by decide) (by omega))
    · exact k5 (toInt_k (by decide) (by omega))
theorem X_sw_0_18 {x : Int32} {dflt o0 o1 o2 o3 o4 o5 o6 o7 o8 o9 o10 o11 o12 o13 o14 o15 o16 o17 : Int} {len t0 t1 t2 t3 t4 t5 t6 t7 t8 t9 t10 t11 t12 t13 t14 t15 t16 t17 tout : Nat} (hd : mi M pc = some (.tableswitch dflt 0 17 #[o0, o1, o2, o3, o4, o5, o6, o7, o8, o9, o10, o11, o12, o13, o14, o15, o16, o17], len)) (h0 : (pc : Int) + o0 = (t0 : Int)) (h1 : (pc : Int) + o1 = (t1 : Int)) (h2 : (pc : Int) + o2 = (t2 : Int)) (h3 : (pc : Int) + o3 = (t3 : Int)) (h4 : (pc : Int) + o4 = (t4 : Int)) (h5 : (pc : Int) + o5 = (t5 : Int)) (h6 : (pc : Int) + o6 = (t6 : Int)) (h7 : (pc : Int) + o7 = (t7 : Int)) (h8 : (pc : Int) + o8 = (t8 : Int)) (h9 : (pc : Int) + o9 = (t9 : Int)) (h10 : (pc : Int) + o10 = (t10 : Int)) (h11 : (pc : Int) + o11 = (t11 : Int)) (h12 : (pc : Int) + o12 = (t12 : Int)) (h13 : (pc : Int) + o13 = (t13 : Int)) (h14 : (pc : Int) + o14 = (t14 : Int)) (h15 : (pc : Int) + o15 = (t15 : Int)) (h16 : (pc : Int) + o16 = (t16 : Int)) (h17 : (pc : Int) + o17 = (t17 : Int)) (ho : (pc : Int) + dflt = (tout : Int)) (k0 : x = nI 0 → X M R Z t0 L st h c sl) (k1 : x = nI 1 → X M R Z t1 L st h c sl) (k2 : x = nI 2 → X M R Z t2 L st h c sl) (k3 : x = nI 3 → X M R Z t3 L st h c sl) (k4 : x = nI 4 → X M R Z t4 L st h c sl) (k5 : x = nI 5 → X M R Z t5 L st h c sl) (k6 : x = nI 6 → X M R Z t6 L st h c sl) (k7 : x = nI 7 → X M R Z t7 L st h c sl) (k8 : x = nI 8 → X M R Z t8 L st h c sl) (k9 : x = nI 9 → X M R Z t9 L st h c sl) (k10 : x = nI 10 → X M R Z t10 L st h c sl) (k11 : x = nI 11 → X M R Z t11 L st h c sl) (k12 : x = nI 12 → X M R Z t12 L st h c sl) (k13 : x = nI 13 → X M R Z t13 L st h c sl) (k14 : x = nI 14 → X M R Z t14 L st h c sl) (k15 : x = nI 15 → X M R Z t15 L st h c sl) (k16 : x = nI 16 → X M R Z t16 L st h c sl) (k17 : x = nI 17 → X M R Z t17 L st h c sl) (ko : x ≠ nI 0 → x ≠ nI 1 → x ≠ nI 2 → x ≠ nI 3 → x ≠ nI 4 → x ≠ nI 5 → x ≠ nI 6 → x ≠ nI 7 → x ≠ nI 8 → x ≠ nI 9 → x ≠ nI 10 → x ≠ nI 11 → x ≠ nI 12 → x ≠ nI 13 → x ≠ nI 14 → x ≠ nI 15 → x ≠ nI 16 → x ≠ nI 17 → X M R Z tout L st h c sl) : X M R Z pc L (.inl x :: st) h c sl := by
  refine X_sw hd tout ho (fun k => match k with | 0 => t0 | 1 => t1 | 2 => t2 | 3 => t3 | 4 => t4 | 5 => t5 | 6 => t6 | 7 => t7 | 8 => t8 | 9 => t9 | 10 => t10 | 11 => t11 | 12 => t12 | 13 => t13 | 14 => t14 | 15 => t15 | 16 => t16 | _ => t17) (fun k hk => ?_) (fun q => ?_) (fun k hk hx => ?_)
  · rcases (show k = 0 ∨ k = 1 ∨ k = 2 ∨ k = 3 ∨ k = 4 ∨ k = 5 ∨ k = 6 ∨ k = 7 ∨ k = 8 ∨ k = 9 ∨ k = 10 ∨ k = 11 ∨ k = 12 ∨ k = 13 ∨ k = 14 ∨ k = 15 ∨ k = 16 ∨ k = 17 by omega) with rfl | rfl | rfl | rfl | rfl | rfl | rfl | rfl | rfl | rfl | rfl | rfl | rfl | rfl | rfl | rfl | rfl | rfl
    · exact ⟨o0, rfl, h0⟩
    · exact ⟨o1, rfl, h1⟩
    · exact ⟨o2, rfl, h2⟩
    · exact ⟨o3, rfl, h3⟩
    · exact ⟨o4, rfl, h4⟩
    · exact ⟨o5, rfl, h5⟩
    · exact ⟨o6, rfl, h6⟩
    · exact ⟨o7, rfl, h7⟩
    · exact ⟨o8, rfl, h8⟩
    · exact ⟨o9, rfl, h9⟩
    · exact ⟨o10, rfl, h10⟩
    · exact ⟨o11, rfl, h11⟩
    · exact ⟨o12, rfl, h12⟩
    · exact ⟨o13, rfl, h13⟩
    · exact ⟨o14, rfl, h14⟩
    · exact ⟨o15, rfl, h15⟩
    · exact ⟨o16, rfl, h16⟩
    · exact ⟨o17, rfl, h17⟩
  · refine ko ?_ ?_ ?_ ?_ ?_ ?_ ?_ ?_ ?_ ?_ ?_ ?_ ?_ ?_ ?_ ?_ ?_ ?_ <;> (intro e; rw [e, nI_toInt (by decide)] at q; omega)
  · rcases (show k = 0 ∨ k = 1 ∨ k = 2 ∨ k = 3 ∨ k = 4 ∨ k = 5 ∨ k = 6 ∨ k = 7 ∨ k = 8 ∨ k = 9 ∨ k = 10 ∨ k = 11 ∨ k = 12 ∨ k = 13 ∨ k = 14 ∨ k = 15 ∨ k = 16 ∨ k = 17 by omega) with rfl | rfl | rfl | rfl | rfl | rfl | rfl | rfl | rfl | rfl | rfl | rfl | rfl | rfl | rfl | rfl | rfl | rfl
    · exact k0 (toInt_k (by decide) (by omega))
    · exact k1 (toInt_k (by decide) (by omega))
    · exact k2 (toInt_k (by decide) (by omega))
    · exact k3 (toInt_k (by decide) (by omega))
    · exact k4 (toInt_k (by decide) (by omega))
    · exact k5 (toInt_k (by decide) (by omega))
    · exact k6 (toInt_k (by decide) (by omega))
    · exact k7 (toInt_k (by decide) (by omega))
    · exact k8 (toInt_k (by decide) (by omega))
    · exact k9 (toInt_k (by decide) (by omega))
    · exact k10 (toInt_k (by decide) (by omega))
    · exact k11 (toInt_k (by decide) (by omega))
    · exact k12 (toInt_k (by decide) (by omega))
    · exact k13 (toInt_k (by decide) (by omega))
    · exact k14 (toInt_k (by decide) (by omega))
    · exact k15 (toInt_k (by decide) (by omega))
    · exact k16 (toInt_k (by decide) (by omega))
    · exact k17 (toInt_k (by decide) (by omega))
end
