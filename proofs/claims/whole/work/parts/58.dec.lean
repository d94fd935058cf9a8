/-! the law's own rows of code -/
def dcP (q : Nat × Instr × Nat) : Prop := decode code q.1 = .ok (q.2.1, q.2.2)
theorem dc_0 : ∀ q ∈ (tb_La_law.drop (50 * 0)).take 50, dcP q := by
  unfold dcP
  decide +kernel
theorem dc_1 : ∀ q ∈ (tb_La_law.drop (50 * 1)).take 50, dcP q := by
  unfold dcP
  decide +kernel
theorem dc_2 : ∀ q ∈ (tb_La_law.drop (50 * 2)).take 50, dcP q := by
  unfold dcP
  decide +kernel
theorem dc_3 : ∀ q ∈ (tb_La_law.drop (50 * 3)).take 50, dcP q := by
  unfold dcP
  decide +kernel
theorem dc_4 : ∀ q ∈ (tb_La_law.drop (50 * 4)).take 50, dcP q := by
  unfold dcP
  decide +kernel
theorem dc_5 : ∀ q ∈ (tb_La_law.drop (50 * 5)).take 50, dcP q := by
  unfold dcP
  decide +kernel
theorem dc_6 : ∀ q ∈ (tb_La_law.drop (50 * 6)).take 50, dcP q := by
  unfold dcP
  decide +kernel
theorem dc_7 : ∀ q ∈ (tb_La_law.drop (50 * 7)).take 50, dcP q := by
  unfold dcP
  decide +kernel
theorem dc_8 : ∀ q ∈ (tb_La_law.drop (50 * 8)).take 50, dcP q := by
  unfold dcP
  decide +kernel
theorem dc_9 : ∀ q ∈ (tb_La_law.drop (50 * 9)).take 50, dcP q := by
  unfold dcP
  decide +kernel
theorem dc_10 : ∀ q ∈ (tb_La_law.drop (50 * 10)).take 50, dcP q := by
  unfold dcP
  decide +kernel
theorem dc_len : tb_La_law.length ≤ 550 := by decide +kernel
