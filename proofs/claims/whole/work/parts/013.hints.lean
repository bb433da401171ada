theorem nz_lt1 {x : Int32} (h : 1 ≤ x) : ¬ x = 0 := fun e => absurd (e ▸ h) (by decide)
theorem nz_lt1' {x : Int32} (h : ¬ x < 1) : ¬ x = 0 := fun e => h (by rw [e]; decide)
theorem nz_le0 {x : Int32} (h : ¬ x ≤ 0) : ¬ x = 0 := fun e => h (by rw [e]; decide)
theorem wi_pos {x a b : Int32} (h : ¬ fX4_within x a b = 0) : a.toInt ≤ x.toInt ∧ x.toInt ≤ b.toInt := by
  unfold fX4_within at h
  split at h
  · exact absurd rfl h
  · rename_i h1
    split at h
    · exact absurd rfl h
    · rename_i h2
      rw [Int32.lt_iff_toInt_lt] at h1 h2
      omega
theorem wi_in {x b : Int32} {n : Nat} (h : ¬ fX4_within x 0 b = 0) (hb : b.toInt + 1 = n) : vp_in x n := by
  have h1 := wi_pos h
  have h0 : (0 : Int32).toInt = 0 := by decide
  exact vp_in_iff.mpr (by omega)
theorem wi6 {x : Int32} (h : ¬ fX4_within x 0 5 = 0) : vp_in x 6 := wi_in h (by decide)
theorem wi9 {x : Int32} (h : ¬ fX4_within x 0 8 = 0) : vp_in x 9 := wi_in h (by decide)
theorem wi10 {x : Int32} (h : ¬ fX4_within x 0 9 = 0) : vp_in x 10 := wi_in h (by decide)
theorem wi40 {x : Int32} (h : ¬ fX4_within x 0 39 = 0) : vp_in x 40 := wi_in h (by decide)
theorem bnd_le {x : Int32} {n : Nat} (h : x = nI n) : x ≤ nI n := by rw [← h]; exact Int32.le_refl _
theorem bnd_nle {x : Int32} {n k : Nat} (h : x = nI n) (hk : k < n) (hb : n < 2 ^ 31) : ¬ x ≤ nI k := by rw [h]; exact nI_ge hk hb
theorem cl_lt (x : Int32) : x.toNatClampNeg < 2 ^ 31 := by
  have h := Int32.toInt_lt x
  unfold Int32.toNatClampNeg
  omega
