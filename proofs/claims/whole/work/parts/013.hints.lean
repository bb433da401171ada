theorem nz_lt1 {x : Int32} (h : 1 ≤ x) : ¬ x = 0 := fun e => absurd (e ▸ h) (by decide)
theorem nz_lt1' {x : Int32} (h : ¬ x < 1) : ¬ x = 0 := fun e => h (by rw [e]; decide)
theorem nz_le0 {x : Int32} (h : ¬ x ≤ 0) : ¬ x = 0 := fun e => h (by rw [e]; decide)
theorem wi_pos {x a b : Int32} (h : ¬ fX4_within x a b = 0) : a.toInt ≤ x.toInt ∧ x.toInt ≤ b.toInt := by
  unfold fX4_within at h
  split at h
  · exact absurd rfl h
  · rename_i h1
    split at h
    · exact absurd rfl h
    · rename_i h2
      rw [Int32.lt_iff_toInt_lt] at h1 h2
      omega
theorem wi_in {x b : Int32} {n : Nat} (h : ¬ fX4_within x 0 b = 0) (hb : b.toInt + 1 = n) : vp_in x n := by
  have h1 := wi_pos h
  have h0 : (0 : Int32).toInt = 0 := by decide
  exact vp_in_iff.mpr (by omega)
theorem wi6 {x : Int32} (h : ¬ fX4_within x 0 5 = 0) : vp_in x 6 := wi_in h (by decide)
theorem wi9 {x : Int32} (h : ¬ fX4_within x 0 8 = 0) : vp_in x 9 := wi_in h (by decide)
theorem wi10 {x : Int32} (h : ¬ fX4_within x 0 9 = 0) : vp_in x 10 := wi_in h (by decide)
theorem wi40 {x : Int32} (h : ¬ fX4_within x 0 39 = 0) : vp_in x 40 := wi_in h (by decide)
theorem bnd_le {x : Int32} {n : Nat} (h : x = nI n) : x ≤ nI n := by rw [← h]; exact Int32.le_refl _
theorem bnd_nle {x : Int32} {n k : Nat} (h : x = nI n) (hk : k < n) (hb : n < 2 ^ 31) : ¬ x ≤ nI k := by rw [h]; exact nI_ge hk hb
theorem cl_lt (x : Int32) : x.toNatClampNeg < 2 ^ 31 := by
  have h := Int32.toInt_lt x
  unfold Int32.toNatClampNeg
  omega
theorem dn_neg (b : Nat) : dn b (b + 1) < 0 := by rw [dn_out]; decide
theorem dn_vin {b k n : Nat} (h : k < b + 1) (hb : b < n) (hn : n < 2 ^ 31) : vp_in (dn b k) n := by rw [dn_in h]; exact vp_in_nI (by omega) hn
theorem sl_dec {x : Int32} (h : x.toInt ≤ 2) (hn : ¬ x < 0) : (x + (-1)).toInt ≤ 2 := by
  rw [Int32.lt_iff_toInt_lt] at hn
  have h0 : (0 : Int32).toInt = 0 := by decide
  obtain ⟨j, hj, rfl⟩ : ∃ j : Nat, j < 2 ^ 31 ∧ x = nI j := nI_of (by rw [Int32.lt_iff_toInt_lt]; omega)
  rw [nI_toInt hj] at h
  have : j = 0 ∨ j = 1 ∨ j = 2 := by omega
  rcases this with rfl | rfl | rfl <;> decide
theorem sl_ex {x : Int32} (h : x.toInt ≤ 2) (hn : ¬ x < 0) : ∃ t : Nat, t < 3 ∧ x = nI t := by
  obtain ⟨j, hj, rfl⟩ := nI_of hn
  rw [nI_toInt hj] at h
  exact ⟨j, by omega, rfl⟩
theorem pr_nI (a b c : Nat) : fX3_pair (nI a) (nI b) (nI c) = nI ((a * 10 + b) * 10 + c) := by
  show ((nI a * nI 10) + nI b) * nI 10 + nI c = _
  rw [pk_mul, nI_add, pk_mul, nI_add]
theorem pr_in {x : Int32} {i j : Nat} (h : ∃ t : Nat, t < 3 ∧ x = nI t) (hi : i < 10) (hj : j < 10) : vp_in (fX3_pair x (nI i) (nI j)) 300 := by
  obtain ⟨t, ht, rfl⟩ := h
  rw [pr_nI]
  exact vp_in_nI (by omega) (by decide)
theorem rw_a {k : Nat} (h : k < 1000) : nI k / 100 = nI (k / 100) := pk_div (d := 100) (by omega) (by decide) (by decide)
theorem rw_b {k : Nat} (h : k < 1000) : (nI k / 10) - (nI k / 10) / 10 * 10 = nI (k / 10 % 10) := by
  rw [show nI k / 10 = nI (k / 10) from pk_div (d := 10) (by omega) (by decide) (by decide)]
  exact pk_rem (d := 10) (by omega) (by decide) (by decide)
theorem rw_c {k : Nat} (h : k < 1000) : nI k - nI k / 10 * 10 = nI (k % 10) := pk_rem (d := 10) (by omega) (by decide) (by decide)
theorem wr_0 {k j : Nat} (h : k < 1000) (hj : j < 10) : vp_in (fX3_pair 0 (nI k / 100) 0 + nI j) 300 := by
  rw [rw_a h, show fX3_pair 0 (nI (k / 100)) 0 = _ from pr_nI 0 (k / 100) 0, nI_add]
  exact vp_in_nI (by omega) (by decide)
theorem wr_1 {k j : Nat} (h : k < 1000) (hj : j < 10) : vp_in (fX3_pair 1 ((nI k / 10) - (nI k / 10) / 10 * 10) 0 + nI j) 300 := by
  rw [rw_b h, show fX3_pair 1 (nI (k / 10 % 10)) 0 = _ from pr_nI 1 (k / 10 % 10) 0, nI_add]
  exact vp_in_nI (by omega) (by decide)
theorem wr_2 {k j : Nat} (h : k < 1000) (hj : j < 10) : vp_in (fX3_pair 2 (nI k - nI k / 10 * 10) 0 + nI j) 300 := by
  rw [rw_c h, show fX3_pair 2 (nI (k % 10)) 0 = _ from pr_nI 2 (k % 10) 0, nI_add]
  exact vp_in_nI (by omega) (by decide)
theorem kp_a {k : Nat} (h : k < 1000) : vp_in (fX3_pair 0 ((nI k / 10) - (nI k / 10) / 10 * 10) (nI k - nI k / 10 * 10)) 300 := by
  rw [rw_b h, rw_c h, show fX3_pair 0 (nI (k / 10 % 10)) (nI (k % 10)) = _ from pr_nI 0 (k / 10 % 10) (k % 10)]
  exact vp_in_nI (by omega) (by decide)
theorem kp_b {k : Nat} (h : k < 1000) : vp_in (fX3_pair 1 (nI k / 100) (nI k - nI k / 10 * 10)) 300 := by
  rw [rw_a h, rw_c h, show fX3_pair 1 (nI (k / 100)) (nI (k % 10)) = _ from pr_nI 1 (k / 100) (k % 10)]
  exact vp_in_nI (by omega) (by decide)
theorem kp_c {k : Nat} (h : k < 1000) : vp_in (fX3_pair 2 (nI k / 100) ((nI k / 10) - (nI k / 10) / 10 * 10)) 300 := by
  rw [rw_a h, rw_b h, show fX3_pair 2 (nI (k / 100)) (nI (k / 10 % 10)) = _ from pr_nI 2 (k / 100) (k / 10 % 10)]
  exact vp_in_nI (by omega) (by decide)
theorem kp_0 {k : Nat} (h : k < 1000) : vp_in (nI k) 3000 := vp_in_nI (by omega) (by decide)
theorem kp_1 {k : Nat} (h : k < 1000) : vp_in (1000 + nI k) 3000 := by
  rw [show (1000 : Int32) + nI k = nI (1000 + k) from nI_add 1000 k]
  exact vp_in_nI (by omega) (by decide)
theorem kp_2 {k : Nat} (h : k < 1000) : vp_in (2000 + nI k) 3000 := by
  rw [show (2000 : Int32) + nI k = nI (2000 + k) from nI_add 2000 k]
  exact vp_in_nI (by omega) (by decide)
theorem ip4 {x : Int32} (h : ¬ fX4_isPlace x = 0) : vp_in x 10 := wi10 h
theorem it6 {o : OV} {x : Int32} (h : ¬ fX0_isThere o x = 0) : vp_in x 6 := by
  unfold fX0_isThere at h
  split at h
  · exact absurd rfl h
  · exact wi6 (by assumption)
theorem wy_eq {x : Int32} (h : ¬ fX4_within x 1 99 = 0) : x = nI x.toNatClampNeg := by
  have h1 := wi_pos h
  have h0 : (1 : Int32).toInt = 1 := by decide
  obtain ⟨j, hj, rfl⟩ := nI_of (x := x) (by rw [Int32.lt_iff_toInt_lt]; have : (0 : Int32).toInt = 0 := by decide
                                            omega)
  rw [nI_clamp hj]
theorem wi_sub {x : Int32} (h : ¬ fX4_within x 10 19 = 0) : vp_in (x - 10) 10 := by
  have h1 := wi_pos h
  have h0 : (10 : Int32).toInt = 10 := by decide
  have h9 : (19 : Int32).toInt = 19 := by decide
  obtain ⟨j, hj, rfl⟩ := nI_of (x := x) (by rw [Int32.lt_iff_toInt_lt]; have : (0 : Int32).toInt = 0 := by decide
                                            omega)
  rw [nI_toInt hj] at h1
  rw [show nI j - 10 = nI (j - 10) from pk_sub (b := 10) (by omega)]
  exact vp_in_nI (by omega) (by decide)
