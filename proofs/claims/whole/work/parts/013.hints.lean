theorem nz_lt1 {x : Int32} (h : 1 ≤ x) : ¬ x = 0 := fun e => absurd (e ▸ h) (by decide)
theorem nz_lt1' {x : Int32} (h : ¬ x < 1) : ¬ x = 0 := fun e => h (by rw [e]; decide)
theorem nz_le0 {x : Int32} (h : ¬ x ≤ 0) : ¬ x = 0 := fun e => h (by rw [e]; decide)
theorem wi_pos {x a b : Int32} (h : ¬ fX4_within x a b = 0) : a.toInt ≤ x.toInt ∧ x.toInt ≤ b.toInt := by
  unfold fX4_within at h
  split at h
  · exact absurd rfl h
  · rename_i h1
    split at h
    · exact absurd rfl h
    · rename_i h2
      rw [Int32.lt_iff_toInt_lt] at h1 h2
      omega
theorem wi_in {x b : Int32} {n : Nat} (h : ¬ fX4_within x 0 b = 0) (hb : b.toInt + 1 = n) : vp_in x n := by
  have h1 := wi_pos h
  have h0 : (0 : Int32).toInt = 0 := by decide
  exact vp_in_iff.mpr (by omega)
theorem wi6 {x : Int32} (h : ¬ fX4_within x 0 5 = 0) : vp_in x 6 := wi_in h (by decide)
theorem wi9 {x : Int32} (h : ¬ fX4_within x 0 8 = 0) : vp_in x 9 := wi_in h (by decide)
theorem wi10 {x : Int32} (h : ¬ fX4_within x 0 9 = 0) : vp_in x 10 := wi_in h (by decide)
theorem wi40 {x : Int32} (h : ¬ fX4_within x 0 39 = 0) : vp_in x 40 := wi_in h (by decide)
theorem bnd_le {x : Int32} {n : Nat} (h : x = nI n) : x ≤ nI n := by rw [← h]; exact Int32.le_refl _
theorem bnd_nle {x : Int32} {n k : Nat} (h : x = nI n) (hk : k < n) (hb : n < 2 ^ 31) : ¬ x ≤ nI k := by rw [h]; exact nI_ge hk hb
theorem cl_lt (x : Int32) : x.toNatClampNeg < 2 ^ 31 := by
  have h := Int32.toInt_lt x
  unfold Int32.toNatClampNeg
  omega
theorem dn_neg (b : Nat) : dn b (b + 1) < 0 := by rw [dn_out]; decide
theorem dn_vin {b k n : Nat} (h : k < b + 1) (hb : b < n) (hn : n < 2 ^ 31) : vp_in (dn b k) n := by rw [dn_in h]; exact vp_in_nI (by omega) hn
theorem sl_dec {x : Int32} (h : x.toInt ≤ 2) (hn : ¬ x < 0) : (x + (-1)).toInt ≤ 2 := by
  rw [Int32.lt_iff_toInt_lt] at hn
  have h0 : (0 : Int32).toInt = 0 := by decide
  obtain ⟨j, hj, rfl⟩ : ∃ j : Nat, j < 2 ^ 31 ∧ x = nI j := nI_of (by rw [Int32.lt_iff_toInt_lt]; omega)
  rw [nI_toInt hj] at h
  have : j = 0 ∨ j = 1 ∨ j = 2 := by omega
  rcases this with rfl | rfl | rfl <;> decide
theorem sl_ex {x : Int32} (h : x.toInt ≤ 2) (hn : ¬ x < 0) : ∃ t : Nat, t < 3 ∧ x = nI t := by
  obtain ⟨j, hj, rfl⟩ := nI_of hn
  rw [nI_toInt hj] at h
  exact ⟨j, by omega, rfl⟩
theorem pr_nI (a b c : Nat) : fX3_pair (nI a) (nI b) (nI c) = nI ((a * 10 + b) * 10 + c) := by
  show ((nI a * nI 10) + nI b) * nI 10 + nI c = _
  rw [pk_mul, nI_add, pk_mul, nI_add]
theorem pr_in {x : Int32} {i j : Nat} (h : ∃ t : Nat, t < 3 ∧ x = nI t) (hi : i < 10) (hj : j < 10) : vp_in (fX3_pair x (nI i) (nI j)) 300 := by
  obtain ⟨t, ht, rfl⟩ := h
  rw [pr_nI]
  exact vp_in_nI (by omega) (by decide)
theorem rw_a {k : Nat} (h : k < 1000) : nI k / 100 = nI (k / 100) := pk_div (d := 100) (by omega) (by decide) (by decide)
theorem rw_b {k : Nat} (h : k < 1000) : (nI k / 10) - (nI k / 10) / 10 * 10 = nI (k / 10 % 10) := by
  rw [show nI k / 10 = nI (k / 10) from pk_div (d := 10) (by omega) (by decide) (by decide)]
  exact pk_rem (d := 10) (by omega) (by decide) (by decide)
theorem rw_c {k : Nat} (h : k < 1000) : nI k - nI k / 10 * 10 = nI (k % 10) := pk_rem (d := 10) (by omega) (by decide) (by decide)
theorem wr_0 {k j : Nat} (h : k < 1000) (hj : j < 10) : vp_in (fX3_pair 0 (nI k / 100) 0 + nI j) 300 := by
  rw [rw_a h, show fX3_pair 0 (nI (k / 100)) 0 = _ from pr_nI 0 (k / 100) 0, nI_add]
  exact vp_in_nI (by omega) (by decide)
theorem wr_1 {k j : Nat} (h : k < 1000) (hj : j < 10) : vp_in (fX3_pair 1 ((nI k / 10) - (nI k / 10) / 10 * 10) 0 + nI j) 300 := by
  rw [rw_b h, show fX3_pair 1 (nI (k / 10 % 10)) 0 = _ from pr_nI 1 (k / 10 % 10) 0, nI_add]
  exact vp_in_nI (by omega) (by decide)
theorem wr_2 {k j : Nat} (h : k < 1000) (hj : j < 10) : vp_in (fX3_pair 2 (nI k - nI k / 10 * 10) 0 + nI j) 300 := by
  rw [rw_c h, show fX3_pair 2 (nI (k % 10)) 0 = _ from pr_nI 2 (k % 10) 0, nI_add]
  exact vp_in_nI (by omega) (by decide)
theorem kp_a {k : Nat} (h : k < 1000) : vp_in (fX3_pair 0 ((nI k / 10) - (nI k / 10) / 10 * 10) (nI k - nI k / 10 * 10)) 300 := by
  rw [rw_b h, rw_c h, show fX3_pair 0 (nI (k / 10 % 10)) (nI (k % 10)) = _ from pr_nI 0 (k / 10 % 10) (k % 10)]
  exact vp_in_nI (by omega) (by decide)
theorem kp_b {k : Nat} (h : k < 1000) : vp_in (fX3_pair 1 (nI k / 100) (nI k - nI k / 10 * 10)) 300 := by
  rw [rw_a h, rw_c h, show fX3_pair 1 (nI (k / 100)) (nI (k % 10)) = _ from pr_nI 1 (k / 100) (k % 10)]
  exact vp_in_nI (by omega) (by decide)
theorem kp_c {k : Nat} (h : k < 1000) : vp_in (fX3_pair 2 (nI k / 100) ((nI k / 10) - (nI k / 10) / 10 * 10)) 300 := by
  rw [rw_a h, rw_b h, show fX3_pair 2 (nI (k / 100)) (nI (k / 10 % 10)) = _ from pr_nI 2 (k / 100) (k / 10 % 10)]
  exact vp_in_nI (by omega) (by decide)
theorem kp_0 {k : Nat} (h : k < 1000) : vp_in (nI k) 3000 := vp_in_nI (by omega) (by decide)
theorem kp_1 {k : Nat} (h : k < 1000) : vp_in (1000 + nI k) 3000 := by
  rw [show (1000 : Int32) + nI k = nI (1000 + k) from nI_add 1000 k]
  exact vp_in_nI (by omega) (by decide)
theorem kp_2 {k : Nat} (h : k < 1000) : vp_in (2000 + nI k) 3000 := by
  rw [show (2000 : Int32) + nI k = nI (2000 + k) from nI_add 2000 k]
  exact vp_in_nI (by omega) (by decide)
theorem ip4 {x : Int32} (h : ¬ fX4_isPlace x = 0) : vp_in x 10 := wi10 h
theorem it6 {o : OV} {x : Int32} (h : ¬ fX0_isThere o x = 0) : vp_in x 6 := by
  unfold fX0_isThere at h
  split at h
  · exact absurd rfl h
  · exact wi6 (by assumption)
theorem wy_eq {x : Int32} (h : ¬ fX4_within x 1 99 = 0) : x = nI x.toNatClampNeg := by
  have h1 := wi_pos h
  have h0 : (1 : Int32).toInt = 1 := by decide
  obtain ⟨j, hj, rfl⟩ := nI_of (x := x) (by rw [Int32.lt_iff_toInt_lt]; have : (0 : Int32).toInt = 0 := by decide
                                            omega)
  rw [nI_clamp hj]
theorem wi_sub {x : Int32} (h : ¬ fX4_within x 10 19 = 0) : vp_in (x - 10) 10 := by
  have h1 := wi_pos h
  have h0 : (10 : Int32).toInt = 10 := by decide
  have h9 : (19 : Int32).toInt = 19 := by decide
  obtain ⟨j, hj, rfl⟩ := nI_of (x := x) (by rw [Int32.lt_iff_toInt_lt]; have : (0 : Int32).toInt = 0 := by decide
                                            omega)
  rw [nI_toInt hj] at h1
  rw [show nI j - 10 = nI (j - 10) from pk_sub (b := 10) (by omega)]
  exact vp_in_nI (by omega) (by decide)
theorem i64_eq (x : Int32) : x.toInt64.toInt = x.toInt := Int32.toInt_toInt64 x
theorem in_pos {a b c : Int64} (h : ¬ fX5_in a b c = 0) : b ≤ a ∧ a ≤ c := by
  unfold fX5_in at h
  split at h
  · exact absurd rfl h
  · rename_i h1
    split at h
    · exact absurd rfl h
    · rename_i h2
      rw [lg_cmp_lt] at h1
      rw [lg_cmp_gt] at h2
      rw [Int64.lt_iff_toInt_lt] at h1 h2
      exact ⟨Int64.le_iff_toInt_le.mpr (by omega), Int64.le_iff_toInt_le.mpr (by omega)⟩
theorem in_posI {x : Int32} {b c : Int64} (h : ¬ fX5_in x.toInt64 b c = 0) : b.toInt ≤ x.toInt ∧ x.toInt ≤ c.toInt := by
  obtain ⟨h1, h2⟩ := in_pos h
  rw [Int64.le_iff_toInt_le, i64_eq] at h1 h2
  exact ⟨h1, h2⟩
theorem in_vp {x : Int32} {c : Int64} {n : Nat} (h : ¬ fX5_in x.toInt64 0 c = 0) (hc : c.toInt + 1 = n) : vp_in x n := by
  have h1 := in_posI h
  have h0 : (0 : Int64).toInt = 0 := by decide
  exact vp_in_iff.mpr (by omega)
theorem ip5 {x : Int32} (h : ¬ fX5_isPerson x = 0) : vp_in x 6 := in_vp (c := 5) h (by decide)
theorem ip10 {x : Int32} (h : ¬ fX5_isPlace x = 0) : vp_in x 10 := in_vp (c := 9) h (by decide)
theorem it5 {o : OV} {x : Int32} (h : ¬ fX5_isThere o x = 0) : vp_in x 6 := by
  unfold fX5_isThere at h
  split at h
  · exact absurd rfl h
  · exact ip5 (by assumption)
theorem yr_in {x : Int32} (h : ¬ fX5_in x.toInt64 0 9 = 0) (h9 : ¬ x = 9) : vp_in x 9 := by
  have h1 := in_posI h
  have h0 : (0 : Int64).toInt = 0 := by decide
  have h2 : (9 : Int64).toInt = 9 := by decide
  have h3 : x.toInt ≠ 9 := fun e => h9 (Int32.toInt_inj.mp (e.trans (by decide)))
  exact vp_in_iff.mpr (by omega)
theorem in_sub {x : Int32} (h : ¬ fX5_in x.toInt64 10 19 = 0) : vp_in (x - 10) 10 := by
  have h1 := in_posI h
  have h0 : (10 : Int64).toInt = 10 := by decide
  have h9 : (19 : Int64).toInt = 19 := by decide
  obtain ⟨j, hj, rfl⟩ := nI_of (x := x) (by rw [Int32.lt_iff_toInt_lt]; have : (0 : Int32).toInt = 0 := by decide
                                            omega)
  rw [nI_toInt hj] at h1
  rw [show nI j - 10 = nI (j - 10) from pk_sub (b := 10) (by omega)]
  exact vp_in_nI (by omega) (by decide)
theorem td_in {o : OV} {x y : Int32} (h : ¬ (if fX5_isThere o x = 0 then (0 : Int32) else (if 4 ≤ y then 0 else 1)) = 0) : vp_in x 6 := by
  split at h
  · exact absurd rfl h
  · exact it5 (by assumption)
theorem td_in' {o : OV} {x y z : Int32} (e : z = (if fX5_isThere o x = 0 then (0 : Int32) else (if 4 ≤ y then 0 else 1))) (h : ¬ z = 0) : vp_in x 6 := td_in (e ▸ h)
theorem wy5_eq {x : Int32} (h : ¬ fX5_in x.toInt64 1 99 = 0) : x = nI x.toNatClampNeg := by
  have h1 := in_posI h
  have h0 : (1 : Int64).toInt = 1 := by decide
  obtain ⟨j, hj, rfl⟩ := nI_of (x := x) (by rw [Int32.lt_iff_toInt_lt]; have : (0 : Int32).toInt = 0 := by decide
                                            omega)
  rw [nI_clamp hj]
theorem sy_in {x : Int32} (h : x.toNatClampNeg ≤ 40 ∧ x = nI x.toNatClampNeg) (hn : ¬ x = 40) : vp_in x 40 := by
  obtain ⟨h1, h2⟩ := h
  have h3 : x.toNatClampNeg ≠ 40 := fun e => hn (by rw [h2, e]; rfl)
  rw [h2]
  exact vp_in_nI (by omega) (by decide)
theorem sn_in {x : Int32} (h : x.toNatClampNeg ≤ 6 ∧ x = nI x.toNatClampNeg) (hn : ¬ x = 6) : vp_in x 6 := by
  obtain ⟨h1, h2⟩ := h
  have h3 : x.toNatClampNeg ≠ 6 := fun e => hn (by rw [h2, e]; rfl)
  rw [h2]
  exact vp_in_nI (by omega) (by decide)
theorem on_z {x : Int32} (h : ∃ b : Nat, x = nI b ∧ b ≤ 0 ∧ b < 1000) : x = 0 := by
  obtain ⟨b, rfl, h, -⟩ := h
  obtain rfl : b = 0 := by omega
  rfl
theorem on_step {x : Int32} {r : Nat} (h : ∃ b : Nat, x = nI b ∧ b ≤ (r + 1) ∧ b < 1000) (hx : ¬ x = 0) : ∃ b : Nat, (x &&& (x - 1)) = nI b ∧ b ≤ r ∧ b < 1000 := by
  obtain ⟨b, rfl, h1, h2⟩ := h
  have hb : 0 < b := by
    rcases Nat.eq_zero_or_pos b with rfl | q
    · exact absurd rfl hx
    · exact q
  have h3 : b &&& (b - 1) ≤ b - 1 := Nat.and_le_right
  refine ⟨b &&& (b - 1), ?_, by omega, by omega⟩
  rw [show nI b - 1 = nI (b - 1) from pk_sub (b := 1) hb, fa_and]
theorem lc_ne {x : Int64} (h : ¬ lg_cmp x 0 = 0) : ¬ x = 0 := fun e => h (lg_cmp_eq x 0 |>.mpr e)
theorem lw_z {x y : Int64} (h : ∃ a b : Nat, x = lN a ∧ y = lN b ∧ 0 < a ∧ a < 1000000 ∧ b < 1000000 ∧ b ≤ 0) : lg_cmp y 0 = 0 := by
  obtain ⟨a, b, -, rfl, -, -, -, h⟩ := h
  obtain rfl : b = 0 := by omega
  exact (lg_cmp_eq _ _).mpr rfl
theorem lw_nz {x y : Int64} {r : Nat} (h : ∃ a b : Nat, x = lN a ∧ y = lN b ∧ 0 < a ∧ a < 1000000 ∧ b < 1000000 ∧ b ≤ r) : ¬ x = 0 := by
  obtain ⟨a, b, rfl, -, h1, h2, -, -⟩ := h
  intro e
  have := (lN_eq (a := a) (b := 0) (by omega) (by decide)).mp e
  omega
theorem lw_step {x y : Int64} {r : Nat} (h : ∃ a b : Nat, x = lN a ∧ y = lN b ∧ 0 < a ∧ a < 1000000 ∧ b < 1000000 ∧ b ≤ (r + 1)) (hc : ¬ lg_cmp y 0 = 0) : ∃ a b : Nat, y = lN a ∧ (x - x / y * y) = lN b ∧ 0 < a ∧ a < 1000000 ∧ b < 1000000 ∧ b ≤ r := by
  obtain ⟨a, b, rfl, rfl, h1, h2, h3, h4⟩ := h
  have hb : 0 < b := by
    rcases Nat.eq_zero_or_pos b with rfl | q
    · exact absurd ((lg_cmp_eq _ _).mpr rfl) hc
    · exact q
  have hm := Nat.mod_lt a hb
  exact ⟨b, a % b, rfl, pk_lRem (by omega) hb (by omega), hb, h3, by omega, by omega⟩
theorem pw6 : ∀ k, k < 6 → (1 : Int32) <<< (nI k &&& 31) = nI (2 ^ k) := by decide +kernel
theorem or64 {a b : Nat} (ha : a < 64) (hb : b < 64) : a ||| b < 64 := Nat.or_lt_two_pow (n := 6) ha hb
theorem rb64L (om : OV) (p : Int32) : ∀ (r k : Nat) (x : Int32), k + r = 6 → (∃ b : Nat, b < 64 ∧ x = nI b) → ∃ b : Nat, b < 64 ∧ fX5_rulersBy_L11 om p r k x = nI b := by
  intro r
  induction r with
  | zero =>
    intro k x _ h
    unfold fX5_rulersBy_L11
    exact h
  | succ r ih =>
    intro k x hk h
    unfold fX5_rulersBy_L11
    split
    · exact h
    · obtain ⟨b, hb, rfl⟩ := h
      refine ih (k + 1) _ (by omega) ?_
      split
      · rw [pw6 k (by omega), fa_or]
        exact ⟨_, or64 hb (Nat.pow_lt_pow_right (by decide) (by omega : k < 6)), rfl⟩
      · exact ⟨b, hb, by rw [show (0 : Int32) = nI 0 from rfl, fa_or, Nat.or_zero]⟩
theorem rb64 (om : OV) (p : Int32) : ∃ b : Nat, b < 64 ∧ fX5_rulersBy om p = nI b := rb64L om p 6 0 0 rfl ⟨0, by decide, rfl⟩
theorem ones_ne : ∀ b, b < 64 → ¬ b = 0 → ¬ fX5_ones (nI b) = 0 := by decide +kernel
theorem ones_nz {x : Int32} (h : ∃ b : Nat, b < 64 ∧ x = nI b) (hx : ¬ x = 0) : ¬ fX5_ones x = 0 := by
  obtain ⟨b, hb, rfl⟩ := h
  exact ones_ne b hb (fun e => hx (by rw [e]; rfl))
theorem vp_nI {x : Int32} {n : Nat} (h : vp_in x n) (hn : n < 2 ^ 31) : ∃ k : Nat, k < n ∧ x = nI k := vp_in_of h hn
theorem st_64 {x p : Int32} (h : ∃ b : Nat, b < 64 ∧ x = nI b) (hp : ¬ fX5_isPerson p = 0) : ∃ b : Nat, b < 64 ∧ (x ||| (1 <<< (p &&& 31))) = nI b := by
  obtain ⟨b, hb, rfl⟩ := h
  obtain ⟨k, hk, rfl⟩ := vp_nI (ip5 hp) (by decide)
  rw [pw6 k hk, fa_or]
  exact ⟨_, or64 hb (Nat.pow_lt_pow_right (by decide) (by omega : k < 6)), rfl⟩
theorem wb_of32 (x : Int32) : ∃ n, n < 2 ^ 32 ∧ x = nI n := ⟨x.toBitVec.toNat, x.toBitVec.isLt, Int32.toBitVec_inj.mp (by show _ = BitVec.ofNat 32 _; simp)⟩
theorem lv_64 {x : Int32} (h : ∃ b : Nat, b < 64 ∧ x = nI b) (y : Int32) : ∃ b : Nat, b < 64 ∧ (x &&& y) = nI b := by
  obtain ⟨b, hb, rfl⟩ := h
  obtain ⟨c, -, rfl⟩ := wb_of32 y
  rw [fa_and]
  exact ⟨b &&& c, Nat.lt_of_le_of_lt Nat.and_le_left hb, rfl⟩
/-- since o only a ruling, reigns, holes and years have changed -/
def hsm (o o' : OV) : Prop := (∀ k, k ≠ 4 → k ≠ 15 → k ≠ 16 → o'.1 k = o.1 k) ∧ ∀ j, j ≠ 14 → o'.2 j = o.2 j
theorem hsm_rf (o : OV) : hsm o o := ⟨fun _ _ _ _ => rfl, fun _ _ => rfl⟩
theorem hsm_us {o o' : OV} {k : Nat} (v : Int32) (h : hsm o o') (hk : k = 4 ∨ k = 15 ∨ k = 16) : hsm o (us o' k v) := by
  refine ⟨fun j h1 h2 h3 => ?_, h.2⟩
  show upd o'.1 k v j = _
  rw [← h.1 j h1 h2 h3]
  exact if_neg (by rcases hk with rfl | rfl | rfl <;> assumption)
theorem hsm_ua {o o' : OV} (i : Nat) (v : Int32) (h : hsm o o') : hsm o (ua o' 14 i v) := by
  refine ⟨h.1, fun j hj => ?_⟩
  rw [← h.2 j hj]
  exact if_neg hj
theorem hsm_rule {o o' : OV} (v : Int32) (h : hsm o o') : hsm o (fX5_rule o' v) := hsm_us _ (hsm_us _ h (Or.inr (Or.inl rfl))) (Or.inr (Or.inr rfl))
theorem hsm_goYearsL {o o' : OV} (p i : Int32) (h : hsm o o') : ∀ k, hsm o (fX5_goYears_L4 p i o' k).2 := by
  intro k
  induction k with
  | zero => exact h
  | succ k ih => exact hsm_ua _ _ ih
theorem hsm_goYears {o o' : OV} (p : Int32) (h : hsm o o') : hsm o (fX5_goYears o' p) := hsm_ua _ _ (hsm_ua _ _ (hsm_ua _ _ (hsm_goYearsL p 0 h 6)))
theorem hsm_happen {o o' : OV} (p q : Int32) (h : hsm o o') : hsm o (fX5_happen o' p q) := by
  unfold fX5_happen
  repeat' split
  all_goals first | exact h | exact hsm_goYears _ h | exact hsm_goYears _ (hsm_rule _ h) | exact hsm_rule _ (hsm_us _ h (Or.inl rfl)) | exact hsm_rule _ h
theorem hsm_L2 {o o' : OV} (h : hsm o o') : ∀ k, hsm o (fX5_goParts_L2 o' k) := by
  intro k
  induction k with
  | zero => exact h
  | succ k ih => exact hsm_ua _ _ ih
theorem hsm_L44 {o o' : OV} (p a b : Int32) (h : hsm o o') : ∀ k, hsm o (fX5_goParts_L44 p a b o' k).2.2 := by
  intro k
  induction k with
  | zero => exact h
  | succ k ih =>
    show hsm o (fX5_goParts_L44s p k _ _ _).2.2
    unfold fX5_goParts_L44s
    repeat' split
    all_goals first | exact ih | exact hsm_happen _ _ ih
theorem hsm_pre (o : OV) : hsm o (us (us (fX5_goParts_L2 o (9)) 15 0) 16 0) := hsm_us _ (hsm_us _ (hsm_L2 (hsm_rf o) 9) (Or.inr (Or.inl rfl))) (Or.inr (Or.inr rfl))
theorem gp_bnd {p a b x4 x3 : Int32} {om om4 : OV} {k : Nat} (hs : fX5_goParts_L44 p a b (us (us (fX5_goParts_L2 om (9)) 15 0) 16 0) k = (x4, x3, om4)) (hn : (om.1 13).toNatClampNeg ≤ 40 ∧ om.1 13 = nI (om.1 13).toNatClampNeg) : om4.1 13 = nI (om.1 13).toNatClampNeg := by
  have h := (hsm_L44 (o := om) p a b (hsm_pre om) k).1 13 (by decide) (by decide) (by decide)
  rw [hs] at h
  exact h.trans hn.2
