/-- the model's weights: each at most 9, all together 1 at least -/
def cok5 (om : OV) : Prop := (∀ j, j < 10 → ∃ w : Nat, w ≤ 9 ∧ om.2 8 j = nI w) ∧ ∃ b : Nat, 0 < b ∧ b ≤ 90 ∧ fX5_weights om = nI b
theorem wts_cong {o o' : OV} (h : o'.2 8 = o.2 8) : fX5_weights o' = fX5_weights o := by
  have key : ∀ i k, fX5_weights_L4 o' i k = fX5_weights_L4 o i k := by
    intro i k
    induction k with
    | zero => rfl
    | succ k ih =>
      show fX5_weights_L4s o' k _ = fX5_weights_L4s o k _
      rw [ih]
      unfold fX5_weights_L4s
      rw [h]
  exact key 0 10
theorem cok5_cong {o o' : OV} (h : o'.2 8 = o.2 8) (hk : cok5 o) : cok5 o' := ⟨by rw [h]; exact hk.1, by rw [wts_cong h]; exact hk.2⟩
theorem ones_le : ∀ b, b < 64 → ¬ b = 0 → (fX5_ones (nI b)).toInt.toNat ≤ 6 ∧ 0 < (fX5_ones (nI b)).toInt.toNat ∧ fX5_ones (nI b) = nI (fX5_ones (nI b)).toInt.toNat := by decide +kernel
theorem sx_in (om : OV) (p : Int32) (k1 : Nat) : ∀ k, ∃ a : Nat, a ≤ k ∧ fX5_sixtieths_L23 om p k1 0 k = nI a := by
  intro k
  induction k with
  | zero => exact ⟨0, Nat.le_refl _, rfl⟩
  | succ k ih =>
    obtain ⟨a, ha, e⟩ := ih
    show ∃ a : Nat, a ≤ k + 1 ∧ fX5_sixtieths_L23s om p k1 k (fX5_sixtieths_L23 om p k1 0 k) = nI a
    rw [e]
    unfold fX5_sixtieths_L23s fX5_sixtieths_L23s_x11 fX5_sixtieths_L23s_x11_x14
    generalize (if 6 ≤ p then (if ((om.2 3) (nI k).toNatClampNeg) = (p - 6) then (1 : Int32) else 0) else (if (nI k) = p then (1 : Int32) else 0)) = x
    split
    · exact ⟨a, by omega, Int32.add_zero _⟩
    · obtain ⟨j, hj, e2⟩ := pk_andE ((fX5_rulersBy om (nI k1)) >>> ((nI k) &&& 31)) (m := 1) 1 (by decide)
      rw [e2, nI_add]
      exact ⟨a + j, by omega, rfl⟩
theorem sx_out (om : OV) (p : Int32) (hw : ∀ j, j < 10 → ∃ w : Nat, w ≤ 9 ∧ om.2 8 j = nI w) : ∀ k, k ≤ 10 → ∃ a : Nat, a ≤ k * 3240 ∧ fX5_sixtieths_L4 om p 0 k = nI a := by
  intro k
  induction k with
  | zero => exact fun _ => ⟨0, Nat.le_refl _, rfl⟩
  | succ k ih =>
    intro hk
    obtain ⟨a, ha, e⟩ := ih (by omega)
    show ∃ a : Nat, a ≤ (k + 1) * 3240 ∧ fX5_sixtieths_L4s om p k (fX5_sixtieths_L4 om p 0 k) = nI a
    rw [e]
    unfold fX5_sixtieths_L4s fX5_sixtieths_L4s_x18
    split
    · exact ⟨a, Nat.le_trans ha (Nat.mul_le_mul_right 3240 (Nat.le_succ k)), Int32.add_zero _⟩
    · rename_i h0
      obtain ⟨w, hw1, hw2⟩ := hw k (by omega)
      obtain ⟨s, hs1, hs2⟩ := sx_in om p k 6
      obtain ⟨b, hb1, hb2⟩ := rb64 om (nI k)
      rw [nI_clamp (by omega : k < 2 ^ 31), hw2, hs2, hb2]
      rw [hb2] at h0
      obtain ⟨o1, o2, o3⟩ := ones_le b hb1 (fun z => h0 (by rw [z]; rfl))
      rw [o3, show (60 : Int32) = nI 60 from rfl, pk_div (by decide) o2 (by omega), pk_mul, pk_mul, nI_add]
      generalize (fX5_ones (nI b)).toInt.toNat = n at o1 o2
      have h1 : w * s ≤ 9 * 6 := Nat.mul_le_mul hw1 hs1
      have h2 : 60 / n ≤ 60 := Nat.div_le_self 60 n
      have h3 : w * s * (60 / n) ≤ 9 * 6 * 60 := Nat.mul_le_mul h1 h2
      exact ⟨_, by omega, rfl⟩
theorem sx_bnd (om : OV) (p : Int32) (hw : ∀ j, j < 10 → ∃ w : Nat, w ≤ 9 ∧ om.2 8 j = nI w) : ∃ a : Nat, a < 40000 ∧ fX5_sixtieths om p = nI a := by
  obtain ⟨a, h1, h2⟩ := sx_out om p hw 10 (Nat.le_refl _)
  exact ⟨a, by omega, h2⟩
theorem wl_nI {o : OV} (h : cok5 o) : ∃ b : Nat, 0 < b ∧ b < 40000 ∧ (60 * (fX5_weights o)).toInt64 = lN b := by
  obtain ⟨-, b, h1, h2, h3⟩ := h
  refine ⟨60 * b, by omega, by omega, ?_⟩
  rw [h3, show (60 : Int32) = nI 60 from rfl, pk_mul]
  exact nI_l (by omega)
theorem cw_lw {o : OV} (h : cok5 o) (x : Int32) : ∃ a b : Nat, (fX5_sixtieths o x).toInt64 = lN a ∧ (60 * (fX5_weights o)).toInt64 = lN b ∧ a < 40000 ∧ 0 < b ∧ b < 40000 := by
  obtain ⟨a, h1, h2⟩ := sx_bnd o x h.1
  obtain ⟨b, h3, h4, h5⟩ := wl_nI h
  exact ⟨a, b, by rw [h2]; exact nI_l (by omega), h5, h1, h3, h4⟩
theorem fs_w (om : OV) (p : Int32) : ∀ k, (fX5_findStand_L20 p om k).2 8 = om.2 8 := by
  intro k
  induction k with
  | zero => rfl
  | succ k ih =>
    show (fX5_findStand_L20s p k (fX5_findStand_L20 p om k)).2 8 = _
    rw [← ih]
    unfold fX5_findStand_L20s
    rw [us_2, us_2, ua_n (by decide)]
theorem fs_18 (om : OV) (p : Int32) (k : Nat) : (fX5_findStand_L20s p k om).1 18 = (if (fX5_sixtieths (ua om 1 p.toNatClampNeg (nI k)) p) ≤ (om.1 18) then (om.1 18) else (fX5_sixtieths (ua om 1 p.toNatClampNeg (nI k)) p)) := by
  unfold fX5_findStand_L20s
  rw [us_s]
theorem fs_b0 {om : OV} {p : Int32} {k : Nat} (hw : ∀ j, j < 10 → ∃ w : Nat, w ≤ 9 ∧ om.2 8 j = nI w) (h : om.1 18 = -1 ∨ ∃ a : Nat, a < 40000 ∧ om.1 18 = nI a) : ∃ a : Nat, a < 40000 ∧ (fX5_findStand_L20s p k om).1 18 = nI a := by
  rw [fs_18]
  obtain ⟨a, h1, h2⟩ := sx_bnd (ua om 1 p.toNatClampNeg (nI k)) p (by rw [ua_n (by decide)]; exact hw)
  rw [h2]
  rcases h with h | ⟨b, hb, h⟩
  · rw [h, if_neg (fun z => nI_pos (n := a) (by omega) (Int32.lt_of_le_of_lt z (by decide)))]
    exact ⟨a, h1, rfl⟩
  · split
    · exact ⟨b, hb, h⟩
    · exact ⟨a, h1, rfl⟩
theorem fs_b {om : OV} (p : Int32) (hw : ∀ j, j < 10 → ∃ w : Nat, w ≤ 9 ∧ om.2 8 j = nI w) (h18 : om.1 18 = -1) : ∀ k, ∃ a : Nat, a < 40000 ∧ (fX5_findStand_L20 p om (k + 1)).1 18 = nI a := by
  intro k
  induction k with
  | zero => exact fs_b0 (om := om) hw (Or.inl h18)
  | succ k ih => exact fs_b0 (om := fX5_findStand_L20 p om (k + 1)) (by rw [fs_w]; exact hw) (Or.inr ih)
theorem fs_8 (om : OV) (p : Int32) : (fX5_findStand om p).2 8 = om.2 8 := by
  unfold fX5_findStand
  rw [ua_n (by decide), fs_w]
  rfl
theorem cb_lw {o : OV} (h : cok5 o) (x : Int32) : ∃ a b : Nat, ((fX5_findStand o x).1 18).toInt64 = lN a ∧ (60 * (fX5_weights (fX5_findStand o x))).toInt64 = lN b ∧ a < 40000 ∧ 0 < b ∧ b < 40000 := by
  obtain ⟨a, h1, h2⟩ := fs_b (om := us (us o 17 (-6)) 18 (-1)) x (by rw [us_2, us_2]; exact h.1) (by rw [us_s]) 9
  obtain ⟨b, h3, h4, h5⟩ := wl_nI h
  refine ⟨a, b, ?_, by rw [wts_cong (fs_8 o x)]; exact h5, h1, h3, h4⟩
  unfold fX5_findStand
  rw [ua_1, h2]
  exact nI_l (by omega)
/-- where the model's image is read or written next -/
def KA (o : OV) (b : Nat) : Prop := o.1 22 = nI b
theorem ka_in {o : OV} {b : Nat} (h : KA o b) (hb : b < 160) : vp_in (o.1 22) 160 := by
  rw [show o.1 22 = nI b from h]
  exact vp_in_nI hb (by decide)
theorem KA_us {o : OV} {b k : Nat} {v : Int32} (hk : 22 ≠ k) (h : KA o b) : KA (us o k v) b := (us_n hk).trans h
theorem KA_ua {o : OV} {b k i : Nat} {v : Int32} (h : KA o b) : KA (ua o k i v) b := h
theorem KA_c {o : OV} {b : Nat} (v : Int32) (h : KA o b) : KA (fX5_carry o v).2 (b + 1) := by
  unfold KA fX5_carry
  rw [us_s, show o.1 22 = nI b from h]
  exact nI_1 b
theorem KA_cr {o o' : OV} {b : Nat} {v v' : Int32} (e : fX5_carry o v = (v', o')) (h : KA o b) : KA o' (b + 1) := by
  have e2 : o' = (fX5_carry o v).2 := by rw [e]
  rw [e2]
  exact KA_c v h
theorem pa_74 {o o' : OV} {k m b : Nat} (hs : fX5_passAll_L74 o k = o') (_ : k < m) (h : KA o b) : KA o' (b + 5 * k) := by
  subst hs
  have key : ∀ k, KA (fX5_passAll_L74 o k) (b + 5 * k) := by
    intro k
    induction k with
    | zero => exact h
    | succ k ih =>
      rw [show b + 5 * (k + 1) = b + 5 * k + 1 + 1 + 1 + 1 + 1 by omega]
      show KA (fX5_passAll_L74s k (fX5_passAll_L74 o k)) _
      unfold fX5_passAll_L74s fX5_passAll_L74s_c9 fX5_passAll_L74s_c9_c10 fX5_passAll_L74s_c9_c10_c11 fX5_passAll_L74s_c9_c10_c11_c12 fX5_passAll_L74s_c9_c10_c11_c12_c13
      exact KA_ua (KA_c _ (KA_ua (KA_c _ (KA_ua (KA_c _ (KA_ua (KA_c _ (KA_ua (KA_c _ ih)))))))))
  exact key k
theorem pa_168 {o o' : OV} {k m b : Nat} (hs : fX5_passAll_L168 o k = o') (_ : k < m) (h : KA o b) : KA o' (b + k) := by
  subst hs
  have key : ∀ k, KA (fX5_passAll_L168 o k) (b + k) := by
    intro k
    induction k with
    | zero => exact h
    | succ k ih =>
      show KA (fX5_passAll_L168s k (fX5_passAll_L168 o k)) (b + k + 1)
      unfold fX5_passAll_L168s fX5_passAll_L168s_c17
      exact KA_ua (KA_c _ ih)
  exact key k
theorem in2 {x : Int32} (h : ¬ fX5_in x.toInt64 0 1 = 0) : vp_in x 2 := in_vp (c := 1) h (by decide)
theorem im_b {x v : Int32} {o : OV} (h : ¬ fX5_in x.toInt64 0 1 = 0) : ∃ b : Nat, b + 46 ≤ 160 ∧ (us (us o 22 (80 * x)) 23 v).1 22 = nI b := by
  obtain ⟨k, hk, rfl⟩ := vp_nI (in2 h) (by decide)
  refine ⟨80 * k, by omega, ?_⟩
  rw [us_n (by decide), us_s]
  exact pk_mul 80 k
theorem rs_b {n x : Int32} (e : x = (if n = 0 then (1 : Int32) else (if n = 1 then 10 else (if n = 2 then 100 else 1000)))) : x = nI x.toNatClampNeg := by
  rw [e]
  by_cases h0 : n = 0
  · rw [if_pos h0]; rfl
  · rw [if_neg h0]
    by_cases h1 : n = 1
    · rw [if_pos h1]; rfl
    · rw [if_neg h1]
      by_cases h2 : n = 2
      · rw [if_pos h2]; rfl
      · rw [if_neg h2]; rfl
