/-! PURE 6: the places that fit all that was seen -/
def hC (oc : OV) (p0 : Int32) (k1 : Nat) : Int32 := (if ((oc.2 10) (nI k1).toNatClampNeg) = 0 then (if p0 = ((oc.2 11) (nI k1).toNatClampNeg) then (1 : Int32) else 0) else (if (fX4_hasBit p0 ((oc.2 11) (nI k1).toNatClampNeg)) = (if ((oc.2 10) (nI k1).toNatClampNeg) = 1 then (1 : Int32) else 0) then (1 : Int32) else 0))
theorem hC_eq {K : KV} {oc om : OV} (h : RK K oc om) {b k : Nat} (hb : b < 64) (hk : k < 6) : hC oc (nI b) k = fX5_holds om (nI k) (nI b) := by
  obtain ⟨hK, hCC, hM⟩ := h
  have q := hK.2.1 k hk
  have c := hCC.2.1 k hk
  have m := hM.2.1 k hk
  unfold hC fX5_holds
  rw [nI_clamp (by omega), c.2.2.1, c.2.2.2, m.2.2.2.1, m.2.2.2.2]
  by_cases e : K.2 10 k = 0
  · rw [if_pos (show nI (K.2 10 k) = 0 by rw [e]; rfl), if_pos (show nI (K.2 10 k) = 0 by rw [e]; rfl)]
  · have e2 : ¬ nI (K.2 10 k) = 0 := fun z => e ((nI_eq (b := 0) (by omega) (by decide)).mp z)
    have f6 := q.2.2.2.2 e
    rw [if_neg e2, if_neg e2, hb_nI (by omega) (by omega), shr1 (by omega) (by omega)]
theorem ft_M {om : OV} {k1 : Nat} : ∀ k, (fX5_fits_L22 om k1 1 k = 0 ∨ fX5_fits_L22 om k1 1 k = 1) ∧ (¬ fX5_fits_L22 om k1 1 k = 0 ↔ ∀ j, j < k → ¬ fX5_holds om (nI j) (fX5_rulersBy om (nI k1)) = 0) := by
  intro k
  induction k with
  | zero => exact ⟨Or.inr rfl, ⟨fun _ j hj => absurd hj (Nat.not_lt_zero j), fun _ => (show ¬ (1 : Int32) = 0 by decide)⟩⟩
  | succ k ih =>
    show ((if fX5_fits_L22 om k1 1 k = 0 then (0 : Int32) else (if (fX5_holds om (nI k) (fX5_rulersBy om (nI k1))) = 0 then (0 : Int32) else 1)) = 0 ∨ (if fX5_fits_L22 om k1 1 k = 0 then (0 : Int32) else (if (fX5_holds om (nI k) (fX5_rulersBy om (nI k1))) = 0 then (0 : Int32) else 1)) = 1) ∧ (¬ (if fX5_fits_L22 om k1 1 k = 0 then (0 : Int32) else (if (fX5_holds om (nI k) (fX5_rulersBy om (nI k1))) = 0 then (0 : Int32) else 1)) = 0 ↔ ∀ j, j < k + 1 → ¬ fX5_holds om (nI j) (fX5_rulersBy om (nI k1)) = 0)
    by_cases e : fX5_fits_L22 om k1 1 k = 0
    · rw [if_pos e]
      exact ⟨Or.inl rfl, ⟨fun z => absurd rfl z, fun z => absurd e (ih.2.mpr fun j hj => z j (by omega))⟩⟩
    · rw [if_neg e]
      by_cases e2 : fX5_holds om (nI k) (fX5_rulersBy om (nI k1)) = 0
      · rw [if_pos e2]
        exact ⟨Or.inl rfl, ⟨fun z => absurd rfl z, fun z => absurd e2 (z k (by omega))⟩⟩
      · rw [if_neg e2]
        refine ⟨Or.inr rfl, ⟨fun _ j hj => ?_, fun _ => (show ¬ (1 : Int32) = 0 by decide)⟩⟩
        by_cases c : j = k
        · rw [c]; exact e2
        · exact ih.2.mp e j (by omega)
theorem ft_C {oc : OV} {p0 : Int32} {s : Nat} (hs : s ≤ 6) (h6 : oc.1 6 = nI s) : ∀ n k, k + n = 6 → (fX0_fitsSights_L2 oc p0 n k = 0 ∨ fX0_fitsSights_L2 oc p0 n k = 1) ∧ (¬ fX0_fitsSights_L2 oc p0 n k = 0 ↔ ∀ j, k ≤ j → j < s → ¬ hC oc p0 j = 0) := by
  intro n
  induction n with
  | zero =>
    intro k hk
    unfold fX0_fitsSights_L2
    rw [ite_self]
    exact ⟨Or.inr rfl, ⟨fun _ j h1 h2 => by omega, fun _ => (show ¬ (1 : Int32) = 0 by decide)⟩⟩
  | succ n ih =>
    intro k hk
    have i2 := ih (k + 1) (by omega)
    show ((if (oc.1 6) ≤ (nI k) then (1 : Int32) else (if hC oc p0 k = 0 then 0 else fX0_fitsSights_L2 oc p0 n (k + 1))) = 0 ∨ (if (oc.1 6) ≤ (nI k) then (1 : Int32) else (if hC oc p0 k = 0 then 0 else fX0_fitsSights_L2 oc p0 n (k + 1))) = 1) ∧ (¬ (if (oc.1 6) ≤ (nI k) then (1 : Int32) else (if hC oc p0 k = 0 then 0 else fX0_fitsSights_L2 oc p0 n (k + 1))) = 0 ↔ ∀ j, k ≤ j → j < s → ¬ hC oc p0 j = 0)
    by_cases l : s ≤ k
    · rw [if_pos (show oc.1 6 ≤ nI k by rw [h6]; exact nI_le l (by omega))]
      exact ⟨Or.inr rfl, ⟨fun _ j h1 h2 => by omega, fun _ => (show ¬ (1 : Int32) = 0 by decide)⟩⟩
    · rw [if_neg (show ¬ oc.1 6 ≤ nI k from fun z => by rw [h6] at z; exact l ((nI_leI (by omega) (by omega)).mp z))]
      by_cases e : hC oc p0 k = 0
      · rw [if_pos e]
        exact ⟨Or.inl rfl, ⟨fun z => absurd rfl z, fun z => absurd e (z k (Nat.le_refl _) (by omega))⟩⟩
      · rw [if_neg e]
        refine ⟨i2.1, i2.2.trans ⟨fun z j h1 h2 => ?_, fun z j h1 h2 => z j (by omega) h2⟩⟩
        by_cases c : j = k
        · rw [c]; exact e
        · exact z j (by omega) h2
theorem ft_one {K : KV} {oc om : OV} (h : RK K oc om) {k1 : Nat} (hk : k1 < 10) : fX0_fitsSights oc (fX0_rulers oc (nI k1)) = fX5_fits_L22 om k1 1 ((om.1 11).toNatClampNeg) := by
  have hs := h.1.1.2.2.2.2.2.2
  have m := ft_M (om := om) (k1 := k1) (K.1 6)
  have c := ft_C (oc := oc) (p0 := fX0_rulers oc (nI k1)) hs (h.2.1.1 6 (by decide)) 6 0 rfl
  rw [h.2.2.1.2.2.2.2.2, nI_clamp (by omega)]
  show fX0_fitsSights_L2 oc (fX0_rulers oc (nI k1)) 6 0 = _
  have e : (¬ fX0_fitsSights_L2 oc (fX0_rulers oc (nI k1)) 6 0 = 0) ↔ (¬ fX5_fits_L22 om k1 1 (K.1 6) = 0) := by
    rw [c.2, m.2]
    have er : ∀ j, j < K.1 6 → hC oc (fX0_rulers oc (nI k1)) j = fX5_holds om (nI j) (fX5_rulersBy om (nI k1)) := fun j hj => by
      rw [E_rulers h.1 h.2.1 h.2.2 hk, C_rulers h.1 h.2.1 hk]
      exact hC_eq h (ru_lt K k1) (by omega)
    exact ⟨fun z j hj => by rw [← er j hj]; exact z j (Nat.zero_le _) hj, fun z j _ hj => by rw [er j hj]; exact z j hj⟩
  rcases c.1 with c1 | c1 <;> rcases m.1 with m1 | m1
  · rw [c1, m1]
  · exact absurd c1 (e.mpr (by rw [m1]; decide))
  · exact absurd m1 (e.mp (by rw [c1]; decide))
  · rw [c1, m1]
theorem wb_id : ∀ k, k < 10 → ∀ b, b < 2 ^ k → fX4_withBit (nI b) (nI k) 0 = nI b := by decide +kernel
theorem pw10 : ∀ k, k < 10 → (1 : Int32) <<< (nI k &&& 31) = nI (2 ^ k) := by decide +kernel
theorem ft_all {K : KV} {oc om : OV} (h : RK K oc om) : ∀ k, k ≤ 10 → ∃ b, b < 2 ^ k ∧ fX4_fits_L4 oc 0 k = nI b ∧ fX5_fits_L4 om 0 k = nI b := by
  intro k
  induction k with
  | zero => intro _; exact ⟨0, by decide, rfl, rfl⟩
  | succ k ih =>
    intro hk
    obtain ⟨b, h1, h2, h3⟩ := ih (by omega)
    show ∃ b, b < 2 ^ (k + 1) ∧ (fX4_withBit (fX4_fits_L4 oc 0 k) (nI k) (fX0_fitsSights oc (fX0_rulers oc (nI k)))) = nI b ∧ ((fX5_fits_L4 om 0 k) ||| (if (fX5_fits_L22 om k 1 ((om.1 11).toNatClampNeg)) = 0 then (0 : Int32) else (1 <<< ((nI k) &&& 31)))) = nI b
    rw [h2, h3, ft_one h (by omega)]
    have p2 : 2 ^ k < 2 ^ (k + 1) := Nat.pow_lt_pow_right (by decide) (by omega)
    by_cases e : fX5_fits_L22 om k 1 ((om.1 11).toNatClampNeg) = 0
    · rw [if_pos e, e]
      exact ⟨b, by omega, wb_id k (by omega) b h1, or_0 b⟩
    · rw [if_neg e]
      unfold fX4_withBit
      rw [if_neg e, pw10 k (by omega), fa_or]
      exact ⟨b ||| 2 ^ k, Nat.or_lt_two_pow (by omega) p2, rfl, rfl⟩
theorem op_fits {K : KV} {oc om : OV} (h : RK K oc om) : fX4_fits oc = fX5_fits om := by
  obtain ⟨b, -, h2, h3⟩ := ft_all h 10 (Nat.le_refl _)
  exact h2.trans h3.symm
