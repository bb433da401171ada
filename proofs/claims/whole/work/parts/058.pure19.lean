/-! PURE 19: rests, the class's side: all rows weighed; where it rests -/
theorem kp_at (o : OV) (I P v : Int32) {i p : Nat} (hi : I.toNatClampNeg = i) (hp : P.toNatClampNeg = p) (j q : Nat) : (fX3_keep o I v P).2 j q = if j = 4 ∧ q = p then (if o.2 4 p < v then v else o.2 4 p) else if j = 3 ∧ q = i then v else o.2 j q := by
  unfold fX3_keep
  rw [hi, hp, ua_at, ua_at]
theorem gG_st {K : KV} (hK : kok K) (j k : Nat) : (if nI (gG K j (oth j k) k) < nI (sS K j k) then nI (sS K j k) else nI (gG K j (oth j k) k)) = nI (gG K j (oth j k) (k + 1)) := by
  have h1 := gG_le hK j (oth j k) k
  have h2 := sS_le hK j k
  show _ = nI (if oth j k = oth j k then (if gG K j (oth j k) k < sS K j k then sS K j k else gG K j (oth j k) k) else gG K j (oth j k) k)
  rw [if_pos rfl]
  by_cases c : gG K j (oth j k) k < sS K j k
  · rw [if_pos c, if_pos (nI_lt c (by omega))]
  · rw [if_neg c, if_neg (fun z => c ((nI_ltI (by omega) (by omega)).mp z))]
theorem gG_ns {K : KV} {j o k : Nat} (h : o ≠ oth j k) : gG K j o (k + 1) = gG K j o k := if_neg (fun z => h z.symm)
theorem wr_st {K : KV} {ow : OV} (hK : kok K) (hn : cn (K.1 2) 6 ≤ 3) {k : Nat} (h : WI K k ow) (hk : k < 1000) : WI K (k + 1) (fX3_weighRow ow (nI k)) := by
  have hd : ∀ j, dgt k j < 10 := fun j => Nat.mod_lt _ (by decide)
  have d0 : dgt k 0 = k % 10 := by unfold dgt; rw [Nat.pow_zero, Nat.div_one]
  have d1 : dgt k 1 = k / 10 % 10 := by unfold dgt; rw [Nat.pow_one]
  have d2 : dgt k 2 = k / 100 := by unfold dgt; omega
  have o0 : oth 0 k = k / 10 := rfl
  have o1 : oth 1 k = k / 100 * 10 + k % 10 := rfl
  have o2 : oth 2 k = k % 100 := rfl
  have e := wr_L hK hn h hk 10 (Nat.le_refl _)
  have hp0 : (fX3_pair 0 ((nI k / 10) - (nI k / 10) / 10 * 10) (nI k - nI k / 10 * 10)).toNatClampNeg = oth 2 k := by
    rw [dv2 hk, dv3 hk, show fX3_pair 0 (nI (dgt k 1)) (nI (dgt k 0)) = nI ((0 * 10 + dgt k 1) * 10 + dgt k 0) from pr_n 0 _ _, nI_clamp (by have := hd 0; have := hd 1; omega)]
    omega
  have hp1 : (fX3_pair 1 (nI k / 100) (nI k - nI k / 10 * 10)).toNatClampNeg = 100 + oth 1 k := by
    rw [dv1 hk, dv3 hk, show fX3_pair 1 (nI (dgt k 2)) (nI (dgt k 0)) = nI ((1 * 10 + dgt k 2) * 10 + dgt k 0) from pr_n 1 _ _, nI_clamp (by have := hd 0; have := hd 2; omega)]
    omega
  have hp2 : (fX3_pair 2 (nI k / 100) ((nI k / 10) - (nI k / 10) / 10 * 10)).toNatClampNeg = 200 + oth 0 k := by
    rw [dv1 hk, dv2 hk, show fX3_pair 2 (nI (dgt k 2)) (nI (dgt k 1)) = nI ((2 * 10 + dgt k 2) * 10 + dgt k 1) from pr_n 2 _ _, nI_clamp (by have := hd 1; have := hd 2; omega)]
    omega
  have hi0 : (nI k).toNatClampNeg = k := nI_clamp (by omega)
  have hi1 : (1000 + nI k).toNatClampNeg = 1000 + k := by
    rw [show (1000 : Int32) = nI 1000 from rfl, nI_add, nI_clamp (by omega)]
  have hi2 : (2000 + nI k).toNatClampNeg = 2000 + k := by
    rw [show (2000 : Int32) = nI 2000 from rfl, nI_add, nI_clamp (by omega)]
  unfold fX3_weighRow
  rw [e]
  dsimp only
  have a1 := kp_at ow (nI k) (fX3_pair 0 ((nI k / 10) - (nI k / 10) / 10 * 10) (nI k - nI k / 10 * 10)) (nI (sh (Kr K k) (2 ^ pq (K.1 2) 2) 10)) hi0 hp0
  generalize hz1 : fX3_keep ow (nI k) (nI (sh (Kr K k) (2 ^ pq (K.1 2) 2) 10)) (fX3_pair 0 ((nI k / 10) - (nI k / 10) / 10 * 10) (nI k - nI k / 10 * 10)) = z1 at a1 ⊢
  have s1 : z1.1 = ow.1 := by rw [← hz1]; rfl
  have a2 := kp_at z1 (1000 + nI k) (fX3_pair 1 (nI k / 100) (nI k - nI k / 10 * 10)) (nI (sh (Kr K k) (2 ^ pq (K.1 2) 1) 10)) hi1 hp1
  generalize hz2 : fX3_keep z1 (1000 + nI k) (nI (sh (Kr K k) (2 ^ pq (K.1 2) 1) 10)) (fX3_pair 1 (nI k / 100) (nI k - nI k / 10 * 10)) = z2 at a2 ⊢
  have s2 : z2.1 = z1.1 := by rw [← hz2]; rfl
  have a3 := kp_at z2 (2000 + nI k) (fX3_pair 2 (nI k / 100) ((nI k / 10) - (nI k / 10) / 10 * 10)) (nI (sh (Kr K k) (2 ^ pq (K.1 2) 0) 10)) hi2 hp2
  generalize hz3 : fX3_keep z2 (2000 + nI k) (nI (sh (Kr K k) (2 ^ pq (K.1 2) 0) 10)) (fX3_pair 2 (nI k / 100) ((nI k / 10) - (nI k / 10) / 10 * 10)) = z3 at a3 ⊢
  have s3 : z3.1 = z2.1 := by rw [← hz3]; rfl
  have lo : ∀ i q, i < 3 → z3.2 i q = ow.2 i q := by
    intro i q hi
    rw [a3, if_neg (by omega), if_neg (by omega), a2, if_neg (by omega), if_neg (by omega), a1, if_neg (by omega), if_neg (by omega)]
  have q0 : oth 0 k < 100 := by omega
  have q1 : oth 1 k < 100 := by omega
  have q2 : oth 2 k < 100 := by omega
  have j3 : ∀ j, j < 3 → j = 0 ∨ j = 1 ∨ j = 2 := fun j hj => by omega
  obtain ⟨h1, h2, h3, h4, h5⟩ := h
  refine ⟨by rw [s3, s2, s1]; exact h1, fun x hx => by rw [lo 1 _ (by decide)]; exact h2 x hx, fun j hj a ha x hx => by rw [lo 2 _ (by decide)]; exact h3 j hj a ha x hx, fun j hj r hr => ?_, fun j hj o ho => ?_⟩
  · have g4 := h4 j hj r
    rcases j3 j hj with rfl | rfl | rfl
    · rw [a3, if_neg (by omega)]
      by_cases c : r = k
      · subst c; rw [if_pos (by omega)]; rfl
      · rw [if_neg (by omega), a2, if_neg (by omega), if_neg (by omega), a1, if_neg (by omega), if_neg (by omega)]
        exact g4 (by omega)
    · rw [a3, if_neg (by omega), if_neg (by omega), a2, if_neg (by omega)]
      by_cases c : r = k
      · subst c; rw [if_pos (by omega)]; rfl
      · rw [if_neg (by omega), a1, if_neg (by omega), if_neg (by omega)]
        exact g4 (by omega)
    · rw [a3, if_neg (by omega), if_neg (by omega), a2, if_neg (by omega), if_neg (by omega), a1, if_neg (by omega)]
      by_cases c : r = k
      · subst c; rw [if_pos (by omega)]; rfl
      · rw [if_neg (by omega)]
        exact g4 (by omega)
  · have g5 := h5 j hj o ho
    have gs := gG_st hK j k
    rcases j3 j hj with rfl | rfl | rfl
    · by_cases c : o = oth 0 k
      · subst c
        have b2 : z2.2 4 (200 + oth 0 k) = nI (gG K 0 (oth 0 k) k) := by
          rw [a2, if_neg (by omega), if_neg (by omega), a1, if_neg (by omega), if_neg (by omega)]
          exact g5
        rw [a3, if_pos (by omega), b2]
        exact gs
      · rw [gG_ns c, a3, if_neg (by omega), if_neg (by omega), a2, if_neg (by omega), if_neg (by omega), a1, if_neg (by omega), if_neg (by omega)]
        exact g5
    · by_cases c : o = oth 1 k
      · subst c
        have b2 : z1.2 4 (100 + oth 1 k) = nI (gG K 1 (oth 1 k) k) := by
          rw [a1, if_neg (by omega), if_neg (by omega)]
          exact g5
        rw [a3, if_neg (by omega), if_neg (by omega), a2, if_pos (by omega), b2]
        exact gs
      · rw [gG_ns c, a3, if_neg (by omega), if_neg (by omega), a2, if_neg (by omega), if_neg (by omega), a1, if_neg (by omega), if_neg (by omega)]
        exact g5
    · have g5' : ow.2 4 o = nI (gG K 2 o k) := by
        have e0 : (2 - 2) * 100 + o = o := by omega
        rw [e0] at g5
        exact g5
      rw [show (2 - 2) * 100 + o = o by omega]
      by_cases c : o = oth 2 k
      · subst c
        rw [a3, if_neg (by omega), if_neg (by omega), a2, if_neg (by omega), if_neg (by omega), a1, if_pos (by omega), g5']
        exact gs
      · rw [gG_ns c, a3, if_neg (by omega), if_neg (by omega), a2, if_neg (by omega), if_neg (by omega), a1, if_neg (by omega), if_neg (by omega)]
        exact g5'
theorem rw_le {T : Nat} (hn : cn T 6 ≤ 3) : 1 ≤ 10 ^ cn T 6 ∧ 10 ^ cn T 6 ≤ 1000 := by
  generalize cn T 6 = n at hn ⊢
  have : n = 0 ∨ n = 1 ∨ n = 2 ∨ n = 3 := by omega
  rcases this with rfl | rfl | rfl | rfl <;> decide
theorem wg_L {K : KV} (hK : kok K) (hn : cn (K.1 2) 6 ≤ 3) : ∀ n k ow, k + n = 1000 → k ≤ 10 ^ cn (K.1 2) 6 → WI K k ow → WI K (10 ^ cn (K.1 2) 6) (fX3_weigh_L30 n k ow) := by
  have hr := rw_le hn
  intro n
  induction n with
  | zero =>
    intro k ow hk h1 h
    have e : 10 ^ cn (K.1 2) 6 = k := by omega
    unfold fX3_weigh_L30
    rw [e]
    split <;> exact h
  | succ n ih =>
    intro k ow hk h1 h
    unfold fX3_weigh_L30
    rw [h.1]
    by_cases c : 10 ^ cn (K.1 2) 6 ≤ k
    · have e : 10 ^ cn (K.1 2) 6 = k := by omega
      rw [if_pos (nI_le c (by omega)), e]
      exact h
    · rw [if_neg (fun z => c ((nI_leI (by omega) (by omega)).mp z))]
      exact ih (k + 1) _ (by omega) (by omega) (wr_st hK hn h (by omega))
theorem C_weigh {K : KV} {oc : OV} (hK : kok K) (hC : rC K oc) (hn : cn (K.1 2) 6 ≤ 3) (ow : OV) : WI K (10 ^ cn (K.1 2) 6) (fX3_weigh ow oc) := by
  unfold fX3_weigh
  obtain ⟨s1, s2, s3⟩ := C_slots hK hC hn (ub (ub ow 1 (va_cpy (oc.2 9) (ow.2 1) (0 : Int32).toNatClampNeg (0 : Int32).toNatClampNeg (10 : Int32).toNatClampNeg)) 4 (fJ7_fill_53178 300 (ow.2 4) 0))
  generalize fX3_fillSlots (ub (ub ow 1 (va_cpy (oc.2 9) (ow.2 1) (0 : Int32).toNatClampNeg (0 : Int32).toNatClampNeg (10 : Int32).toNatClampNeg)) 4 (fJ7_fill_53178 300 (ow.2 4) 0)) oc = z at s1 s2 s3 ⊢
  refine wg_L hK hn 1000 0 z rfl (Nat.zero_le _) ⟨s1, fun x hx => ?_, s2, fun j _ r hr => absurd hr (Nat.not_lt_zero _), fun j hj o ho => ?_⟩
  · rw [s3 1 (by decide)]
    exact (c10 (f := oc.2 9) (g := ow.2 1) hx).trans (hC.2.2 x hx)
  · rw [s3 4 (by decide)]
    exact fl_in (p := 0) (by decide) (by omega)
theorem C_isRest {K : KV} {ow : OV} (hK : kok K) (h : WI K (10 ^ cn (K.1 2) 6) ow) (hn : cn (K.1 2) 6 ≤ 3) {r : Nat} (hr : r < 10 ^ cn (K.1 2) 6) : ¬ fX3_isRest ow (nI r) = 0 ↔ ∀ j, j < 3 → sS K j r = gG K j (oth j r) (10 ^ cn (K.1 2) 6) := by
  have hw := rw_le hn
  have hk : r < 1000 := by omega
  have hd : ∀ j, dgt r j < 10 := fun j => Nat.mod_lt _ (by decide)
  have d0 : dgt r 0 = r % 10 := by unfold dgt; rw [Nat.pow_zero, Nat.div_one]
  have d1 : dgt r 1 = r / 10 % 10 := by unfold dgt; rw [Nat.pow_one]
  have d2 : dgt r 2 = r / 100 := by unfold dgt; omega
  have o0 : oth 0 r = r / 10 := rfl
  have o1 : oth 1 r = r / 100 * 10 + r % 10 := rfl
  have o2 : oth 2 r = r % 100 := rfl
  have hp0 : (fX3_pair 0 ((nI r / 10) - (nI r / 10) / 10 * 10) (nI r - nI r / 10 * 10)).toNatClampNeg = (2 - 2) * 100 + oth 2 r := by
    rw [dv2 hk, dv3 hk, show fX3_pair 0 (nI (dgt r 1)) (nI (dgt r 0)) = nI ((0 * 10 + dgt r 1) * 10 + dgt r 0) from pr_n 0 _ _, nI_clamp (by have := hd 0; have := hd 1; omega)]
    omega
  have hp1 : (fX3_pair 1 (nI r / 100) (nI r - nI r / 10 * 10)).toNatClampNeg = (2 - 1) * 100 + oth 1 r := by
    rw [dv1 hk, dv3 hk, show fX3_pair 1 (nI (dgt r 2)) (nI (dgt r 0)) = nI ((1 * 10 + dgt r 2) * 10 + dgt r 0) from pr_n 1 _ _, nI_clamp (by have := hd 0; have := hd 2; omega)]
    omega
  have hp2 : (fX3_pair 2 (nI r / 100) ((nI r / 10) - (nI r / 10) / 10 * 10)).toNatClampNeg = (2 - 0) * 100 + oth 0 r := by
    rw [dv1 hk, dv2 hk, show fX3_pair 2 (nI (dgt r 2)) (nI (dgt r 1)) = nI ((2 * 10 + dgt r 2) * 10 + dgt r 1) from pr_n 2 _ _, nI_clamp (by have := hd 1; have := hd 2; omega)]
    omega
  have hi0 : (nI r).toNatClampNeg = (2 - 2) * 1000 + r := (nI_clamp (by omega)).trans (by omega)
  have hi1 : (1000 + nI r).toNatClampNeg = (2 - 1) * 1000 + r := by
    rw [show (1000 : Int32) = nI 1000 from rfl, nI_add]
    exact (nI_clamp (by omega)).trans (by omega)
  have hi2 : (2000 + nI r).toNatClampNeg = (2 - 0) * 1000 + r := by
    rw [show (2000 : Int32) = nI 2000 from rfl, nI_add]
    exact (nI_clamp (by omega)).trans (by omega)
  have b : ∀ j, (nI (sS K j r) = nI (gG K j (oth j r) (10 ^ cn (K.1 2) 6)) ↔ sS K j r = gG K j (oth j r) (10 ^ cn (K.1 2) 6)) := fun j => nI_eq (by have := sS_le hK j r; omega) (by have := gG_le hK j (oth j r) (10 ^ cn (K.1 2) 6); omega)
  unfold fX3_isRest
  rw [hp0, hp1, hp2, hi0, hi1, hi2, h.2.2.2.1 2 (by decide) r hr, h.2.2.2.1 1 (by decide) r hr, h.2.2.2.1 0 (by decide) r hr, h.2.2.2.2 2 (by decide) _ (by omega), h.2.2.2.2 1 (by decide) _ (by omega), h.2.2.2.2 0 (by decide) _ (by omega)]
  constructor
  · intro z j hj
    by_cases c2 : nI (sS K 2 r) = nI (gG K 2 (oth 2 r) (10 ^ cn (K.1 2) 6))
    · rw [if_pos c2] at z
      by_cases c1 : nI (sS K 1 r) = nI (gG K 1 (oth 1 r) (10 ^ cn (K.1 2) 6))
      · rw [if_pos c1] at z
        by_cases c0 : nI (sS K 0 r) = nI (gG K 0 (oth 0 r) (10 ^ cn (K.1 2) 6))
        · have : j = 0 ∨ j = 1 ∨ j = 2 := by omega
          rcases this with rfl | rfl | rfl
          · exact (b 0).mp c0
          · exact (b 1).mp c1
          · exact (b 2).mp c2
        · rw [if_neg c0] at z
          exact absurd rfl z
      · rw [if_neg c1] at z
        exact absurd rfl z
    · rw [if_neg c2] at z
      exact absurd rfl z
  · intro z
    rw [if_pos ((b 2).mpr (z 2 (by decide))), if_pos ((b 1).mpr (z 1 (by decide))), if_pos ((b 0).mpr (z 0 (by decide)))]
    decide
