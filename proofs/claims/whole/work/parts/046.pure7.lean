/-! PURE 7: sixtieths, lowest terms, chance -/
def cn (x : Nat) : Nat → Nat
  | 0 => 0
  | k + 1 => cn x k + (if x.testBit k then 1 else 0)
theorem cn_bc : ∀ b, b < 64 → fJ6_bitCount_0f7a4 (nI b) = nI (cn b 6) := by decide +kernel
theorem cn_le (x : Nat) : ∀ k, cn x k ≤ k
  | 0 => Nat.le_refl _
  | k + 1 => by
    have := cn_le x k
    unfold cn
    split <;> omega
theorem cn_0 : ∀ b, b < 64 → (cn b 6 = 0 ↔ b = 0) := by decide +kernel
theorem cn_mono (b t : Nat) : ∀ k, cn (b &&& t) k ≤ cn b k
  | 0 => Nat.le_refl _
  | k + 1 => by
    have := cn_mono b t k
    unfold cn
    rw [Nat.testBit_and]
    cases b.testBit k <;> cases t.testBit k <;> simp <;> omega
def sh (K : KV) (t : Nat) : Nat → Nat
  | 0 => 0
  | r + 1 => sh K t r + (if ru K r = 0 then 0 else K.2 9 r * (60 / cn (ru K r) 6) * cn (ru K r &&& t) 6)
theorem sh_le {K : KV} (t : Nat) : ∀ r, sh K t r ≤ 60 * kw K r
  | 0 => Nat.le_refl _
  | r + 1 => by
    have h := sh_le (K := K) t r
    unfold sh kw
    have e : (if ru K r = 0 then 0 else K.2 9 r * (60 / cn (ru K r) 6) * cn (ru K r &&& t) 6) ≤ K.2 9 r * 60 := by
      split
      · exact Nat.zero_le _
      · rw [Nat.mul_assoc]
        refine Nat.mul_le_mul_left _ ?_
        exact Nat.le_trans (Nat.mul_le_mul_left _ (cn_mono _ _ _)) (Nat.div_mul_le_self _ _)
    omega
theorem C_share {K : KV} {oc : OV} (hK : kok K) (hC : rC K oc) {p0 : Int32} {t : Nat} (ht : ∀ b, b < 64 → nI b &&& p0 = nI (b &&& t)) : ∀ k, k ≤ 10 → fX0_shareOf_L4 oc p0 0 k = nI (sh K t k) := by
  intro k
  induction k with
  | zero => intro _; rfl
  | succ k ih =>
    intro hk
    have er : fX0_firstOf oc (fX0_umbrellas oc) (nI k) = nI (ru K k) := C_rulers hK hC (by omega)
    have hr := ru_lt K k
    show (if (fJ6_bitCount_0f7a4 (fX0_firstOf oc (fX0_umbrellas oc) (nI k))) ≤ 0 then fX0_shareOf_L4 oc p0 0 k else ((fX0_shareOf_L4 oc p0 0 k) + ((((oc.2 9) (nI k).toNatClampNeg) * (60 / (fJ6_bitCount_0f7a4 (fX0_firstOf oc (fX0_umbrellas oc) (nI k))))) * (fJ6_bitCount_0f7a4 ((fX0_firstOf oc (fX0_umbrellas oc) (nI k)) &&& p0))))) = nI (sh K t k + (if ru K k = 0 then 0 else K.2 9 k * (60 / cn (ru K k) 6) * cn (ru K k &&& t) 6))
    rw [ih (by omega), er, ht _ hr, cn_bc _ hr, cn_bc _ (and64 _ hr), nI_clamp (by omega), hC.2.2 k (by omega)]
    have hc := cn_le (ru K k) 6
    by_cases e : ru K k = 0
    · rw [if_pos e, if_pos (show nI (cn (ru K k) 6) ≤ 0 by rw [(cn_0 _ hr).mpr e]; decide), Nat.add_zero]
    · have e0 : cn (ru K k) 6 ≠ 0 := fun z => e ((cn_0 _ hr).mp z)
      rw [if_neg e, if_neg (show ¬ nI (cn (ru K k) 6) ≤ 0 from fun z => by have := (nI_leI (b := 0) (by omega) (by decide)).mp z; omega)]
      rw [show (60 : Int32) / nI (cn (ru K k) 6) = nI (60 / cn (ru K k) 6) from pk_div (a := 60) (by decide) (by omega) (by omega), pk_mul, pk_mul, nI_add]
theorem M_cn {K : KV} {om : OV} (hK : kok K) (hM : rM K om) {p0 : Int32} {t r : Nat} (hr : r < 10) (hm : ∀ k, k < 6 → (if 6 ≤ p0 then (if ((om.2 3) (nI k).toNatClampNeg) = (p0 - 6) then (1 : Int32) else 0) else (if (nI k) = p0 then (1 : Int32) else 0)) = if t.testBit k then 1 else 0) : ∀ k, k ≤ 6 → fX5_sixtieths_L23 om p0 r 0 k = nI (cn (ru K r &&& t) k) := by
  intro k
  induction k with
  | zero => intro _; rfl
  | succ k ih =>
    intro hk
    have hl := ru_lt K r
    show ((fX5_sixtieths_L23 om p0 r 0 k) + (if (if 6 ≤ p0 then (if ((om.2 3) (nI k).toNatClampNeg) = (p0 - 6) then (1 : Int32) else 0) else (if (nI k) = p0 then (1 : Int32) else 0)) = 0 then (0 : Int32) else (((fX5_rulersBy om (nI r)) >>> ((nI k) &&& 31)) &&& 1))) = nI (cn (ru K r &&& t) k + (if (ru K r &&& t).testBit k then 1 else 0))
    rw [ih (by omega), hm k (by omega), M_rulers hK hM hr, shr1 (by omega) (by omega), Nat.testBit_and, ← nI_add]
    cases t.testBit k <;> cases (ru K r).testBit k <;> rfl
theorem on_cn : ∀ b, b < 64 → fX5_ones (nI b) = nI (cn b 6) := by decide +kernel
theorem M_share {K : KV} {om : OV} (hK : kok K) (hM : rM K om) {p0 : Int32} {t : Nat} (hm : ∀ k, k < 6 → (if 6 ≤ p0 then (if ((om.2 3) (nI k).toNatClampNeg) = (p0 - 6) then (1 : Int32) else 0) else (if (nI k) = p0 then (1 : Int32) else 0)) = if t.testBit k then 1 else 0) : ∀ k, k ≤ 10 → fX5_sixtieths_L4 om p0 0 k = nI (sh K t k) := by
  intro k
  induction k with
  | zero => intro _; rfl
  | succ k ih =>
    intro hk
    have hr := ru_lt K k
    show ((fX5_sixtieths_L4 om p0 0 k) + (if (fX5_rulersBy om (nI k)) = 0 then (0 : Int32) else ((((om.2 8) (nI k).toNatClampNeg) * (fX5_sixtieths_L23 om p0 k 0 (6))) * (60 / (fX5_ones (fX5_rulersBy om (nI k))))))) = nI (sh K t k + (if ru K k = 0 then 0 else K.2 9 k * (60 / cn (ru K k) 6) * cn (ru K k &&& t) 6))
    rw [ih (by omega), M_cn hK hM (by omega) hm 6 (Nat.le_refl _), M_rulers hK hM (by omega), on_cn _ hr, nI_clamp (by omega), hM.2.2 k (by omega)]
    have hc := cn_le (ru K k) 6
    by_cases e : ru K k = 0
    · rw [if_pos e, if_pos (show nI (ru K k) = 0 by rw [e]; rfl), Nat.add_zero]
      exact Int32.add_zero _
    · have e0 : cn (ru K k) 6 ≠ 0 := fun z => e ((cn_0 _ hr).mp z)
      rw [if_neg e, if_neg (show ¬ nI (ru K k) = 0 from fun z => e ((nI_eq (b := 0) (by omega) (by decide)).mp z))]
      rw [show (60 : Int32) / nI (cn (ru K k) 6) = nI (60 / cn (ru K k) 6) from pk_div (a := 60) (by decide) (by omega) (by omega), pk_mul, pk_mul, nI_add, Nat.mul_right_comm]
-- lowest terms
theorem hlf {x y : Nat} (h0 : 0 < y) (h1 : 0 < x % y) : 2 * (y % (x % y)) < y := by
  have a := Nat.mod_lt x h0
  have b := Nat.mod_lt y h1
  have c := Nat.div_add_mod y (x % y)
  have d : 1 ≤ y / (x % y) := (Nat.one_le_div_iff h1).mpr (by omega)
  have e : x % y * 1 ≤ x % y * (y / (x % y)) := Nat.mul_le_mul_left _ d
  omega
theorem C_gcd : ∀ n f k x y, 2 * n ≤ f → y < 2 ^ n → x < 2 ^ 31 → y < 2 ^ 31 → fX4_commonDivisor_L7 f k (nI y) (nI x) = nI (Nat.gcd x y) := by
  intro n
  induction n with
  | zero =>
    intro f k x y _ hy hx _
    have : y = 0 := by omega
    subst this
    rw [Nat.gcd_zero_right]
    cases f
    · rfl
    · show (if nI 0 = 0 then nI x else _) = nI x
      exact if_pos rfl
  | succ n ih =>
    intro f k x y hf hy hx hy2
    obtain ⟨f, rfl⟩ : ∃ g, f = g + 2 := ⟨f - 2, by omega⟩
    show (if nI y = 0 then nI x else fX4_commonDivisor_L7 (f + 1) (k + 1) (nI x - nI x / nI y * nI y) (nI y)) = _
    by_cases e : y = 0
    · subst e
      rw [if_pos (show nI 0 = 0 from rfl), Nat.gcd_zero_right]
    rw [if_neg (show ¬ nI y = 0 from fun z => e ((nI_eq (b := 0) hy2 (by decide)).mp z)), pk_rem hx (by omega) hy2]
    have hm := Nat.mod_lt x (show 0 < y by omega)
    have eg : Nat.gcd x y = Nat.gcd y (x % y) := by rw [Nat.gcd_comm x y, Nat.gcd_rec, Nat.gcd_comm]
    show (if nI (x % y) = 0 then nI y else fX4_commonDivisor_L7 f (k + 1 + 1) (nI y - nI y / nI (x % y) * nI (x % y)) (nI (x % y))) = _
    rw [eg]
    by_cases e2 : x % y = 0
    · rw [e2, if_pos (show nI 0 = 0 from rfl), Nat.gcd_zero_right]
    have hp : 0 < x % y := by omega
    have hh := hlf (x := x) (y := y) (by omega) hp
    rw [if_neg (show ¬ nI (x % y) = 0 from fun z => e2 ((nI_eq (b := 0) (by omega) (by decide)).mp z)), pk_rem hy2 hp (by omega)]
    have eg2 : Nat.gcd y (x % y) = Nat.gcd (x % y) (y % (x % y)) := by rw [Nat.gcd_comm y, Nat.gcd_rec, Nat.gcd_comm]
    rw [eg2]
    have : 2 ^ (n + 1) = 2 * 2 ^ n := by rw [Nat.pow_succ]; omega
    exact ih f _ _ _ (by omega) (by omega) (by omega) (by omega)
theorem M_gcd {p0 p1 : Int64} {p2 : Int32} : ∀ n f k x y, 2 * n ≤ f → y < 2 ^ n → x < 2 ^ 31 → y < 2 ^ 31 → fX5_lowest_L6 p0 p1 p2 f k (lN y) (lN x) = if p2 = 0 then p0 / lN (Nat.gcd x y) else p1 / lN (Nat.gcd x y) := by
  intro n
  induction n with
  | zero =>
    intro f k x y _ hy hx _
    have : y = 0 := by omega
    subst this
    rw [Nat.gcd_zero_right]
    cases f
    · rfl
    · show (if (lg_cmp (lN 0) 0) = 0 then (if p2 = 0 then (p0 / lN x) else (p1 / lN x)) else _) = _
      exact if_pos ((lg_cmp_eq _ _).mpr rfl)
  | succ n ih =>
    intro f k x y hf hy hx hy2
    obtain ⟨f, rfl⟩ : ∃ g, f = g + 2 := ⟨f - 2, by omega⟩
    have hz : ∀ j, j < 2 ^ 31 → ¬ j = 0 → ¬ lg_cmp (lN j) 0 = 0 := fun j hj h z => h ((lN_eq (b := 0) hj (by decide)).mp ((lg_cmp_eq _ _).mp z))
    show (if (lg_cmp (lN y) 0) = 0 then (if p2 = 0 then (p0 / lN x) else (p1 / lN x)) else fX5_lowest_L6 p0 p1 p2 (f + 1) (k + 1) (lN x - lN x / lN y * lN y) (lN y)) = _
    by_cases e : y = 0
    · subst e
      rw [if_pos ((lg_cmp_eq (lN 0) 0).mpr rfl), Nat.gcd_zero_right]
    rw [if_neg (hz y hy2 e), pk_lRem (by omega) (by omega) (by omega)]
    have hm := Nat.mod_lt x (show 0 < y by omega)
    have eg : Nat.gcd x y = Nat.gcd y (x % y) := by rw [Nat.gcd_comm x y, Nat.gcd_rec, Nat.gcd_comm]
    show (if (lg_cmp (lN (x % y)) 0) = 0 then (if p2 = 0 then (p0 / lN y) else (p1 / lN y)) else fX5_lowest_L6 p0 p1 p2 f (k + 1 + 1) (lN y - lN y / lN (x % y) * lN (x % y)) (lN (x % y))) = _
    rw [eg]
    by_cases e2 : x % y = 0
    · rw [e2, if_pos ((lg_cmp_eq (lN 0) 0).mpr rfl), Nat.gcd_zero_right]
    have hp : 0 < x % y := by omega
    have hh := hlf (x := x) (y := y) (by omega) hp
    rw [if_neg (hz (x % y) (by omega) e2), pk_lRem (by omega) hp (by omega)]
    have eg2 : Nat.gcd y (x % y) = Nat.gcd (x % y) (y % (x % y)) := by rw [Nat.gcd_comm y, Nat.gcd_rec, Nat.gcd_comm]
    rw [eg2]
    have : 2 ^ (n + 1) = 2 * 2 ^ n := by rw [Nat.pow_succ]; omega
    exact ih f _ _ _ (by omega) (by omega) (by omega) (by omega)
theorem w64 {n : Nat} (h : n < 2 ^ 31) : (nI n).toInt64 = lN n := Int64.toInt_inj.mp (by rw [i64_eq, nI_toInt h, lN_toInt h])
theorem low_eq {a b : Nat} (ha : a < 8192) (hb : b < 8192) (h0 : 0 < b) (p : Int32) : fX4_fraction (nI a) (nI b) p = fX5_lowest (nI a).toInt64 (nI b).toInt64 p := by
  have g0 : 0 < Nat.gcd a b := Nat.gcd_pos_of_pos_right _ h0
  have gb : Nat.gcd a b ≤ b := Nat.le_of_dvd h0 (Nat.gcd_dvd_right a b)
  have eC : fX4_commonDivisor (nI a) (nI b) = nI (Nat.gcd a b) := C_gcd 13 1000 0 a b (by decide) (by omega) (by omega) (by omega)
  unfold fX4_fraction fX5_lowest
  rw [eC, w64 (by omega), w64 (by omega)]
  have eM := M_gcd (p0 := lN a) (p1 := lN b) (p2 := p) 13 40000 0 b a (by decide) (by omega) (by omega) (by omega)
  have da : a / Nat.gcd a b ≤ a := Nat.div_le_self _ _
  have db : b / Nat.gcd a b ≤ b := Nat.div_le_self _ _
  rw [Nat.gcd_comm b a] at eM
  refine Eq.trans ?_ eM.symm
  rw [if_pos (show (1 : Int32) ≤ nI (Nat.gcd a b) from nI_le (a := 1) g0 (by omega))]
  by_cases e : p = 0
  · rw [if_pos e, if_pos e, pk_div (by omega) g0 (by omega), w64 (by omega), pk_lDiv (by omega) g0 (by omega)]
  · rw [if_neg e, if_neg e, pk_div (by omega) g0 (by omega), w64 (by omega), pk_lDiv (by omega) g0 (by omega)]
theorem sil : ∀ c, c < 64 → ∀ b, b < 64 → nI b &&& (nI c ^^^ (-1)) = nI (b &&& (63 ^^^ c)) := fun c hc b hb => not_and b hb c hc
theorem pwt : ∀ p, p < 6 → ∀ b, b < 64 → nI b &&& (1 <<< (nI p &&& 31)) = nI (b &&& 2 ^ p) := fun p hp b _ => by rw [pw6 p hp, fa_and]
theorem nl6 : ∀ p, p < 6 → ¬ (6 : Int32) ≤ nI p := by decide +kernel
theorem m_prs {om : OV} {p : Nat} (hp : p < 6) : ∀ k, k < 6 → (if 6 ≤ nI p then (if ((om.2 3) (nI k).toNatClampNeg) = (nI p - 6) then (1 : Int32) else 0) else (if (nI k) = nI p then (1 : Int32) else 0)) = if (2 ^ p).testBit k then 1 else 0 := by
  intro k hk
  rw [if_neg (nl6 p hp), Nat.testBit_two_pow]
  by_cases e : k = p
  · subst e; rw [if_pos rfl, decide_eq_true rfl, if_pos rfl]
  · rw [if_neg (fun z => e ((nI_eq (by omega) (by omega)).mp z)), decide_eq_false (fun z => e z.symm), if_neg Bool.false_ne_true]
theorem m_sil {K : KV} {om : OV} (hM : rM K om) : ∀ k, k < 6 → (if (6 : Int32) ≤ 6 then (if ((om.2 3) (nI k).toNatClampNeg) = ((6 : Int32) - 6) then (1 : Int32) else 0) else (if (nI k) = 6 then (1 : Int32) else 0)) = if (63 ^^^ K.1 4).testBit k then 1 else 0 := by
  intro k hk
  rw [if_pos (show (6 : Int32) ≤ 6 by decide), nI_clamp (by omega), (hM.2.1 k hk).2.2.1, Nat.testBit_xor, tb63, decide_eq_true hk]
  cases (K.1 4).testBit k <;> rfl
theorem m_cot {K : KV} {om : OV} (hM : rM K om) : ∀ k, k < 6 → (if (6 : Int32) ≤ 7 then (if ((om.2 3) (nI k).toNatClampNeg) = ((7 : Int32) - 6) then (1 : Int32) else 0) else (if (nI k) = 7 then (1 : Int32) else 0)) = if (K.1 4).testBit k then 1 else 0 := by
  intro k hk
  rw [if_pos (show (6 : Int32) ≤ 7 by decide), nI_clamp (by omega), (hM.2.1 k hk).2.2.1]
  cases (K.1 4).testBit k <;> rfl
theorem fr_eq {K : KV} {oc om : OV} (h : RK K oc om) {pc pm : Int32} {t : Nat} (ht : ∀ b, b < 64 → nI b &&& pc = nI (b &&& t)) (hm : ∀ k, k < 6 → (if 6 ≤ pm then (if ((om.2 3) (nI k).toNatClampNeg) = (pm - 6) then (1 : Int32) else 0) else (if (nI k) = pm then (1 : Int32) else 0)) = if t.testBit k then 1 else 0) (p1 : Int32) : fX4_fraction (fX0_shareOf oc pc) (fX0_allShares oc) p1 = fX5_lowest ((fX5_sixtieths om pm).toInt64) ((60 * (fX5_weights om)).toInt64) p1 := by
  obtain ⟨hK, hC, hM⟩ := h
  have e1 : fX0_shareOf oc pc = nI (sh K t 10) := C_share hK hC ht 10 (Nat.le_refl _)
  have e2 : fX5_sixtieths om pm = nI (sh K t 10) := M_share hK hM hm 10 (Nat.le_refl _)
  have e3 : fX0_allShares oc = nI (60 * kw K 10) := by
    unfold fX0_allShares
    rw [C_weights hC, show (60 : Int32) = nI 60 from rfl, pk_mul, Nat.mul_comm]
  have e4 : 60 * fX5_weights om = nI (60 * kw K 10) := by
    rw [M_weights hM, show (60 : Int32) = nI 60 from rfl, pk_mul]
  have b1 := sh_le (K := K) t 10
  have b2 := kw_le hK 10 (Nat.le_refl _)
  have b3 := hK.2.2.2
  rw [e1, e2, e3, e4]
  exact low_eq (by omega) (by omega) (by omega) p1
theorem op_chance {K : KV} {oc om : OV} (h : RK K oc om) (p0 p1 : Int32) : fX4_chance oc p0 p1 = fX5_chance om p0 p1 := by
  have hK := h.1
  have hC := h.2.1
  have hM := h.2.2
  have hc := hK.1.2.2.2.2.1
  unfold fX4_chance fX5_chance fX4_chance_x7 fX4_chance_x14 fX4_chance_x21
  rw [in_wi (x := p1) (a := 0) (b := 1) (a' := 0) (b' := 1) (by decide) (by decide), in_wi (x := p0) (a := 6) (b := 7) (a' := 6) (b' := 7) (by decide) (by decide), th_eq (oc := oc) (hM.1.1.trans (hC.1 2 (by decide)).symm)]
  by_cases e6 : p0 = 6
  · subst e6
    rw [if_pos rfl, if_pos rfl, if_pos (show fX0_isThere oc 6 = 0 from if_pos (by decide)), if_neg (show ¬ fX4_within 6 6 7 = 0 by decide)]
    by_cases g : fX4_within p1 0 1 = 0
    · rw [if_pos g, if_pos g]
    · rw [if_neg g, if_neg g, hC.1 4 (by decide)]
      exact fr_eq h (sil _ hc) (m_sil hM) p1
  by_cases e7 : p0 = 7
  · subst e7
    rw [if_neg e6, if_pos rfl, if_neg e6, if_pos rfl, if_pos (show fX0_isThere oc 7 = 0 from if_pos (by decide)), if_neg (show ¬ fX4_within 7 6 7 = 0 by decide)]
    by_cases g : fX4_within p1 0 1 = 0
    · rw [if_pos g, if_pos g]
    · rw [if_neg g, if_neg g, hC.1 4 (by decide)]
      exact fr_eq h (fun b _ => fa_and _ _) (m_cot hM) p1
  rw [if_neg e6, if_neg e7, if_neg e6, if_neg e7]
  by_cases g0 : fX0_isThere oc p0 = 0
  · rw [if_pos g0, if_pos g0]
    have g2 : fX4_within p0 6 7 = 0 := by
      by_cases g : fX4_within p0 6 7 = 0
      · exact g
      · obtain ⟨v, h1, h2, rfl⟩ := wi_N (n := 6) (m := 7) (by decide) (by decide) g
        have : v = 6 ∨ v = 7 := by omega
        rcases this with rfl | rfl
        · exact absurd rfl e6
        · exact absurd rfl e7
    rw [if_pos g2]
  · rw [if_neg g0, if_neg g0]
    by_cases g : fX4_within p1 0 1 = 0
    · rw [if_pos g, if_pos g]
    · rw [if_neg g, if_neg g]
      obtain ⟨p, hp, rfl⟩ := vp_nI (it6 g0) (by decide)
      exact fr_eq h (pwt p hp) (m_prs hp) p1
