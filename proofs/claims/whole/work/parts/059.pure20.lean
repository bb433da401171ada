/-! PURE 21: rests: class and reference alike -/
theorem bst_leI (f : Nat → Nat) (hf : ∀ a, a < 10 → f a < 2 ^ 31) {v : Nat} (hv : v < 2 ^ 31) : ∀ k, k ≤ 10 → ((bst f k).1 ≤ nI v ↔ ∀ a, a < k → f a ≤ v) := by
  intro k
  induction k with
  | zero =>
    intro _
    refine ⟨fun _ a ha => absurd ha (Nat.not_lt_zero _), fun _ => ?_⟩
    show (-1 : Int32) ≤ nI v
    refine (fa_le _ _).mpr ?_
    rw [nI_toInt hv, show (-1 : Int32).toInt = -1 by decide]
    omega
  | succ k ih =>
    intro hk
    have i2 := ih (by omega)
    have hk2 := hf k (by omega)
    show (if nI (f k) ≤ (bst f k).1 then bst f k else (nI (f k), nI k)).1 ≤ nI v ↔ _
    by_cases c : nI (f k) ≤ (bst f k).1
    · rw [if_pos c, i2]
      refine ⟨fun z a ha => ?_, fun z a ha => z a (by omega)⟩
      by_cases e : a = k
      · subst e
        exact (nI_leI hk2 hv).mp (Int32.le_trans c (i2.mpr z))
      · exact z a (by omega)
    · rw [if_neg c]
      have c2 : (bst f k).1 ≤ nI (f k) := Int32.le_of_lt (Int32.not_le.mp c)
      refine ⟨fun z a ha => ?_, fun z => nI_le (z k (by omega)) hv⟩
      by_cases e : a = k
      · subst e
        exact (nI_leI hk2 hv).mp z
      · exact i2.mp (Int32.le_trans c2 z) a (by omega)
/-- row r with digit j become a -/
def rep (j r a : Nat) : Nat := if j = 0 then r / 10 * 10 + a else if j = 1 then r / 100 * 100 + a * 10 + r % 10 else a * 100 + r % 100
theorem rep_0 (r a : Nat) : rep 0 r a = r / 10 * 10 + a := rfl
theorem rep_1 (r a : Nat) : rep 1 r a = r / 100 * 100 + a * 10 + r % 10 := rfl
theorem rep_2 (r a : Nat) : rep 2 r a = a * 100 + r % 100 := rfl
theorem oth_0 (r : Nat) : oth 0 r = r / 10 := rfl
theorem oth_1 (r : Nat) : oth 1 r = r / 100 * 10 + r % 10 := rfl
theorem oth_2 (r : Nat) : oth 2 r = r % 100 := rfl
theorem dgt_0 (r : Nat) : dgt r 0 = r % 10 := by unfold dgt; rw [Nat.pow_zero, Nat.div_one]
theorem dgt_1 (r : Nat) : dgt r 1 = r / 10 % 10 := by unfold dgt; rw [Nat.pow_one]
theorem dgt_2 (r : Nat) : dgt r 2 = r / 100 % 10 := rfl
theorem rep_oth {j r a : Nat} (hj : j < 3) (hr : r < 1000) (ha : a < 10) : oth j (rep j r a) = oth j r := by
  have : j = 0 ∨ j = 1 ∨ j = 2 := by omega
  rcases this with rfl | rfl | rfl
  · rw [oth_0, oth_0, rep_0]; omega
  · rw [oth_1, oth_1, rep_1]; omega
  · rw [oth_2, oth_2, rep_2]; omega
theorem rep_lt {n j r a : Nat} (hn : n ≤ 3) (hj : j < n) (hr : r < 10 ^ n) (ha : a < 10) : rep j r a < 10 ^ n := by
  have : (n = 1 ∧ j = 0) ∨ (n = 2 ∧ j = 0) ∨ (n = 2 ∧ j = 1) ∨ (n = 3 ∧ j = 0) ∨ (n = 3 ∧ j = 1) ∨ (n = 3 ∧ j = 2) := by omega
  rcases this with ⟨rfl, rfl⟩ | ⟨rfl, rfl⟩ | ⟨rfl, rfl⟩ | ⟨rfl, rfl⟩ | ⟨rfl, rfl⟩ | ⟨rfl, rfl⟩
  · rw [rep_0]; omega
  · rw [rep_0]; omega
  · rw [rep_1]; omega
  · rw [rep_0]; omega
  · rw [rep_1]; omega
  · rw [rep_2]; omega
theorem rep_dj {j r a : Nat} (hj : j < 3) (hr : r < 1000) (ha : a < 10) : dgt (rep j r a) j = a := by
  have : j = 0 ∨ j = 1 ∨ j = 2 := by omega
  rcases this with rfl | rfl | rfl
  · rw [dgt_0, rep_0]; omega
  · rw [dgt_1, rep_1]; omega
  · rw [dgt_2, rep_2]; omega
theorem rep_di {i j r a : Nat} (hj : j < 3) (hi : i < 3) (hij : i ≠ j) (hr : r < 1000) (ha : a < 10) : dgt (rep j r a) i = dgt r i := by
  have hj3 : j = 0 ∨ j = 1 ∨ j = 2 := by omega
  have hi3 : i = 0 ∨ i = 1 ∨ i = 2 := by omega
  rcases hj3 with rfl | rfl | rfl
  · rw [rep_0]
    rcases hi3 with rfl | rfl | rfl
    · exact absurd rfl hij
    · rw [dgt_1, dgt_1]; omega
    · rw [dgt_2, dgt_2]; omega
  · rw [rep_1]
    rcases hi3 with rfl | rfl | rfl
    · rw [dgt_0, dgt_0]; omega
    · exact absurd rfl hij
    · rw [dgt_2, dgt_2]; omega
  · rw [rep_2]
    rcases hi3 with rfl | rfl | rfl
    · rw [dgt_0, dgt_0]; omega
    · rw [dgt_1, dgt_1]; omega
    · exact absurd rfl hij
theorem rep_of {j r x : Nat} (hj : j < 3) (hr : r < 1000) (hx : x < 1000) (e : oth j x = oth j r) : x = rep j r (dgt x j) := by
  have : j = 0 ∨ j = 1 ∨ j = 2 := by omega
  rcases this with rfl | rfl | rfl
  · rw [oth_0, oth_0] at e
    rw [dgt_0, rep_0]; omega
  · rw [oth_1, oth_1] at e
    rw [dgt_1, rep_1]; omega
  · rw [oth_2, oth_2] at e
    rw [dgt_2, rep_2]; omega
theorem tb_ge {T p : Nat} (hT : T < 64) (hp : 6 ≤ p) : T.testBit p = false := Nat.testBit_lt_two_pow (Nat.lt_of_lt_of_le hT (Nat.pow_le_pow_right (n := 2) (by decide) hp))
theorem Kr_rep {K : KV} (hK : kok K) (hn : cn (K.1 2) 6 ≤ 3) {p r a : Nat} (hp : p < 6) (ht : (K.1 2).testBit p = true) (hr : r < 1000) (ha : a < 10) : kua (Kr K r) 7 p a = Kr K (rep (ct (K.1 2) (5 - p)) r a) := by
  have hT := hK.1.2.2.1
  obtain ⟨g1, g2⟩ := q_p _ hT hn p hp ht
  unfold Kr
  rw [kua_kpl]
  refine congrArg (kpl K) (funext fun q => ?_)
  unfold pl
  by_cases e : q = p
  · subst e
    rw [if_pos rfl, if_pos ht, rep_dj g1 hr ha]
  · rw [if_neg e]
    by_cases t : (K.1 2).testBit q = true
    · have hq : q < 6 := by
        rcases Nat.lt_or_ge q 6 with c | c
        · exact c
        · rw [tb_ge hT c] at t; cases t
      obtain ⟨f1, f2⟩ := q_p _ hT hn q hq t
      rw [if_pos t, if_pos t, rep_di g1 f1 (fun z => e (by rw [← f2, ← g2, z])) hr ha]
    · rw [if_neg t, if_neg t]
theorem sh_none {K : KV} : ∀ k, sh K (2 ^ 6) k = 0
  | 0 => rfl
  | k + 1 => by
    have h := ru_lt K k
    show sh K (2 ^ 6) k + (if ru K k = 0 then 0 else K.2 9 k * (60 / cn (ru K k) 6) * cn (ru K k &&& 2 ^ 6) 6) = 0
    rw [sh_none k, cn_one _ h 6 (by decide), tb6 _ h, if_neg (show ¬ false = true by decide), Nat.mul_zero]
    split <;> rfl
/-- in row r nobody would rather stand elsewhere, as the class says it and as the reference does -/
theorem at_iff {K : KV} (hK : kok K) (hn : cn (K.1 2) 6 ≤ 3) {r : Nat} (hr : r < 10 ^ cn (K.1 2) 6) : (∀ j, j < 3 → sS K j r = gG K j (oth j r) (10 ^ cn (K.1 2) 6)) ↔ ∀ p, 0 ≤ p → p < 6 → atr (Kr K r) p := by
  have hT := hK.1.2.2.1
  have hw := rw_le hn
  have hr3 : r < 1000 := by omega
  have es : ∀ p, p < 6 → (K.1 2).testBit p = true → ∀ a, a < 10 → shp (Kr K r) p a ((Kr K r).2 8 p) = sS K (ct (K.1 2) (5 - p)) (rep (ct (K.1 2) (5 - p)) r a) := by
    intro p hp ht a ha
    obtain ⟨g1, g2⟩ := q_p _ hT hn p hp ht
    unfold sS
    rw [← shp_pl, Kr_rep hK hn hp ht hr3 ha, g2]
  have e0 : ∀ p, p < 6 → (K.1 2).testBit p = true → sh (Kr K r) (2 ^ p) 10 = sS K (ct (K.1 2) (5 - p)) r := by
    intro p hp ht
    obtain ⟨g1, g2⟩ := q_p _ hT hn p hp ht
    unfold sS
    rw [g2]
  have ea : ∀ p, p < 6 → (K.1 2).testBit p = true → ((bst (fun a => shp (Kr K r) p a ((Kr K r).2 8 p)) 10).1 ≤ nI (sh (Kr K r) (2 ^ p) 10) ↔ ∀ a, a < 10 → sS K (ct (K.1 2) (5 - p)) (rep (ct (K.1 2) (5 - p)) r a) ≤ sS K (ct (K.1 2) (5 - p)) r) := by
    intro p hp ht
    have b1 := sS_le hK (ct (K.1 2) (5 - p)) r
    rw [e0 p hp ht]
    refine (bst_leI (fun a => shp (Kr K r) p a ((Kr K r).2 8 p)) (fun a _ => ?_) (by omega) 10 (Nat.le_refl _)).trans ⟨fun z a ha => ?_, fun z a ha => ?_⟩
    · have := shp_le (kok_Kr hK r) p a ((Kr K r).2 8 p)
      show shp (Kr K r) p a ((Kr K r).2 8 p) < _
      omega
    · rw [← es p hp ht a ha]
      exact z a ha
    · have := z a ha
      rw [← es p hp ht a ha] at this
      exact this
  constructor
  · intro z p _ hp
    unfold atr
    intro ht
    have ht : (K.1 2).testBit p = true := ht
    obtain ⟨g1, g2⟩ := q_p _ hT hn p hp ht
    have g3 := q_in _ hT _ g1 (by omega)
    refine (ea p hp ht).mpr fun a ha => ?_
    rw [z _ g1]
    exact gG_up K _ _ _ _ (rep_lt hn g3.2.2 hr ha) (rep_oth g1 hr3 ha)
  · intro z j hj
    have q6 := q_le _ hT j hj
    have up := gG_up K j (oth j r) _ r hr rfl
    refine Nat.le_antisymm up (gG_dn K j (oth j r) (sS K j r) _ fun x hx e => ?_)
    by_cases q : pq (K.1 2) j < 6
    · obtain ⟨g1, g2, g3⟩ := q_in _ hT j hj q
      have w := z _ (Nat.zero_le _) q
      unfold atr at w
      have w2 := (ea _ q g1).mp (w g1) (dgt x j) (Nat.mod_lt _ (by decide))
      rw [g2, ← rep_of hj hr3 (by omega) e] at w2
      exact w2
    · have e6 : pq (K.1 2) j = 6 := by omega
      unfold sS
      rw [e6, sh_none, sh_none]
      exact Nat.le_refl _
-- the loops
def tl (d : Nat → Bool) (p0 : Int32) : Nat → Int32
  | 0 => -6
  | k + 1 => if d k = true then (if nI (fb_ct d k) = p0 then nI k else tl d p0 k) else tl d p0 k
theorem fc_1000 (d : Nat → Bool) {k : Nat} (h : k ≤ 1000) : fb_ct d k ≤ 1000 := Nat.le_trans (fb_ct_le d k) h
theorem tl_stay (d : Nat → Bool) {p0 : Int32} {k : Nat} (hd : d k = true) (e : nI (fb_ct d k) = p0) : ∀ m, k + 1 + m ≤ 1000 → tl d p0 (k + 1 + m) = nI k := by
  intro m
  induction m with
  | zero =>
    intro _
    show (if d k = true then (if nI (fb_ct d k) = p0 then nI k else tl d p0 k) else tl d p0 k) = nI k
    rw [if_pos hd, if_pos e]
  | succ m ih =>
    intro hm
    have i2 := ih (by omega)
    show (if d (k + 1 + m) = true then (if nI (fb_ct d (k + 1 + m)) = p0 then nI (k + 1 + m) else tl d p0 (k + 1 + m)) else tl d p0 (k + 1 + m)) = nI k
    have h1 := fb_ct_step d (k + 1) m
    have h2 : fb_ct d (k + 1) = fb_ct d k + 1 := by rw [fb_ct_succ, hd]; rfl
    have h3 := fc_1000 d (k := k + 1 + m) (by omega)
    have h4 : ¬ nI (fb_ct d (k + 1 + m)) = p0 := fun z => by
      rw [← e] at z
      have := (nI_eq (by omega) (by omega)).mp z
      omega
    rw [if_neg h4, i2]
    split <;> rfl
theorem C_many {ow : OV} {N : Nat} (hN : N ≤ 1000) (h0 : ow.1 0 = nI N) {d : Nat → Bool} (hd : ∀ r, r < N → (d r = true ↔ ¬ fX3_isRest ow (nI r) = 0)) : ∀ n k, k + n = 1000 → k ≤ N → fX3_howMany_L4 ow n k (nI (fb_ct d k)) = nI (fb_ct d N) := by
  intro n
  induction n with
  | zero =>
    intro k hk h1
    have e : N = k := by omega
    unfold fX3_howMany_L4
    rw [e]
    split <;> rfl
  | succ n ih =>
    intro k hk h1
    unfold fX3_howMany_L4
    rw [h0]
    by_cases c : N ≤ k
    · have e : N = k := by omega
      rw [if_pos (nI_le c (by omega)), e]
    · rw [if_neg (fun z => c ((nI_leI (by omega) (by omega)).mp z)), ← ih (k + 1) (by omega) (by omega), fb_ct_succ, ← nI_add]
      have hk2 := hd k (by omega)
      by_cases t : d k = true
      · rw [if_neg (hk2.mp t), if_pos t]; rfl
      · have t2 : fX3_isRest ow (nI k) = 0 := by
          by_cases z : fX3_isRest ow (nI k) = 0
          · exact z
          · exact absurd (hk2.mpr z) t
        rw [if_pos t2, if_neg t]; rfl
theorem C_row {ow : OV} {N : Nat} (hN : N ≤ 1000) (h0 : ow.1 0 = nI N) {d : Nat → Bool} (hd : ∀ r, r < N → (d r = true ↔ ¬ fX3_isRest ow (nI r) = 0)) (p0 : Int32) : ∀ n k, k + n = 1000 → k ≤ N → tl d p0 k = -6 → fX3_row_L4 ow p0 n k (nI (fb_ct d k)) = tl d p0 N := by
  intro n
  induction n with
  | zero =>
    intro k hk h1 ht
    have e : N = k := by omega
    unfold fX3_row_L4
    rw [e, ht]
    split <;> rfl
  | succ n ih =>
    intro k hk h1 ht
    unfold fX3_row_L4
    rw [h0]
    by_cases c : N ≤ k
    · have e : N = k := by omega
      rw [if_pos (nI_le c (by omega)), e, ht]
    · rw [if_neg (fun z => c ((nI_leI (by omega) (by omega)).mp z))]
      have hk2 := hd k (by omega)
      have et : tl d p0 (k + 1) = (if d k = true then (if nI (fb_ct d k) = p0 then nI k else tl d p0 k) else tl d p0 k) := rfl
      by_cases t : d k = true
      · rw [if_neg (hk2.mp t)]
        rw [if_pos t] at et
        by_cases e : nI (fb_ct d k) = p0
        · rw [if_pos e]
          have := tl_stay d t e (N - (k + 1)) (by omega)
          rw [show k + 1 + (N - (k + 1)) = N by omega] at this
          exact this.symm
        · rw [if_neg e] at et ⊢
          rw [← ih (k + 1) (by omega) (by omega) (et.trans ht), fb_ct_succ, if_pos t, ← nI_add]
          rfl
      · have t2 : fX3_isRest ow (nI k) = 0 := by
          by_cases z : fX3_isRest ow (nI k) = 0
          · exact z
          · exact absurd (hk2.mpr z) t
        rw [if_pos t2]
        rw [if_neg t] at et
        rw [← ih (k + 1) (by omega) (by omega) (et.trans ht), fb_ct_succ, if_neg t]
        rfl
