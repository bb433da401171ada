/-! PURE 18: rests, the class's side: the rows -/
/-- the share of the person of digit j in row r -/
def sS (K : KV) (j r : Nat) : Nat := sh (Kr K r) (2 ^ pq (K.1 2) j) 10
def oth (j r : Nat) : Nat := if j = 0 then r / 10 else if j = 1 then r / 100 * 10 + r % 10 else r % 100
/-- the greatest share of the person of digit j in the first k rows in which the others stand as o says -/
def gG (K : KV) (j o : Nat) : Nat → Nat
  | 0 => 0
  | k + 1 => if oth j k = o then (if gG K j o k < sS K j k then sS K j k else gG K j o k) else gG K j o k
theorem kw_Kr (K : KV) (r : Nat) : ∀ n, kw (Kr K r) n = kw K n
  | 0 => rfl
  | n + 1 => by
    show kw (Kr K r) n + K.2 9 n = kw K n + K.2 9 n
    rw [kw_Kr K r n]
theorem sS_le {K : KV} (hK : kok K) (j r : Nat) : sS K j r ≤ 5400 := by
  have h1 := sh_le (K := Kr K r) (2 ^ pq (K.1 2) j) 10
  have h2 := kw_le hK 10 (Nat.le_refl _)
  rw [kw_Kr] at h1
  show sh (Kr K r) (2 ^ pq (K.1 2) j) 10 ≤ 5400
  omega
theorem gG_le {K : KV} (hK : kok K) (j o : Nat) : ∀ k, gG K j o k ≤ 5400
  | 0 => Nat.zero_le _
  | k + 1 => by
    have h1 := gG_le hK j o k
    have h2 := sS_le hK j k
    unfold gG
    split
    · split <;> omega
    · exact h1
theorem gG_up (K : KV) (j o : Nat) : ∀ k r, r < k → oth j r = o → sS K j r ≤ gG K j o k := by
  intro k
  induction k with
  | zero => intro r h; omega
  | succ k ih =>
    intro r hr e
    unfold gG
    by_cases q : r = k
    · subst q
      rw [if_pos e]
      split <;> omega
    · have := ih r (by omega) e
      split
      · split <;> omega
      · exact this
theorem gG_dn (K : KV) (j o M : Nat) : ∀ k, (∀ r, r < k → oth j r = o → sS K j r ≤ M) → gG K j o k ≤ M := by
  intro k
  induction k with
  | zero => intro _; exact Nat.zero_le _
  | succ k ih =>
    intro h
    have h1 := ih (fun r hr e => h r (by omega) e)
    unfold gG
    by_cases e : oth j k = o
    · have := h k (by omega) e
      rw [if_pos e]
      split <;> omega
    · rw [if_neg e]; exact h1
theorem q_p : ∀ T, T < 64 → cn T 6 ≤ 3 → ∀ p, p < 6 → T.testBit p = true → ct T (5 - p) < 3 ∧ pq T (ct T (5 - p)) = p := by decide +kernel
theorem tt_le {K : KV} (hK : kok K) {j a x : Nat} (hj : j < 3) (ha : a < 10) (hx : x < 10) : tt K j a x ≤ 1000 ∧ (tt K j a x < 1000 → tt K j a x < 100) := by
  have hT := hK.1.2.2.1
  unfold tt
  by_cases b : (um K).testBit (pq (K.1 2) j) = true
  · have h6 : pq (K.1 2) j < 6 := by
      have := q_le _ hT j hj
      rcases Nat.lt_or_ge (pq (K.1 2) j) 6 with q | q
      · exact q
      · have e6 : pq (K.1 2) j = 6 := by omega
        rw [e6, um_6 hK] at b
        cases b
    have := tm_lt hK ha (hK.2.1 _ h6).2.1 hx
    rw [if_pos b]
    omega
  · rw [if_neg b]
    omega
theorem vo_q {K : KV} (hK : kok K) {j r x : Nat} (hj : j < 3) : vo (Kr K r) (um (Kr K r)).testBit x (pq (K.1 2) j) = tt K j (dgt r j) x := by
  have hT := hK.1.2.2.1
  show (if (um K).testBit (pq (K.1 2) j) then tm (Kr K r) (pl (K.1 2) r (K.2 7) (pq (K.1 2) j)) (K.2 8 (pq (K.1 2) j)) x else 1000) = tt K j (dgt r j) x
  unfold tt
  by_cases b : (um K).testBit (pq (K.1 2) j) = true
  · rw [if_pos b, if_pos b]
    have h6 : pq (K.1 2) j < 6 := by
      have := q_le _ hT j hj
      rcases Nat.lt_or_ge (pq (K.1 2) j) 6 with q | q
      · exact q
      · have e6 : pq (K.1 2) j = 6 := by omega
        rw [e6, um_6 hK] at b
        cases b
    obtain ⟨g1, g2, -⟩ := q_in _ hT j hj h6
    unfold pl
    rw [if_pos g1, g2]
    rfl
  · rw [if_neg b, if_neg b]
/-- the least of three -/
def m3 (a b c : Nat) : Nat := if (if c < b then c else b) < a then (if c < b then c else b) else a
theorem mn_q {K : KV} (hK : kok K) (hn : cn (K.1 2) 6 ≤ 3) {r x : Nat} (hx : x < 10) : mn (vo (Kr K r) (um (Kr K r)).testBit x) 6 = m3 (tt K 2 (dgt r 2) x) (tt K 1 (dgt r 1) x) (tt K 0 (dgt r 0) x) := by
  have hT := hK.1.2.2.1
  have hd : ∀ j, dgt r j < 10 := fun j => Nat.mod_lt _ (by decide)
  have hv : ∀ j, j < 3 → vo (Kr K r) (um (Kr K r)).testBit x (pq (K.1 2) j) = tt K j (dgt r j) x := fun j hj => vo_q hK hj
  have hle : ∀ j, j < 3 → mn (vo (Kr K r) (um (Kr K r)).testBit x) 6 ≤ tt K j (dgt r j) x := by
    intro j hj
    have h6 := q_le _ hT j hj
    rw [← hv j hj]
    by_cases q : pq (K.1 2) j < 6
    · exact mn_le _ q
    · have e6 : pq (K.1 2) j = 6 := by omega
      have e0 : vo (Kr K r) (um (Kr K r)).testBit x 6 = 1000 := if_neg (by rw [um_6 (kok_Kr hK r)]; decide)
      rw [e6, e0]
      exact mn_1000 _ 6
  have hh : mn (vo (Kr K r) (um (Kr K r)).testBit x) 6 < 1000 → ∃ j, j < 3 ∧ tt K j (dgt r j) x = mn (vo (Kr K r) (um (Kr K r)).testBit x) 6 := by
    intro h
    obtain ⟨p, hp, e⟩ := mn_has _ h
    have hb : (um K).testBit p = true := by
      cases c : (um K).testBit p
      · have e0 : vo (Kr K r) (um (Kr K r)).testBit x p = 1000 := if_neg (by
          show ¬ (um K).testBit p = true
          rw [c]; decide)
        omega
      · rfl
    rw [um_tb K hp] at hb
    have ht : (K.1 2).testBit p = true := by
      cases c : (K.1 2).testBit p
      · rw [c] at hb; cases hb
      · rfl
    obtain ⟨g1, g2⟩ := q_p _ hT hn p hp ht
    refine ⟨_, g1, ?_⟩
    rw [← hv _ g1, g2]
    exact e
  have h0 := hle 0 (by decide)
  have h1 := hle 1 (by decide)
  have h2 := hle 2 (by decide)
  have l0 := (tt_le hK (j := 0) (by decide) (hd 0) hx).1
  have l1 := (tt_le hK (j := 1) (by decide) (hd 1) hx).1
  have l2 := (tt_le hK (j := 2) (by decide) (hd 2) hx).1
  have hm := mn_1000 (vo (Kr K r) (um (Kr K r)).testBit x) 6
  generalize mn (vo (Kr K r) (um (Kr K r)).testBit x) 6 = m at h0 h1 h2 hm hh ⊢
  unfold m3
  rcases Nat.lt_or_ge m 1000 with q | q
  · obtain ⟨j, hj, e⟩ := hh q
    have : j = 0 ∨ j = 1 ∨ j = 2 := by omega
    rcases this with rfl | rfl | rfl
    all_goals
      repeat' split
      all_goals omega
  · repeat' split
    all_goals omega
theorem em3 {a b c : Nat} (ha : a ≤ 1000) (hb : b ≤ 1000) (hc : c ≤ 1000) : (if (if enc c < enc b then enc c else enc b) < enc a then (if enc c < enc b then enc c else enc b) else enc a) = enc (m3 a b c) := by
  unfold m3
  by_cases q : c < b
  · rw [if_pos ((enc_lt hc hb).mpr q), if_pos q]
    by_cases q2 : c < a
    · rw [if_pos ((enc_lt hc ha).mpr q2), if_pos q2]
    · rw [if_neg (fun z => q2 ((enc_lt hc ha).mp z)), if_neg q2]
  · rw [if_neg (fun z => q ((enc_lt hc hb).mp z)), if_neg q]
    by_cases q2 : b < a
    · rw [if_pos ((enc_lt hb ha).mpr q2), if_pos q2]
    · rw [if_neg (fun z => q2 ((enc_lt hb ha).mp z)), if_neg q2]
/-- what the tables hold behind k rows -/
def WI (K : KV) (k : Nat) (ow : OV) : Prop := ow.1 0 = nI (10 ^ cn (K.1 2) 6) ∧ (∀ x, x < 10 → ow.2 1 x = nI (K.2 9 x)) ∧ (∀ j, j < 3 → ∀ a, a < 10 → ∀ x, x < 10 → ow.2 2 (((2 - j) * 10 + a) * 10 + x) = enc (tt K j a x)) ∧ (∀ j, j < 3 → ∀ r, r < k → ow.2 3 ((2 - j) * 1000 + r) = nI (sS K j r)) ∧ ∀ j, j < 3 → ∀ o, o < 100 → ow.2 4 ((2 - j) * 100 + o) = nI (gG K j o k)
theorem dv1 {r : Nat} (hr : r < 1000) : nI r / 100 = nI (dgt r 2) := by
  rw [show nI r / 100 = nI (r / 100) from pk_div (d := 100) (by omega) (by decide) (by decide)]
  unfold dgt
  rw [show r / 10 ^ 2 % 10 = r / 100 by omega]
theorem dv2 {r : Nat} (hr : r < 1000) : nI r / 10 - nI r / 10 / 10 * 10 = nI (dgt r 1) := by
  rw [show nI r / 10 = nI (r / 10) from pk_div (d := 10) (by omega) (by decide) (by decide)]
  exact pk_rem (a := r / 10) (d := 10) (by omega) (by decide) (by decide)
theorem dv3 {r : Nat} (hr : r < 1000) : nI r - nI r / 10 * 10 = nI (dgt r 0) := by
  rw [show nI r - nI r / 10 * 10 = nI (r % 10) from pk_rem (a := r) (d := 10) (by omega) (by decide) (by decide)]
  unfold dgt
  rw [Nat.pow_zero, Nat.div_one]
theorem ix_n (s a x : Nat) : fX3_pair (nI s) (nI a) 0 + nI x = nI ((s * 10 + a) * 10 + x) := by
  rw [show fX3_pair (nI s) (nI a) 0 = nI ((s * 10 + a) * 10 + 0) from pr_n s a 0, nI_add, Nat.add_zero]
theorem wr_L {K : KV} {ow : OV} (hK : kok K) (hn : cn (K.1 2) 6 ≤ 3) {k : Nat} (h : WI K k ow) {r : Nat} (hr : r < 1000) : ∀ x, x ≤ 10 → fX3_weighRow_L56 ow (nI r) 0 0 0 x = (nI (sh (Kr K r) (2 ^ pq (K.1 2) 0) x), nI (sh (Kr K r) (2 ^ pq (K.1 2) 1) x), nI (sh (Kr K r) (2 ^ pq (K.1 2) 2) x)) := by
  have hT := hK.1.2.2.1
  have hd : ∀ j, dgt r j < 10 := fun j => Nat.mod_lt _ (by decide)
  intro x
  induction x with
  | zero => exact fun _ => rfl
  | succ x ih =>
    intro hx
    have hx2 : x < 10 := by omega
    show fX3_weighRow_L56s ow (nI r) x (fX3_weighRow_L56 ow (nI r) 0 0 0 x).1 (fX3_weighRow_L56 ow (nI r) 0 0 0 x).2.1 (fX3_weighRow_L56 ow (nI r) 0 0 0 x).2.2 = (nI (sh (Kr K r) (2 ^ pq (K.1 2) 0) x + (if ru (Kr K r) x = 0 then 0 else K.2 9 x * (60 / cn (ru (Kr K r) x) 6) * cn (ru (Kr K r) x &&& 2 ^ pq (K.1 2) 0) 6)), nI (sh (Kr K r) (2 ^ pq (K.1 2) 1) x + (if ru (Kr K r) x = 0 then 0 else K.2 9 x * (60 / cn (ru (Kr K r) x) 6) * cn (ru (Kr K r) x &&& 2 ^ pq (K.1 2) 1) 6)), nI (sh (Kr K r) (2 ^ pq (K.1 2) 2) x + (if ru (Kr K r) x = 0 then 0 else K.2 9 x * (60 / cn (ru (Kr K r) x) 6) * cn (ru (Kr K r) x &&& 2 ^ pq (K.1 2) 2) 6)))
    rw [ih (by omega)]
    have hA : ow.2 2 (fX3_pair 0 (nI r / 100) 0 + nI x).toNatClampNeg = enc (tt K 2 (dgt r 2) x) := by
      rw [dv1 hr, show fX3_pair 0 (nI (dgt r 2)) 0 + nI x = nI ((0 * 10 + dgt r 2) * 10 + x) from ix_n 0 _ _, nI_clamp (by have := hd 2; omega)]
      exact h.2.2.1 2 (by decide) _ (hd 2) x hx2
    have hB : ow.2 2 (fX3_pair 1 ((nI r / 10) - (nI r / 10) / 10 * 10) 0 + nI x).toNatClampNeg = enc (tt K 1 (dgt r 1) x) := by
      rw [dv2 hr, show fX3_pair 1 (nI (dgt r 1)) 0 + nI x = nI ((1 * 10 + dgt r 1) * 10 + x) from ix_n 1 _ _, nI_clamp (by have := hd 1; omega)]
      exact h.2.2.1 1 (by decide) _ (hd 1) x hx2
    have hC : ow.2 2 (fX3_pair 2 (nI r - nI r / 10 * 10) 0 + nI x).toNatClampNeg = enc (tt K 0 (dgt r 0) x) := by
      rw [dv3 hr, show fX3_pair 2 (nI (dgt r 0)) 0 + nI x = nI ((2 * 10 + dgt r 0) * 10 + x) from ix_n 2 _ _, nI_clamp (by have := hd 0; omega)]
      exact h.2.2.1 0 (by decide) _ (hd 0) x hx2
    have l0 := (tt_le hK (j := 0) (by decide) (hd 0) hx2).1
    have l1 := (tt_le hK (j := 1) (by decide) (hd 1) hx2).1
    have l2 := (tt_le hK (j := 2) (by decide) (hd 2) hx2).1
    have em := mn_q hK hn (r := r) hx2
    unfold fX3_weighRow_L56s fX3_weighRow_L56s_x3 fX3_weighRow_L56s_x3_x10 fX3_weighRow_L56s_x3_x10_x15 fX3_weighRow_L56s_x3_x10_x15_x18 fX3_weighRow_L56s_x3_x10_x15_x18_x21
    rw [hA, hB, hC, em3 l2 l1 l0, ← em, nI_clamp (by omega : x < 2 ^ 31), h.2.1 x hx2]
    have hm := mn_1000 (vo (Kr K r) (um (Kr K r)).testBit x) 6
    by_cases e : mn (vo (Kr K r) (um (Kr K r)).testBit x) 6 = 1000
    · have e0 : ru (Kr K r) x = 0 := (rl_0 _).mpr e
      rw [if_pos ((enc_mx hm).mpr e), if_pos e0, if_pos e0, if_pos e0, Nat.add_zero, Nat.add_zero, Nat.add_zero]
    · have e0 : ¬ ru (Kr K r) x = 0 := fun z => e ((rl_0 _).mp z)
      have hr6 := ru_lt (Kr K r) x
      have hb : ∀ j, j < 3 → ((ru (Kr K r) x).testBit (pq (K.1 2) j) = true ↔ tt K j (dgt r j) x = mn (vo (Kr K r) (um (Kr K r)).testBit x) 6) := by
        intro j hj
        have q6 := q_le _ hT j hj
        have ev := vo_q hK (r := r) (x := x) hj
        by_cases q : pq (K.1 2) j < 6
        · have et := rl_tb (vo (Kr K r) (um (Kr K r)).testBit x) (p := pq (K.1 2) j)
          rw [ev] at et
          show (rl (vo (Kr K r) (um (Kr K r)).testBit x)).testBit (pq (K.1 2) j) = true ↔ _
          rw [et, decide_eq_true_iff]
          exact ⟨fun z => z.2.1, fun z => ⟨q, z, by omega⟩⟩
        · have e6 : pq (K.1 2) j = 6 := by omega
          have e1 : vo (Kr K r) (um (Kr K r)).testBit x 6 = 1000 := if_neg (by rw [um_6 (kok_Kr hK r)]; decide)
          rw [e6] at ev ⊢
          rw [tb6 _ hr6, ← ev, e1]
          exact ⟨fun z => absurd z (by decide), fun z => absurd z.symm e⟩
      have hsub : ru (Kr K r) x &&& K.1 2 = ru (Kr K r) x := by
        refine Nat.eq_of_testBit_eq fun p => ?_
        rw [Nat.testBit_and]
        cases c : (ru (Kr K r) x).testBit p
        · rfl
        · have et := rl_tb (vo (Kr K r) (um (Kr K r)).testBit x) (p := p)
          have c2 : (rl (vo (Kr K r) (um (Kr K r)).testBit x)).testBit p = true := c
          rw [et, decide_eq_true_iff] at c2
          obtain ⟨hp, c3, c4⟩ := c2
          have hbu : (um K).testBit p = true := by
            cases c5 : (um K).testBit p
            · have e2 : vo (Kr K r) (um (Kr K r)).testBit x p = 1000 := if_neg (by
                show ¬ (um K).testBit p = true
                rw [c5]; decide)
              omega
            · rfl
          rw [um_tb K hp] at hbu
          cases c6 : (K.1 2).testBit p
          · rw [c6] at hbu; cases hbu
          · rfl
      have h3 := cn_three _ hT hn _ hr6 hsub
      have he : ∀ j, j < 3 → (if enc (tt K j (dgt r j) x) = enc (mn (vo (Kr K r) (um (Kr K r)).testBit x) 6) then (1 : Int32) else 0) = nI (if (ru (Kr K r) x).testBit (pq (K.1 2) j) = true then 1 else 0) := by
        intro j hj
        have lj := (tt_le hK hj (hd j) hx2).1
        by_cases q : tt K j (dgt r j) x = mn (vo (Kr K r) (um (Kr K r)).testBit x) 6
        · rw [if_pos ((enc_eq lj hm).mpr q), if_pos ((hb j hj).mpr q)]; rfl
        · rw [if_neg (fun z => q ((enc_eq lj hm).mp z)), if_neg (fun z => q ((hb j hj).mp z))]; rfl
      have c0 : cn (ru (Kr K r) x) 6 ≠ 0 := fun z => e0 ((cn_0 _ hr6).mp z)
      have c6 := cn_le (ru (Kr K r) x) 6
      have hw : ∀ j, j < 3 → ∀ X : Nat, nI X + (if enc (tt K j (dgt r j) x) = enc (mn (vo (Kr K r) (um (Kr K r)).testBit x) 6) then nI (K.2 9 x) * (60 / nI (cn (ru (Kr K r) x) 6)) else 0) = nI (X + (if ru (Kr K r) x = 0 then 0 else K.2 9 x * (60 / cn (ru (Kr K r) x) 6) * cn (ru (Kr K r) x &&& 2 ^ pq (K.1 2) j) 6)) := by
        intro j hj X
        have lj := (tt_le hK hj (hd j) hx2).1
        have q6 := q_le _ hT j hj
        rw [if_neg e0, cn_one _ hr6 _ (by omega), ← nI_add]
        by_cases q : tt K j (dgt r j) x = mn (vo (Kr K r) (um (Kr K r)).testBit x) 6
        · rw [if_pos ((enc_eq lj hm).mpr q), if_pos ((hb j hj).mpr q), Nat.mul_one, show (60 : Int32) / nI (cn (ru (Kr K r) x) 6) = nI (60 / cn (ru (Kr K r) x) 6) from pk_div (a := 60) (by decide) (by omega) (by omega), pk_mul]
        · rw [if_neg (fun z => q ((enc_eq lj hm).mp z)), if_neg (fun z => q ((hb j hj).mp z)), Nat.mul_zero]; rfl
      rw [if_neg (fun z => e ((enc_mx hm).mp z)), he 2 (by decide), he 1 (by decide), he 0 (by decide), nI_add, nI_add, ← h3, if_pos (show (1 : Int32) ≤ nI (cn (ru (Kr K r) x) 6) from nI_le (a := 1) (by omega) (by omega))]
      dsimp only
      rw [hw 0 (by decide), hw 1 (by decide), hw 2 (by decide)]
