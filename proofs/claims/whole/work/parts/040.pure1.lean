/-! PURE 1: what class and reference both hold, as numbers; who opens first -/
/-- slots as in City: 0 spread, 1 shade, 2 there, 3 holes, 4 cotton, 5 tables, 6 sights; rows 7 places, 8 slows, 9 weights, 10 sights' hows, 11 their ofs -/
abbrev KV : Type := (Nat → Nat) × (Nat → Nat → Nat)
def kw (K : KV) : Nat → Nat
  | 0 => 0
  | n + 1 => kw K n + K.2 9 n
def kok (K : KV) : Prop := (K.1 0 ≤ 9 ∧ K.1 1 ≤ 9 ∧ K.1 2 < 64 ∧ K.1 3 < 64 ∧ K.1 4 < 64 ∧ K.1 5 < 1024 ∧ K.1 6 ≤ 6) ∧ (∀ j, j < 6 → K.2 7 j < 10 ∧ K.2 8 j < 10 ∧ K.2 10 j < 3 ∧ K.2 11 j < 64 ∧ (K.2 10 j ≠ 0 → K.2 11 j < 6)) ∧ (∀ j, j < 10 → K.2 9 j ≤ 9) ∧ 1 ≤ kw K 10
def rC (K : KV) (o : OV) : Prop := (∀ k, k < 7 → o.1 k = nI (K.1 k)) ∧ (∀ j, j < 6 → o.2 7 j = nI (K.2 7 j) ∧ o.2 8 j = nI (K.2 8 j) ∧ o.2 10 j = nI (K.2 10 j) ∧ o.2 11 j = nI (K.2 11 j)) ∧ ∀ j, j < 10 → o.2 9 j = nI (K.2 9 j)
def rM (K : KV) (o : OV) : Prop := (o.1 0 = nI (K.1 2) ∧ o.1 4 = nI (K.1 3) ∧ o.1 5 = nI (K.1 5) ∧ o.1 6 = nI (K.1 0) ∧ o.1 7 = nI (K.1 1) ∧ o.1 11 = nI (K.1 6)) ∧ (∀ j, j < 6 → o.2 1 j = nI (K.2 7 j) ∧ o.2 2 j = nI (K.2 8 j) ∧ o.2 3 j = nI (if (K.1 4).testBit j then 1 else 0) ∧ o.2 9 j = nI (K.2 10 j) ∧ o.2 10 j = nI (K.2 11 j)) ∧ ∀ j, j < 10 → o.2 8 j = nI (K.2 9 j)
-- bits
theorem um_sl : ∀ n, n < 32 → ((nI n &&& 31).toBitVec.smod 32).toNat = n := by decide +kernel
theorem shr1 {b k : Nat} (hb : b < 2 ^ 31) (hk : k < 32) : (nI b >>> (nI k &&& 31)) &&& 1 = if b.testBit k then (1 : Int32) else 0 := by
  rw [pk_shrN hb _ k (um_sl k hk), show nI (b / 2 ^ k) &&& 1 = nI (b / 2 ^ k % 2) from pk_andN (n := b / 2 ^ k) (m := 1) (Nat.lt_of_le_of_lt (Nat.div_le_self _ _) (by omega)) 1 (by decide), Nat.testBit_eq_decide_div_mod_eq]
  have h := Nat.mod_lt (b / 2 ^ k) (by decide : 0 < 2)
  generalize b / 2 ^ k % 2 = x at h
  have : x = 0 ∨ x = 1 := by omega
  rcases this with rfl | rfl <;> rfl
theorem hb_nI {b k : Nat} (hb : b < 2 ^ 31) (hk : k < 32) : fX4_hasBit (nI b) (nI k) = if b.testBit k then (1 : Int32) else 0 := by
  unfold fX4_hasBit
  rw [shr1 hb hk]
  by_cases h : b.testBit k = true
  · rw [if_pos h, if_pos rfl]
  · rw [if_neg h, if_neg (by decide)]
theorem hb_0 {b k : Nat} (hb : b < 2 ^ 31) (hk : k < 32) : fX4_hasBit (nI b) (nI k) = 0 ↔ b.testBit k = false := by
  rw [hb_nI hb hk]
  cases b.testBit k <;> decide
theorem tb63 (p : Nat) : (63 : Nat).testBit p = decide (p < 6) := Nat.testBit_two_pow_sub_one 6 p
theorem x63_lt {a : Nat} (h : a < 64) : 63 ^^^ a < 64 := Nat.xor_lt_two_pow (n := 6) (by decide) h
theorem not_and : ∀ a, a < 64 → ∀ b, b < 64 → (nI a &&& (nI b ^^^ (-1))) = nI (a &&& (63 ^^^ b)) := by decide +kernel
/-- who can open at all -/
def um (K : KV) : Nat := K.1 2 &&& (63 ^^^ K.1 3)
theorem and64 {a : Nat} (b : Nat) (h : a < 64) : a &&& b < 64 := Nat.lt_of_le_of_lt Nat.and_le_left h
theorem um_lt {K : KV} (hK : kok K) : um K < 64 := and64 _ hK.1.2.2.1
theorem um_tb (K : KV) {p : Nat} (hp : p < 6) : (um K).testBit p = ((K.1 2).testBit p && !(K.1 3).testBit p) := by
  unfold um
  rw [Nat.testBit_and, Nat.testBit_xor, tb63]
  simp [hp]
theorem C_umb {K : KV} {oc : OV} (hK : kok K) (hC : rC K oc) : fX0_umbrellas oc = nI (um K) := by
  unfold fX0_umbrellas
  rw [hC.1 2 (by decide), hC.1 3 (by decide)]
  exact not_and _ hK.1.2.2.1 _ hK.1.2.2.2.1
-- guards
theorem in_wi {x a b : Int32} {a' b' : Int64} (ha : a'.toInt = a.toInt) (hb : b'.toInt = b.toInt) : fX5_in x.toInt64 a' b' = fX4_within x a b := by
  unfold fX5_in fX4_within
  have e1 : (lg_cmp x.toInt64 a' < 0) = (x < a) := by
    rw [lg_cmp_lt, Int64.lt_iff_toInt_lt, Int32.lt_iff_toInt_lt, i64_eq, ha]
  have e2 : (0 < lg_cmp x.toInt64 b') = (b < x) := by
    rw [lg_cmp_gt, Int64.lt_iff_toInt_lt, Int32.lt_iff_toInt_lt, i64_eq, hb]
  simp only [e1, e2]
theorem ps_eq (x : Int32) : fX5_isPerson x = fX4_within x 0 5 := in_wi (by decide) (by decide)
theorem pl_eq (x : Int32) : fX5_isPlace x = fX4_isPlace x := in_wi (by decide) (by decide)
theorem th_eq {om oc : OV} (h : om.1 0 = oc.1 2) (x : Int32) : fX5_isThere om x = fX0_isThere oc x := by
  unfold fX5_isThere fX0_isThere fX4_hasBit
  rw [ps_eq, h]
  by_cases h1 : fX4_within x 0 5 = 0
  · rw [if_pos h1, if_pos h1]
  · rw [if_neg h1, if_neg h1]
    by_cases h2 : ((oc.1 2) >>> (x &&& 31)) &&& 1 = 1
    · rw [if_pos h2, if_neg (by decide)]
    · rw [if_neg h2, if_pos rfl]
theorem wi_nI {v a b : Nat} (hv : v < 2 ^ 31) (ha : a < 2 ^ 31) (hb : b < 2 ^ 31) : fX4_within (nI v) (nI a) (nI b) = if a ≤ v ∧ v ≤ b then (1 : Int32) else 0 := by
  unfold fX4_within
  by_cases h1 : v < a
  · rw [if_pos ((nI_ltI hv ha).mpr h1), if_neg (by omega)]
  · rw [if_neg (fun z => h1 ((nI_ltI hv ha).mp z))]
    by_cases h2 : b < v
    · rw [if_pos ((nI_ltI hb hv).mpr h2), if_neg (by omega)]
    · rw [if_neg (fun z => h2 ((nI_ltI hb hv).mp z)), if_pos (by omega)]
-- when one opens
def ds (a r : Nat) : Nat := if a ≤ r then r - a else a - r
def tm (K : KV) (a s r : Nat) : Nat := ds a r * K.1 0 + (if (K.1 5).testBit a then K.1 1 else 0) + s
theorem ab_ds : ∀ a, a < 10 → ∀ r, r < 10 → (if 0 ≤ nI a - nI r then nI a - nI r else 0 - (nI a - nI r)) = nI (ds a r) := by decide +kernel
theorem ds_lt {a r : Nat} (ha : a < 10) (hr : r < 10) : ds a r ≤ 9 := by
  unfold ds
  split <;> omega
theorem tm_lt {K : KV} (hK : kok K) {a s r : Nat} (ha : a < 10) (hs : s < 10) (hr : r < 10) : tm K a s r < 100 := by
  unfold tm
  have h1 : ds a r * K.1 0 ≤ 9 * 9 := Nat.mul_le_mul (ds_lt ha hr) hK.1.1
  have h2 := hK.1.2.1
  split <;> omega
theorem C_time {K : KV} {oc : OV} (hK : kok K) (hC : rC K oc) {a s r : Nat} (ha : a < 10) (hs : s < 10) (hr : r < 10) : fX0_openTimeAt oc (nI a) (nI s) (nI r) = nI (tm K a s r) := by
  unfold fX0_openTimeAt tm
  have h5 := hK.1.2.2.2.2.2.1
  rw [ab_ds a ha r hr, hC.1 0 (by decide), hC.1 5 (by decide), hC.1 1 (by decide), hb_nI (by omega) (by omega), pk_mul]
  cases (K.1 5).testBit a
  · simp only [Bool.false_eq_true, if_false, if_true, Nat.add_zero]
    rw [Int32.add_zero, nI_add]
  · simp only [if_true]
    rw [if_neg (by decide), nI_add, nI_add]
/-- the second at which each of u opens; 1000: never -/
def vo (K : KV) (u : Nat → Bool) (r p : Nat) : Nat := if u p then tm K (K.2 7 p) (K.2 8 p) r else 1000
theorem vo_1000 {K : KV} (hK : kok K) {u : Nat → Bool} {r p : Nat} (hr : r < 10) (hp : p < 6) : vo K u r p = 1000 ↔ u p = false := by
  have h := hK.2.1 p hp
  unfold vo
  cases u p
  · simp
  · have := tm_lt hK h.1 h.2.1 hr
    simp
    omega
theorem vo_le {K : KV} (hK : kok K) {u : Nat → Bool} {r p : Nat} (hr : r < 10) (hp : p < 6) : vo K u r p ≤ 1000 := by
  have h := hK.2.1 p hp
  have := tm_lt hK h.1 h.2.1 hr
  unfold vo
  split <;> omega
def mn (v : Nat → Nat) : Nat → Nat
  | 0 => 1000
  | n + 1 => if mn v n ≤ v n then mn v n else v n
def bt (v : Nat → Nat) (m : Nat) : Nat → Nat
  | 0 => 0
  | n + 1 => if v n = m ∧ m < 1000 then bt v m n ||| 2 ^ n else bt v m n
/-- who opens first, as bits -/
def rl (v : Nat → Nat) : Nat := bt v (mn v 6) 6
theorem mn_cong {v w : Nat → Nat} : ∀ {n : Nat}, (∀ k, k < n → v k = w k) → mn v n = mn w n
  | 0, _ => rfl
  | n + 1, h => by
    show (if mn v n ≤ v n then mn v n else v n) = (if mn w n ≤ w n then mn w n else w n)
    rw [mn_cong (fun k hk => h k (by omega)), h n (by omega)]
theorem bt_cong {v w : Nat → Nat} {m : Nat} : ∀ {n : Nat}, (∀ k, k < n → v k = w k) → bt v m n = bt w m n
  | 0, _ => rfl
  | n + 1, h => by
    show (if v n = m ∧ m < 1000 then bt v m n ||| 2 ^ n else bt v m n) = (if w n = m ∧ m < 1000 then bt w m n ||| 2 ^ n else bt w m n)
    rw [bt_cong (fun k hk => h k (by omega)), h n (by omega)]
theorem rl_cong {v w : Nat → Nat} (h : ∀ k, k < 6 → v k = w k) : rl v = rl w := by
  unfold rl
  rw [mn_cong h, bt_cong h]
theorem mn_le (v : Nat → Nat) : ∀ {n k : Nat}, k < n → mn v n ≤ v k
  | n + 1, k, h => by
    show (if mn v n ≤ v n then mn v n else v n) ≤ v k
    rcases Nat.lt_or_ge k n with q | q
    · have := mn_le v q
      split <;> omega
    · obtain rfl : k = n := by omega
      split <;> omega
theorem mn_1000 (v : Nat → Nat) : ∀ n, mn v n ≤ 1000
  | 0 => Nat.le_refl _
  | n + 1 => by
    show (if mn v n ≤ v n then mn v n else v n) ≤ 1000
    have := mn_1000 v n
    split <;> omega
theorem mn_has (v : Nat → Nat) : ∀ {n : Nat}, mn v n < 1000 → ∃ k, k < n ∧ v k = mn v n
  | 0, h => absurd (show 1000 < 1000 from h) (by decide)
  | n + 1, h => by
    have e : mn v (n + 1) = (if mn v n ≤ v n then mn v n else v n) := rfl
    by_cases q : mn v n ≤ v n
    · rw [if_pos q] at e
      rw [e] at h
      obtain ⟨k, h1, h2⟩ := mn_has v h
      exact ⟨k, by omega, by rw [e]; exact h2⟩
    · rw [if_neg q] at e
      exact ⟨n, by omega, e.symm⟩
theorem bt_zero {v : Nat → Nat} {m : Nat} : ∀ {n : Nat}, (∀ k, k < n → v k ≠ m ∨ ¬ m < 1000) → bt v m n = 0
  | 0, _ => rfl
  | n + 1, h => by
    show (if v n = m ∧ m < 1000 then bt v m n ||| 2 ^ n else bt v m n) = 0
    rw [if_neg (by have := h n (by omega); omega)]
    exact bt_zero (fun k hk => h k (by omega))
theorem bt_lt (v : Nat → Nat) (m : Nat) : ∀ n, bt v m n < 2 ^ n
  | 0 => (show 0 < 1 by decide)
  | n + 1 => by
    show (if v n = m ∧ m < 1000 then bt v m n ||| 2 ^ n else bt v m n) < 2 ^ (n + 1)
    have h := bt_lt v m n
    have h2 : 2 ^ n < 2 ^ (n + 1) := Nat.pow_lt_pow_right (by decide) (Nat.lt_succ_self n)
    split
    · exact Nat.or_lt_two_pow (Nat.lt_trans h h2) h2
    · exact Nat.lt_trans h h2
theorem rl_lt (v : Nat → Nat) : rl v < 64 := bt_lt v _ 6
theorem bt_tb (v : Nat → Nat) (m : Nat) {p : Nat} : ∀ n, (bt v m n).testBit p = decide (p < n ∧ v p = m ∧ m < 1000)
  | 0 => by simp [bt]
  | n + 1 => by
    show (if v n = m ∧ m < 1000 then bt v m n ||| 2 ^ n else bt v m n).testBit p = _
    have ih := bt_tb v m (p := p) n
    by_cases h : v n = m ∧ m < 1000
    · rw [if_pos h, Nat.testBit_or, ih, Nat.testBit_two_pow]
      rcases Nat.lt_trichotomy p n with q | q | q
      · simp [q, Nat.ne_of_gt q, Nat.lt_succ_of_lt q]
      · subst q
        simp [h]
      · simp [Nat.not_lt.mpr (Nat.le_of_lt q), Nat.ne_of_lt q, show ¬ p < n + 1 by omega]
    · rw [if_neg h, ih]
      by_cases q : p = n
      · subst q
        simp [h]
      · have : p < n + 1 ↔ p < n := by omega
        simp [this]
theorem rl_tb (v : Nat → Nat) {p : Nat} : (rl v).testBit p = decide (p < 6 ∧ v p = mn v 6 ∧ mn v 6 < 1000) := bt_tb v _ 6
theorem rl_0 (v : Nat → Nat) : rl v = 0 ↔ mn v 6 = 1000 := by
  constructor
  · intro h
    rcases Nat.lt_or_ge (mn v 6) 1000 with q | q
    · obtain ⟨k, h1, h2⟩ := mn_has v q
      have h3 := rl_tb v (p := k)
      rw [h] at h3
      simp [h1, h2, q] at h3
    · have := mn_1000 v 6
      omega
  · intro h
    unfold rl
    rw [h]
    exact bt_zero (fun _ _ => Or.inr (by decide))
theorem or_pw {a k : Nat} (hk : k < 6) : nI a ||| (1 <<< (nI k &&& 31)) = nI (a ||| 2 ^ k) := by rw [pw6 k hk, fa_or]
-- the class: who of some opens first
theorem mx_lt {t : Nat} (h : t < 1000) : nI t < (1000 : Int32) := nI_lt (b := 1000) h (by decide)
theorem fo_step {K : KV} {oc : OV} (hK : kok K) (hC : rC K oc) {s r : Nat} (hs : s < 64) (hr : r < 10) : ∀ k, k ≤ 6 → fX0_firstOf_L10 oc (nI s) (nI r) 1000 0 k = (if mn (vo K s.testBit r) k = 1000 then (1000 : Int32) else nI (mn (vo K s.testBit r) k), nI (bt (vo K s.testBit r) (mn (vo K s.testBit r) k) k)) := by
  intro k
  induction k with
  | zero => exact fun _ => rfl
  | succ k ih =>
    intro hk
    have ih := ih (by omega)
    have hp := hK.2.1 k (by omega)
    have hCk := hC.2.1 k (by omega)
    show fX0_firstOf_L10s oc (nI s) (nI r) k (fX0_firstOf_L10 oc (nI s) (nI r) 1000 0 k).1 (fX0_firstOf_L10 oc (nI s) (nI r) 1000 0 k).2 = _
    rw [ih]
    dsimp only
    unfold fX0_firstOf_L10s fX0_firstOf_L10s_x8 fX0_firstOf_L10s_x8_x9
    rw [nI_clamp (by omega : k < 2 ^ 31), hCk.1, hCk.2.1, C_time hK hC hp.1 hp.2.1 hr, hb_nI (by omega) (by omega)]
    have ht := tm_lt hK hp.1 hp.2.1 hr (a := K.2 7 k) (s := K.2 8 k)
    have hv : vo K s.testBit r k = if s.testBit k then tm K (K.2 7 k) (K.2 8 k) r else 1000 := rfl
    have em : mn (vo K s.testBit r) (k + 1) = (if mn (vo K s.testBit r) k ≤ vo K s.testBit r k then mn (vo K s.testBit r) k else vo K s.testBit r k) := rfl
    have hm := mn_1000 (vo K s.testBit r) k
    have hle : ∀ j, j < k → mn (vo K s.testBit r) k ≤ vo K s.testBit r j := fun j hj => mn_le _ hj
    have eb : ∀ m, bt (vo K s.testBit r) m (k + 1) = if vo K s.testBit r k = m ∧ m < 1000 then bt (vo K s.testBit r) m k ||| 2 ^ k else bt (vo K s.testBit r) m k := fun _ => rfl
    by_cases hb : s.testBit k = true
    · rw [if_pos hb, if_neg (by decide : ¬ (1 : Int32) = 0)]
      rw [if_pos hb] at hv
      generalize hT : tm K (K.2 7 k) (K.2 8 k) r = t at hv ht ⊢
      generalize hM : mn (vo K s.testBit r) k = M at em hm hle ⊢
      rw [hv] at em
      rcases Nat.lt_trichotomy t M with q | q | q
      · rw [if_neg (by omega)] at em
        have hz : bt (vo K s.testBit r) t k = 0 := bt_zero (fun j hj => Or.inl (by have := hle j hj; omega))
        rw [em, eb, hv, if_pos (c := t = t ∧ t < 1000) ⟨rfl, by omega⟩, hz, Nat.zero_or, if_neg (by omega : ¬ t = 1000), ← pw6 k (by omega)]
        by_cases hM0 : M = 1000
        · rw [if_pos hM0, if_pos (mx_lt (by omega)), if_neg (fun z => absurd (mx_lt (t := t) (by omega)) (Int32.not_lt.mpr z))]
        · rw [if_neg hM0, if_pos (nI_lt q (by omega)), if_neg (fun z => absurd (nI_lt q (by omega)) (Int32.not_lt.mpr z))]
      · subst q
        rw [if_pos (by omega)] at em
        rw [em, eb, hv, if_pos (c := t = t ∧ t < 1000) ⟨rfl, by omega⟩, if_neg (by omega : ¬ t = 1000), if_pos (c := nI t ≤ nI t) (Int32.le_refl _), if_pos (c := nI t = nI t) rfl, or_pw (by omega), if_neg (c := nI t < nI t) (fun z => Int32.lt_irrefl z)]
      · have hM0 : ¬ M = 1000 := by omega
        rw [if_pos (by omega)] at em
        rw [em, eb, hv, if_neg (c := t = M ∧ M < 1000) (by omega), if_neg hM0, if_pos (c := nI M ≤ nI t) (nI_le (by omega) (by omega)), if_neg (c := nI t = nI M) (fun z => absurd ((nI_eq (by omega) (by omega)).mp z) (by omega)), if_neg (c := nI t < nI M) (fun z => absurd ((nI_ltI (by omega) (by omega)).mp z) (by omega))]
    · rw [if_neg hb, if_pos rfl]
      rw [if_neg hb] at hv
      rw [hv, if_pos hm] at em
      rw [em, eb, hv, if_neg (c := 1000 = mn (vo K s.testBit r) k ∧ mn (vo K s.testBit r) k < 1000) (by omega)]
theorem C_first {K : KV} {oc : OV} (hK : kok K) (hC : rC K oc) {s r : Nat} (hs : s < 64) (hr : r < 10) : fX0_firstOf oc (nI s) (nI r) = nI (rl (vo K s.testBit r)) := by
  unfold fX0_firstOf
  rw [fo_step hK hC hs hr 6 (Nat.le_refl _)]
  rfl
/-- who rules by rain over r -/
def ru (K : KV) (r : Nat) : Nat := rl (vo K (um K).testBit r)
theorem ru_lt (K : KV) (r : Nat) : ru K r < 64 := rl_lt _
theorem C_rulers {K : KV} {oc : OV} (hK : kok K) (hC : rC K oc) {r : Nat} (hr : r < 10) : fX0_rulers oc (nI r) = nI (ru K r) := by
  unfold fX0_rulers
  rw [C_umb hK hC]
  exact C_first hK hC (um_lt hK) hr
-- by a sprinkler
def clr (s k : Nat) : Nat := s &&& (63 ^^^ 2 ^ k)
theorem wb_0 : ∀ s, s < 64 → ∀ k, k < 6 → fX4_withBit (nI s) (nI k) 0 = nI (clr s k) := by decide +kernel
theorem clr_lt {s : Nat} (k : Nat) (h : s < 64) : clr s k < 64 := and64 _ h
theorem clr_tb (s k : Nat) {p : Nat} (hp : p < 6) : (clr s k).testBit p = (s.testBit p && decide (k ≠ p)) := by
  unfold clr
  rw [Nat.testBit_and, Nat.testBit_xor, tb63, Nat.testBit_two_pow]
  simp [hp]
theorem sp_wet {K : KV} {oc : OV} (hK : kok K) (hC : rC K oc) {s a : Nat} (hs : s < 64) (ha : a < 10) : ∀ k, k ≤ 6 → ∃ w : Nat, w < 64 ∧ fX0_sprinkled_L7 oc (nI a) (nI s) k = nI w ∧ ∀ p, p < 6 → w.testBit p = (s.testBit p && (decide (K.2 7 p = a) || decide (k ≤ p))) := by
  intro k
  induction k with
  | zero => exact fun _ => ⟨s, hs, rfl, fun p _ => by simp⟩
  | succ k ih =>
    intro hk
    obtain ⟨w, h1, h2, h3⟩ := ih (by omega)
    have hCk := hC.2.1 k (by omega)
    have hp := hK.2.1 k (by omega)
    show ∃ w : Nat, w < 64 ∧ fX0_sprinkled_L7s oc (nI a) k (fX0_sprinkled_L7 oc (nI a) (nI s) k) = nI w ∧ _
    rw [h2]
    unfold fX0_sprinkled_L7s
    rw [nI_clamp (by omega : k < 2 ^ 31), hCk.1]
    by_cases q : K.2 7 k = a
    · rw [q, if_pos rfl]
      refine ⟨w, h1, rfl, fun p hp => ?_⟩
      rw [h3 p hp]
      by_cases e : p = k
      · subst e; simp [q]
      · have : k ≤ p ↔ k + 1 ≤ p := by omega
        simp [this]
    · rw [if_neg (fun z => q ((nI_eq (by omega) (by omega)).mp z)), wb_0 w h1 k (by omega)]
      refine ⟨_, clr_lt k h1, rfl, fun p hp => ?_⟩
      rw [clr_tb w k hp, h3 p hp]
      by_cases e : p = k
      · subst e; simp [q]
      · have : k ≤ p ↔ k + 1 ≤ p := by omega
        simp [this, Ne.symm e]
/-- who of s opens first by a sprinkler over a -/
def sk (K : KV) (u : Nat → Bool) (a : Nat) : Nat := rl (vo K (fun p => u p && decide (K.2 7 p = a)) a)
theorem sk_lt (K : KV) (u : Nat → Bool) (a : Nat) : sk K u a < 64 := rl_lt _
theorem C_sprinkled {K : KV} {oc : OV} (hK : kok K) (hC : rC K oc) {a : Nat} (ha : a < 10) : fX0_sprinkled oc (nI a) = nI (sk K (um K).testBit a) := by
  unfold fX0_sprinkled
  obtain ⟨w, h1, h2, h3⟩ := sp_wet hK hC (um_lt hK) ha 6 (Nat.le_refl _)
  rw [C_umb hK hC, h2, C_first hK hC h1 ha]
  congr 1
  refine rl_cong (fun p hp => ?_)
  unfold vo
  rw [h3 p hp]
  have : ¬ 6 ≤ p := by omega
  simp [this]
-- the reference
theorem psn : ∀ p, p < 6 → ¬ fX4_within (nI p) 0 5 = 0 := by decide +kernel
theorem M_there {K : KV} {om : OV} (hK : kok K) (hM : rM K om) {p : Nat} (hp : p < 6) : fX5_isThere om (nI p) = if (K.1 2).testBit p then (1 : Int32) else 0 := by
  unfold fX5_isThere
  have h2 := hK.1.2.2.1
  rw [ps_eq, if_neg (psn p hp), hM.1.1, shr1 (by omega) (by omega)]
  cases (K.1 2).testBit p <;> rfl
theorem ds_M : ∀ a, a < 10 → ∀ r, r < 10 → (if nI a ≤ nI r then (nI r - nI a) else (nI a - nI r)) = nI (ds a r) := by decide +kernel
theorem M_opens {K : KV} {om : OV} (hK : kok K) (hM : rM K om) {p r : Nat} (hp : p < 6) (hr : r < 10) : fX5_opensAt om (nI p) (nI r) = nI (vo K (um K).testBit r p) := by
  have h2 := hK.1.2.2.1
  have h3 := hK.1.2.2.2.1
  have h5 := hK.1.2.2.2.2.2.1
  have hq := hK.2.1 p hp
  have hm := hM.2.1 p hp
  unfold fX5_opensAt vo
  rw [M_there hK hM hp, um_tb K hp, hM.1.2.1, shr1 (by omega) (by omega)]
  cases (K.1 2).testBit p
  · rfl
  · cases (K.1 3).testBit p
    · show fX5_opensAt_x5 om (nI p) _ = nI (tm K (K.2 7 p) (K.2 8 p) r)
      unfold fX5_opensAt_x5 tm
      rw [nI_clamp (by omega : p < 2 ^ 31), hm.1, hm.2.1, hM.1.2.2.1, hM.1.2.2.2.1, hM.1.2.2.2.2.1, ds_M _ hq.1 r hr, shr1 (by omega) (by omega), pk_mul, nI_add]
      cases (K.1 5).testBit (K.2 7 p)
      · show nI (K.1 0 * ds (K.2 7 p) r + K.2 8 p) + 0 = nI (ds (K.2 7 p) r * K.1 0 + 0 + K.2 8 p)
        rw [Int32.add_zero, Nat.mul_comm, Nat.add_zero]
      · show nI (K.1 0 * ds (K.2 7 p) r + K.2 8 p) + nI (K.1 1) = nI (ds (K.2 7 p) r * K.1 0 + K.1 1 + K.2 8 p)
        rw [nI_add, Nat.mul_comm]
        congr 1
        omega
    · rfl
theorem M_firstL {K : KV} {om : OV} (hK : kok K) (hM : rM K om) {r : Nat} (hr : r < 10) : ∀ k, k ≤ 6 → fX5_firstAt_L6 om (nI r) 1000 k = nI (mn (vo K (um K).testBit r) k) := by
  intro k
  induction k with
  | zero => exact fun _ => rfl
  | succ k ih =>
    intro hk
    show fX5_firstAt_L6s om (nI r) k (fX5_firstAt_L6 om (nI r) 1000 k) = nI (if mn (vo K (um K).testBit r) k ≤ vo K (um K).testBit r k then mn (vo K (um K).testBit r) k else vo K (um K).testBit r k)
    rw [ih (by omega)]
    unfold fX5_firstAt_L6s
    have h1 := mn_1000 (vo K (um K).testBit r) k
    have h2 := vo_le hK (u := (um K).testBit) hr (by omega : k < 6)
    rw [M_opens hK hM (by omega) hr]
    by_cases q : mn (vo K (um K).testBit r) k ≤ vo K (um K).testBit r k
    · rw [if_pos q, if_pos (nI_le q (by omega))]
    · rw [if_neg q, if_neg (fun z => q ((nI_leI (by omega) (by omega)).mp z))]
theorem M_first {K : KV} {om : OV} (hK : kok K) (hM : rM K om) {r : Nat} (hr : r < 10) : fX5_firstAt om (nI r) = nI (mn (vo K (um K).testBit r) 6) := M_firstL hK hM hr 6 (Nat.le_refl _)
theorem or_0 (a : Nat) : nI a ||| 0 = nI a := by rw [show (0 : Int32) = nI 0 from rfl, fa_or, Nat.or_zero]
theorem M_rulersL {K : KV} {om : OV} (hK : kok K) (hM : rM K om) {r : Nat} (hr : r < 10) (hm : mn (vo K (um K).testBit r) 6 < 1000) : ∀ n k, k + n = 6 → fX5_rulersBy_L11 om (nI r) n k (nI (bt (vo K (um K).testBit r) (mn (vo K (um K).testBit r) 6) k)) = nI (ru K r) := by
  intro n
  induction n with
  | zero =>
    intro k hk
    obtain rfl : k = 6 := by omega
    rfl
  | succ n ih =>
    intro k hk
    unfold fX5_rulersBy_L11
    rw [M_first hK hM hr, if_neg (c := (1000 : Int32) ≤ nI (mn (vo K (um K).testBit r) 6)) (fun z => absurd ((nI_leI (a := 1000) (by decide) (by omega)).mp z) (by omega))]
    rw [← ih (k + 1) (by omega)]
    show fX5_rulersBy_L11 om (nI r) n (k + 1) _ = _
    congr 1
    have h2 := vo_le hK (u := (um K).testBit) hr (by omega : k < 6)
    show _ = nI (if vo K (um K).testBit r k = mn (vo K (um K).testBit r) 6 ∧ mn (vo K (um K).testBit r) 6 < 1000 then bt (vo K (um K).testBit r) (mn (vo K (um K).testBit r) 6) k ||| 2 ^ k else bt (vo K (um K).testBit r) (mn (vo K (um K).testBit r) 6) k)
    rw [M_opens hK hM (by omega) hr]
    by_cases q : vo K (um K).testBit r k = mn (vo K (um K).testBit r) 6
    · have h5 : nI (vo K (um K).testBit r k) = nI (mn (vo K (um K).testBit r) 6) := by rw [q]
      rw [if_pos h5, if_pos (And.intro q hm), or_pw (by omega)]
    · have h5 : ¬ nI (vo K (um K).testBit r k) = nI (mn (vo K (um K).testBit r) 6) := fun z => q ((nI_eq (by omega) (by omega)).mp z)
      rw [if_neg h5, if_neg (fun z => q z.1), or_0]
theorem M_rulers {K : KV} {om : OV} (hK : kok K) (hM : rM K om) {r : Nat} (hr : r < 10) : fX5_rulersBy om (nI r) = nI (ru K r) := by
  unfold fX5_rulersBy
  have h1 := mn_1000 (vo K (um K).testBit r) 6
  by_cases hm : mn (vo K (um K).testBit r) 6 < 1000
  · exact M_rulersL hK hM hr hm 6 0 rfl
  · have h2 : mn (vo K (um K).testBit r) 6 = 1000 := by omega
    have h0 : ru K r = 0 := (rl_0 _).mpr h2
    rw [h0]
    unfold fX5_rulersBy_L11
    rw [M_first hK hM hr, h2, if_pos (by exact Int32.le_refl _)]
    rfl
/-- both: who rules by rain -/
theorem E_rulers {K : KV} {oc om : OV} (hK : kok K) (hC : rC K oc) (hM : rM K om) {r : Nat} (hr : r < 10) : fX5_rulersBy om (nI r) = fX0_rulers oc (nI r) := by rw [M_rulers hK hM hr, C_rulers hK hC hr]
