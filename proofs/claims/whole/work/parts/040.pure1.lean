/-! PURE 1: what class and reference both hold, as numbers; who opens first -/
/-- slots as in City: 0 spread, 1 shade, 2 there, 3 holes, 4 cotton, 5 tables, 6 sights; rows 7 places, 8 slows, 9 weights, 10 sights' hows, 11 their ofs -/
abbrev KV : Type := (Nat → Nat) × (Nat → Nat → Nat)
def kw (K : KV) : Nat → Nat
  | 0 => 0
  | n + 1 => kw K n + K.2 9 n
def kok (K : KV) : Prop := (K.1 0 ≤ 9 ∧ K.1 1 ≤ 9 ∧ K.1 2 < 64 ∧ K.1 3 < 64 ∧ K.1 4 < 64 ∧ K.1 5 < 1024 ∧ K.1 6 ≤ 6) ∧ (∀ j, j < 6 → K.2 7 j < 10 ∧ K.2 8 j < 10 ∧ K.2 10 j < 3 ∧ K.2 11 j < 64 ∧ (K.2 10 j ≠ 0 → K.2 11 j < 6)) ∧ (∀ j, j < 10 → K.2 9 j ≤ 9) ∧ 1 ≤ kw K 10
def rC (K : KV) (o : OV) : Prop := (∀ k, k < 7 → o.1 k = nI (K.1 k)) ∧ (∀ j, j < 6 → o.2 7 j = nI (K.2 7 j) ∧ o.2 8 j = nI (K.2 8 j) ∧ o.2 10 j = nI (K.2 10 j) ∧ o.2 11 j = nI (K.2 11 j)) ∧ ∀ j, j < 10 → o.2 9 j = nI (K.2 9 j)
def rM (K : KV) (o : OV) : Prop := (o.1 0 = nI (K.1 2) ∧ o.1 4 = nI (K.1 3) ∧ o.1 5 = nI (K.1 5) ∧ o.1 6 = nI (K.1 0) ∧ o.1 7 = nI (K.1 1) ∧ o.1 11 = nI (K.1 6)) ∧ (∀ j, j < 6 → o.2 1 j = nI (K.2 7 j) ∧ o.2 2 j = nI (K.2 8 j) ∧ o.2 3 j = nI (if (K.1 4).testBit j then 1 else 0) ∧ o.2 9 j = nI (K.2 10 j) ∧ o.2 10 j = nI (K.2 11 j)) ∧ ∀ j, j < 10 → o.2 8 j = nI (K.2 9 j)
-- bits
theorem um_sl : ∀ n, n < 32 → ((nI n &&& 31).toBitVec.smod 32).toNat = n := by decide +kernel
theorem shr1 {b k : Nat} (hb : b < 2 ^ 31) (hk : k < 32) : (nI b >>> (nI k &&& 31)) &&& 1 = if b.testBit k then (1 : Int32) else 0 := by
  rw [pk_shrN hb _ k (um_sl k hk), show nI (b / 2 ^ k) &&& 1 = nI (b / 2 ^ k % 2) from pk_andN (n := b / 2 ^ k) (m := 1) (Nat.lt_of_le_of_lt (Nat.div_le_self _ _) (by omega)) 1 (by decide), Nat.testBit_eq_decide_div_mod_eq]
  have h := Nat.mod_lt (b / 2 ^ k) (by decide : 0 < 2)
  generalize b / 2 ^ k % 2 = x at h
  have : x = 0 ∨ x = 1 := by omega
  rcases this with rfl | rfl <;> rfl
theorem hb_nI {b k : Nat} (hb : b < 2 ^ 31) (hk : k < 32) : fX4_hasBit (nI b) (nI k) = if b.testBit k then (1 : Int32) else 0 := by
  unfold fX4_hasBit
  rw [shr1 hb hk]
  by_cases h : b.testBit k = true
  · rw [if_pos h, if_pos rfl]
  · rw [if_neg h, if_neg (by decide)]
theorem hb_0 {b k : Nat} (hb : b < 2 ^ 31) (hk : k < 32) : fX4_hasBit (nI b) (nI k) = 0 ↔ b.testBit k = false := by
  rw [hb_nI hb hk]
  cases b.testBit k <;> decide
theorem tb63 (p : Nat) : (63 : Nat).testBit p = decide (p < 6) := Nat.testBit_two_pow_sub_one 6 p
theorem x63_lt {a : Nat} (h : a < 64) : 63 ^^^ a < 64 := Nat.xor_lt_two_pow (n := 6) (by decide) h
theorem not_and : ∀ a, a < 64 → ∀ b, b < 64 → (nI a &&& (nI b ^^^ (-1))) = nI (a &&& (63 ^^^ b)) := by decide +kernel
/-- who can open at all -/
def um (K : KV) : Nat := K.1 2 &&& (63 ^^^ K.1 3)
theorem and64 {a : Nat} (b : Nat) (h : a < 64) : a &&& b < 64 := Nat.lt_of_le_of_lt Nat.and_le_left h
theorem um_lt {K : KV} (hK : kok K) : um K < 64 := and64 _ hK.1.2.2.1
theorem um_tb (K : KV) {p : Nat} (hp : p < 6) : (um K).testBit p = ((K.1 2).testBit p && !(K.1 3).testBit p) := by
  unfold um
  rw [Nat.testBit_and, Nat.testBit_xor, tb63]
  simp [hp]
theorem C_umb {K : KV} {oc : OV} (hK : kok K) (hC : rC K oc) : fX0_umbrellas oc = nI (um K) := by
  unfold fX0_umbrellas
  rw [hC.1 2 (by decide), hC.1 3 (by decide)]
  exact not_and _ hK.1.2.2.1 _ hK.1.2.2.2.1
-- guards
theorem in_wi {x a b : Int32} {a' b' : Int64} (ha : a'.toInt = a.toInt) (hb : b'.toInt = b.toInt) : fX5_in x.toInt64 a' b' = fX4_within x a b := by
  unfold fX5_in fX4_within
  have e1 : (lg_cmp x.toInt64 a' < 0) = (x < a) := by
    rw [lg_cmp_lt, Int64.lt_iff_toInt_lt, Int32.lt_iff_toInt_lt, i64_eq, ha]
  have e2 : (0 < lg_cmp x.toInt64 b') = (b < x) := by
    rw [lg_cmp_gt, Int64.lt_iff_toInt_lt, Int32.lt_iff_toInt_lt, i64_eq, hb]
  simp only [e1, e2]
theorem ps_eq (x : Int32) : fX5_isPerson x = fX4_within x 0 5 := in_wi (by decide) (by decide)
theorem pl_eq (x : Int32) : fX5_isPlace x = fX4_isPlace x := in_wi (by decide) (by decide)
theorem th_eq {om oc : OV} (h : om.1 0 = oc.1 2) (x : Int32) : fX5_isThere om x = fX0_isThere oc x := by
  unfold fX5_isThere fX0_isThere fX4_hasBit
  rw [ps_eq, h]
  by_cases h1 : fX4_within x 0 5 = 0
  · rw [if_pos h1, if_pos h1]
  · rw [if_neg h1, if_neg h1]
    by_cases h2 : ((oc.1 2) >>> (x &&& 31)) &&& 1 = 1
    · rw [if_pos h2, if_pos h2, if_neg (by decide)]
    · rw [if_neg h2, if_neg h2, if_pos rfl]
theorem wi_nI {v a b : Nat} (hv : v < 2 ^ 31) (ha : a < 2 ^ 31) (hb : b < 2 ^ 31) : fX4_within (nI v) (nI a) (nI b) = if a ≤ v ∧ v ≤ b then (1 : Int32) else 0 := by
  unfold fX4_within
  by_cases h1 : v < a
  · rw [if_pos ((nI_ltI hv ha).mpr h1), if_neg (by omega)]
  · rw [if_neg (fun z => h1 ((nI_ltI hv ha).mp z))]
    by_cases h2 : b < v
    · rw [if_pos ((nI_ltI hb hv).mpr h2), if_neg (by omega)]
    · rw [if_neg (fun z => h2 ((nI_ltI hb hv).mp z)), if_pos (by omega)]
-- when one opens
def ds (a r : Nat) : Nat := if a ≤ r then r - a else a - r
def tm (K : KV) (a s r : Nat) : Nat := ds a r * K.1 0 + (if (K.1 5).testBit a then K.1 1 else 0) + s
theorem ab_ds : ∀ a, a < 10 → ∀ r, r < 10 → (if 0 ≤ nI a - nI r then nI a - nI r else 0 - (nI a - nI r)) = nI (ds a r) := by decide +kernel
theorem ds_lt {a r : Nat} (ha : a < 10) (hr : r < 10) : ds a r ≤ 9 := by
  unfold ds
  split <;> omega
theorem tm_lt {K : KV} (hK : kok K) {a s r : Nat} (ha : a < 10) (hs : s < 10) (hr : r < 10) : tm K a s r < 100 := by
  unfold tm
  have h1 : ds a r * K.1 0 ≤ 9 * 9 := Nat.mul_le_mul (ds_lt ha hr) hK.1.1
  have h2 := hK.1.2.1
  split <;> omega
theorem C_time {K : KV} {oc : OV} (hK : kok K) (hC : rC K oc) {a s r : Nat} (ha : a < 10) (hs : s < 10) (hr : r < 10) : fX0_openTimeAt oc (nI a) (nI s) (nI r) = nI (tm K a s r) := by
  unfold fX0_openTimeAt tm
  have h5 := hK.1.2.2.2.2.2.1
  rw [ab_ds a ha r hr, hC.1 0 (by decide), hC.1 5 (by decide), hC.1 1 (by decide), hb_nI (by omega) (by omega), pk_mul]
  cases (K.1 5).testBit a
  · simp only [Bool.false_eq_true, if_false, if_pos rfl, Nat.add_zero]
    rw [show nI (ds a r * K.1 0) + 0 = nI (ds a r * K.1 0) from Int32.add_zero _, nI_add]
  · simp only [if_true]
    rw [if_neg (by decide), nI_add, nI_add]
/-- the second at which each of u opens; 1000: never -/
def vo (K : KV) (u : Nat → Bool) (r p : Nat) : Nat := if u p then tm K (K.2 7 p) (K.2 8 p) r else 1000
theorem vo_1000 {K : KV} (hK : kok K) {u : Nat → Bool} {r p : Nat} (hr : r < 10) (hp : p < 6) : vo K u r p = 1000 ↔ u p = false := by
  have h := hK.2.1 p hp
  unfold vo
  cases u p
  · simp
  · have := tm_lt hK h.1 h.2.1 hr
    simp
    omega
theorem vo_le {K : KV} (hK : kok K) {u : Nat → Bool} {r p : Nat} (hr : r < 10) (hp : p < 6) : vo K u r p ≤ 1000 := by
  have h := hK.2.1 p hp
  have := tm_lt hK h.1 h.2.1 hr
  unfold vo
  split <;> omega
def mn (v : Nat → Nat) : Nat → Nat
  | 0 => 1000
  | n + 1 => if mn v n ≤ v n then mn v n else v n
def bt (v : Nat → Nat) (m : Nat) : Nat → Nat
  | 0 => 0
  | n + 1 => if v n = m ∧ m < 1000 then bt v m n ||| 2 ^ n else bt v m n
/-- who opens first, as bits -/
def rl (v : Nat → Nat) : Nat := bt v (mn v 6) 6
theorem mn_cong {v w : Nat → Nat} : ∀ {n : Nat}, (∀ k, k < n → v k = w k) → mn v n = mn w n
  | 0, _ => rfl
  | n + 1, h => by
    show (if mn v n ≤ v n then mn v n else v n) = (if mn w n ≤ w n then mn w n else w n)
    rw [mn_cong (fun k hk => h k (by omega)), h n (by omega)]
theorem bt_cong {v w : Nat → Nat} {m : Nat} : ∀ {n : Nat}, (∀ k, k < n → v k = w k) → bt v m n = bt w m n
  | 0, _ => rfl
  | n + 1, h => by
    show (if v n = m ∧ m < 1000 then bt v m n ||| 2 ^ n else bt v m n) = (if w n = m ∧ m < 1000 then bt w m n ||| 2 ^ n else bt w m n)
    rw [bt_cong (fun k hk => h k (by omega)), h n (by omega)]
theorem rl_cong {v w : Nat → Nat} (h : ∀ k, k < 6 → v k = w k) : rl v = rl w := by
  unfold rl
  rw [mn_cong h, bt_cong h]
theorem mn_le (v : Nat → Nat) : ∀ {n k : Nat}, k < n → mn v n ≤ v k
  | n + 1, k, h => by
    show (if mn v n ≤ v n then mn v n else v n) ≤ v k
    rcases Nat.lt_or_ge k n with q | q
    · have := mn_le v q
      split <;> omega
    · obtain rfl : k = n := by omega
      split <;> omega
theorem mn_1000 (v : Nat → Nat) : ∀ n, mn v n ≤ 1000
  | 0 => Nat.le_refl _
  | n + 1 => by
    show (if mn v n ≤ v n then mn v n else v n) ≤ 1000
    have := mn_1000 v n
    split <;> omega
theorem mn_has (v : Nat → Nat) : ∀ {n : Nat}, mn v n < 1000 → ∃ k, k < n ∧ v k = mn v n
  | 0, h => absurd h (by decide)
  | n + 1, h => by
    have e : mn v (n + 1) = (if mn v n ≤ v n then mn v n else v n) := rfl
    by_cases q : mn v n ≤ v n
    · rw [if_pos q] at e
      rw [e] at h
      obtain ⟨k, h1, h2⟩ := mn_has v h
      exact ⟨k, by omega, by rw [e]; exact h2⟩
    · rw [if_neg q] at e
      exact ⟨n, by omega, e.symm⟩
theorem bt_zero {v : Nat → Nat} {m : Nat} : ∀ {n : Nat}, (∀ k, k < n → v k ≠ m ∨ ¬ m < 1000) → bt v m n = 0
  | 0, _ => rfl
  | n + 1, h => by
    show (if v n = m ∧ m < 1000 then bt v m n ||| 2 ^ n else bt v m n) = 0
    rw [if_neg (by have := h n (by omega); omega)]
    exact bt_zero (fun k hk => h k (by omega))
theorem bt_lt (v : Nat → Nat) (m : Nat) : ∀ n, bt v m n < 2 ^ n
  | 0 => by decide
  | n + 1 => by
    show (if v n = m ∧ m < 1000 then bt v m n ||| 2 ^ n else bt v m n) < 2 ^ (n + 1)
    have h := bt_lt v m n
    have h2 : 2 ^ n < 2 ^ (n + 1) := Nat.pow_lt_pow_right (by decide) (Nat.lt_succ_self n)
    split
    · exact Nat.or_lt_two_pow (Nat.lt_trans h h2) h2
    · exact Nat.lt_trans h h2
theorem rl_lt (v : Nat → Nat) : rl v < 64 := bt_lt v _ 6
theorem bt_tb (v : Nat → Nat) (m : Nat) {p : Nat} : ∀ n, (bt v m n).testBit p = decide (p < n ∧ v p = m ∧ m < 1000)
  | 0 => by simp [bt]
  | n + 1 => by
    show (if v n = m ∧ m < 1000 then bt v m n ||| 2 ^ n else bt v m n).testBit p = _
    have ih := bt_tb v m (p := p) n
    by_cases h : v n = m ∧ m < 1000
    · rw [if_pos h, Nat.testBit_or, ih, Nat.testBit_two_pow]
      rcases Nat.lt_trichotomy p n with q | q | q
      · simp [q, Nat.ne_of_gt q, Nat.lt_succ_of_lt q]
      · subst q
        simp [h]
      · simp [Nat.not_lt.mpr (Nat.le_of_lt q), Nat.ne_of_lt q, show ¬ p < n + 1 by omega]
    · rw [if_neg h, ih]
      by_cases q : p = n
      · subst q
        simp [h]
      · have : p < n + 1 ↔ p < n := by omega
        simp [this]
theorem rl_tb (v : Nat → Nat) {p : Nat} : (rl v).testBit p = decide (p < 6 ∧ v p = mn v 6 ∧ mn v 6 < 1000) := bt_tb v _ 6
theorem rl_0 (v : Nat → Nat) : rl v = 0 ↔ mn v 6 = 1000 := by
  constructor
  · intro h
    rcases Nat.lt_or_ge (mn v 6) 1000 with q | q
    · obtain ⟨k, h1, h2⟩ := mn_has v q
      have h3 := rl_tb v (p := k)
      rw [h] at h3
      simp [h1, h2, q] at h3
    · have := mn_1000 v 6
      omega
  · intro h
    unfold rl
    rw [h]
    exact bt_zero (fun _ _ => Or.inr (by decide))
theorem or_pw {a k : Nat} (hk : k < 6) : nI a ||| (1 <<< (nI k &&& 31)) = nI (a ||| 2 ^ k) := by rw [pw6 k hk, fa_or]
