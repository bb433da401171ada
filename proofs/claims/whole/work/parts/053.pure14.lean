/-! PURE 14: the images of the reference -/
def rw5 (m : Nat) : Nat := if m = 0 then 1 else if m = 1 then 2 else if m = 2 then 3 else if m = 3 then 9 else 10
def sc6 (t : Nat) : Nat := if t = 0 then 0 else if t = 1 then 4 else if t = 2 then 5 else if t = 3 then 6 else if t = 4 then 7 else 11
def fld (o : OV) (t : Nat) : Int32 := if t < 6 then o.1 (sc6 t) else if t < 36 then o.2 (rw5 ((t - 6) % 5)) ((t - 6) / 5) else o.2 8 (t - 36)
def stf (o : OV) (t : Nat) (v : Int32) : OV := if t < 6 then us o (sc6 t) v else if t < 36 then ua o (rw5 ((t - 6) % 5)) ((t - 6) / 5) v else ua o 8 (t - 36) v
theorem sc6_in : ∀ t, t < 6 → ∀ t', t' < 6 → sc6 t' = sc6 t → t' = t := by decide
theorem rw5_in : ∀ t, t < 5 → ∀ t', t' < 5 → rw5 t' = rw5 t → t' = t := by decide
theorem rw5_8 : ∀ t, t < 5 → rw5 t ≠ 8 ∧ rw5 t < 12 := by decide
theorem sc6_lt : ∀ t, t < 6 → sc6 t < 12 := by decide
theorem fld_stf (o : OV) (t t' : Nat) (v : Int32) : fld (stf o t v) t' = if t' = t then v else fld o t' := by
  have m1 := Nat.mod_lt (t - 6) (show 0 < 5 by decide)
  have m2 := Nat.mod_lt (t' - 6) (show 0 < 5 by decide)
  by_cases a : t < 6
  · have es : stf o t v = us o (sc6 t) v := if_pos a
    rw [es]
    unfold fld
    by_cases b : t' < 6
    · rw [if_pos b, if_pos b]
      by_cases e : t' = t
      · subst e; rw [us_s, if_pos rfl]
      · rw [us_n (fun z => e (sc6_in t a t' b z)), if_neg e]
    · rw [if_neg b, if_neg b, if_neg (show ¬ t' = t by omega), us_2]
  · by_cases a2 : t < 36
    · have es : stf o t v = ua o (rw5 ((t - 6) % 5)) ((t - 6) / 5) v := (if_neg a).trans (if_pos a2)
      rw [es]
      unfold fld
      by_cases b : t' < 6
      · rw [if_pos b, if_pos b, if_neg (show ¬ t' = t by omega), ua_1]
      · rw [if_neg b, if_neg b]
        by_cases b2 : t' < 36
        · rw [if_pos b2, if_pos b2]
          by_cases e : t' = t
          · subst e; rw [ua_rd, if_pos rfl, if_pos rfl]
          · rw [if_neg e]
            by_cases em : rw5 ((t' - 6) % 5) = rw5 ((t - 6) % 5)
            · have em2 := rw5_in _ m1 _ m2 em
              rw [em, ua_rd, if_neg (show ¬ (t' - 6) / 5 = (t - 6) / 5 by omega)]
            · rw [ua_n em]
        · rw [if_neg b2, if_neg b2, if_neg (show ¬ t' = t by omega), ua_n (fun z => (rw5_8 _ m1).1 z.symm)]
    · have es : stf o t v = ua o 8 (t - 36) v := (if_neg a).trans (if_neg a2)
      rw [es]
      unfold fld
      by_cases b : t' < 6
      · rw [if_pos b, if_pos b, if_neg (show ¬ t' = t by omega), ua_1]
      · rw [if_neg b, if_neg b]
        by_cases b2 : t' < 36
        · rw [if_pos b2, if_pos b2, if_neg (show ¬ t' = t by omega), ua_n (rw5_8 _ m2).1]
        · rw [if_neg b2, if_neg b2, ua_rd]
          by_cases e : t' = t
          · subst e; rw [if_pos rfl, if_pos rfl]
          · rw [if_neg e, if_neg (show ¬ t' - 36 = t - 36 by omega)]
theorem stf_1 (o : OV) (t : Nat) (v : Int32) {k : Nat} (hk : 11 < k) : (stf o t v).1 k = o.1 k := by
  unfold stf
  by_cases a : t < 6
  · have := sc6_lt t a
    rw [if_pos a, us_n (by omega)]
  · rw [if_neg a]
    by_cases a2 : t < 36
    · rw [if_pos a2]; rfl
    · rw [if_neg a2]; rfl
theorem stf_2 (o : OV) (t : Nat) (v : Int32) {j : Nat} (hj : 11 < j) : (stf o t v).2 j = o.2 j := by
  have m1 := rw5_8 _ (Nat.mod_lt (t - 6) (show 0 < 5 by decide))
  unfold stf
  by_cases a : t < 6
  · rw [if_pos a]; rfl
  · rw [if_neg a]
    by_cases a2 : t < 36
    · rw [if_pos a2, ua_n (by omega)]
    · rw [if_neg a2, ua_n (by omega)]
theorem fld_x (o : OV) (x : Nat) (v w : Int32) (t : Nat) : fld (us (ua o 20 x v) 22 w) t = fld o t := by
  have m1 := rw5_8 _ (Nat.mod_lt (t - 6) (show 0 < 5 by decide))
  unfold fld
  by_cases a : t < 6
  · have := sc6_lt t a
    rw [if_pos a, if_pos a, us_n (by omega), ua_1]
  · rw [if_neg a, if_neg a]
    by_cases a2 : t < 36
    · rw [if_pos a2, if_pos a2, us_2, ua_n (by omega)]
    · rw [if_neg a2, if_neg a2, us_2, ua_n (by decide)]
def st1 (o : OV) (t : Nat) : OV := stf (fX5_carry o (fld o t)).2 t (fX5_carry o (fld o t)).1
def stn (o : OV) : Nat → OV
  | 0 => o
  | n + 1 => st1 (stn o n) n
theorem fld5 (o : OV) {k m : Nat} (hk : k < 6) (hm : m < 5) : fld o (6 + 5 * k + m) = o.2 (rw5 m) k := by
  unfold fld
  rw [if_neg (show ¬ 6 + 5 * k + m < 6 by omega), if_pos (show 6 + 5 * k + m < 36 by omega), show (6 + 5 * k + m - 6) % 5 = m by omega, show (6 + 5 * k + m - 6) / 5 = k by omega]
theorem stf5 (o : OV) {k m : Nat} (v : Int32) (hk : k < 6) (hm : m < 5) : stf o (6 + 5 * k + m) v = ua o (rw5 m) k v := by
  unfold stf
  rw [if_neg (show ¬ 6 + 5 * k + m < 6 by omega), if_pos (show 6 + 5 * k + m < 36 by omega), show (6 + 5 * k + m - 6) % 5 = m by omega, show (6 + 5 * k + m - 6) / 5 = k by omega]
theorem st5 (o : OV) {k m : Nat} (hk : k < 6) (hm : m < 5) : st1 o (6 + 5 * k + m) = ua (fX5_carry o (o.2 (rw5 m) k)).2 (rw5 m) k (fX5_carry o (o.2 (rw5 m) k)).1 := by
  unfold st1
  rw [fld5 o hk hm, stf5 _ _ hk hm]
theorem pg_74 (o : OV) : ∀ k, k ≤ 6 → fX5_passAll_L74 (stn o 6) k = stn o (6 + 5 * k) := by
  intro k
  induction k with
  | zero => intro _; rfl
  | succ k ih =>
    intro hk
    show fX5_passAll_L74s k (fX5_passAll_L74 (stn o 6) k) = _
    rw [ih (by omega)]
    have e : stn o (6 + 5 * (k + 1)) = st1 (st1 (st1 (st1 (st1 (stn o (6 + 5 * k)) (6 + 5 * k + 0)) (6 + 5 * k + 1)) (6 + 5 * k + 2)) (6 + 5 * k + 3)) (6 + 5 * k + 4) := rfl
    rw [e]
    generalize stn o (6 + 5 * k) = z
    rw [st5 _ (by omega) (show 0 < 5 by decide), st5 _ (by omega) (show 1 < 5 by decide), st5 _ (by omega) (show 2 < 5 by decide), st5 _ (by omega) (show 3 < 5 by decide), st5 _ (by omega) (show 4 < 5 by decide)]
    unfold fX5_passAll_L74s fX5_passAll_L74s_c9 fX5_passAll_L74s_c9_c10 fX5_passAll_L74s_c9_c10_c11 fX5_passAll_L74s_c9_c10_c11_c12 fX5_passAll_L74s_c9_c10_c11_c12_c13
    rw [nI_clamp (by omega)]
    rfl
theorem fld8 (o : OV) (j : Nat) : fld o (36 + j) = o.2 8 j := by
  unfold fld
  rw [if_neg (show ¬ 36 + j < 6 by omega), if_neg (show ¬ 36 + j < 36 by omega), show 36 + j - 36 = j by omega]
theorem stf8 (o : OV) (j : Nat) (v : Int32) : stf o (36 + j) v = ua o 8 j v := by
  unfold stf
  rw [if_neg (show ¬ 36 + j < 6 by omega), if_neg (show ¬ 36 + j < 36 by omega), show 36 + j - 36 = j by omega]
theorem pg_168 (o : OV) : ∀ k, k ≤ 10 → fX5_passAll_L168 (stn o 36) k = stn o (36 + k) := by
  intro k
  induction k with
  | zero => intro _; rfl
  | succ k ih =>
    intro hk
    show fX5_passAll_L168s k (fX5_passAll_L168 (stn o 36) k) = st1 (stn o (36 + k)) (36 + k)
    rw [ih (by omega)]
    generalize stn o (36 + k) = z
    unfold fX5_passAll_L168s fX5_passAll_L168s_c17 st1
    rw [fld8, stf8, nI_clamp (by omega)]
theorem pg_all (o : OV) : fX5_passAll o = stn o 46 := by
  have e : fX5_passAll o = fX5_passAll_L168 (fX5_passAll_L74 (stn o 6) 6) 10 := rfl
  rw [e, pg_74 o 6 (Nat.le_refl _)]
  exact pg_168 o 10 (Nat.le_refl _)
-- the kept segment
def sK (t : Nat) : Nat := if t = 0 then 2 else if t = 1 then 3 else if t = 2 then 5 else if t = 3 then 0 else if t = 4 then 1 else 6
def sR (K : KV) (m k : Nat) : Nat := if m = 0 then K.2 7 k else if m = 1 then K.2 8 k else if m = 2 then (if (K.1 4).testBit k then 1 else 0) else if m = 3 then K.2 10 k else K.2 11 k
def seg (K : KV) (t : Nat) : Nat := if t < 6 then K.1 (sK t) else if t < 36 then sR K ((t - 6) % 5) ((t - 6) / 5) else K.2 9 (t - 36)
theorem seg5 (K : KV) {k m : Nat} (hk : k < 6) (hm : m < 5) : seg K (6 + 5 * k + m) = sR K m k := by
  unfold seg
  rw [if_neg (show ¬ 6 + 5 * k + m < 6 by omega), if_pos (show 6 + 5 * k + m < 36 by omega), show (6 + 5 * k + m - 6) % 5 = m by omega, show (6 + 5 * k + m - 6) / 5 = k by omega]
theorem seg8 (K : KV) (j : Nat) : seg K (36 + j) = K.2 9 j := by
  unfold seg
  rw [if_neg (show ¬ 36 + j < 6 by omega), if_neg (show ¬ 36 + j < 36 by omega), show 36 + j - 36 = j by omega]
theorem seg_rM {K : KV} {o : OV} (h : ∀ t, t < 46 → fld o t = nI (seg K t)) : rM K o := by
  refine ⟨⟨h 0 (by decide), h 1 (by decide), h 2 (by decide), h 3 (by decide), h 4 (by decide), h 5 (by decide)⟩, fun j hj => ?_, fun j hj => ?_⟩
  · have f : ∀ m, m < 5 → o.2 (rw5 m) j = nI (sR K m j) := fun m hm => by
      have := h (6 + 5 * j + m) (by omega)
      rwa [fld5 o hj hm, seg5 K hj hm] at this
    exact ⟨f 0 (by decide), f 1 (by decide), f 2 (by decide), f 3 (by decide), f 4 (by decide)⟩
  · have := h (36 + j) (by omega)
    rwa [fld8, seg8] at this
theorem rM_seg {K : KV} {o : OV} (h : rM K o) : ∀ t, t < 46 → fld o t = nI (seg K t) := by
  intro t ht
  by_cases a : t < 6
  · have : t = 0 ∨ t = 1 ∨ t = 2 ∨ t = 3 ∨ t = 4 ∨ t = 5 := by omega
    rcases this with rfl | rfl | rfl | rfl | rfl | rfl
    · exact h.1.1
    · exact h.1.2.1
    · exact h.1.2.2.1
    · exact h.1.2.2.2.1
    · exact h.1.2.2.2.2.1
    · exact h.1.2.2.2.2.2
  · by_cases a2 : t < 36
    · obtain ⟨k, m, hk, hm, rfl⟩ : ∃ k m, k < 6 ∧ m < 5 ∧ t = 6 + 5 * k + m := ⟨(t - 6) / 5, (t - 6) % 5, by omega, by omega, by omega⟩
      rw [fld5 o hk hm, seg5 K hk hm]
      have q := h.2.1 k hk
      have : m = 0 ∨ m = 1 ∨ m = 2 ∨ m = 3 ∨ m = 4 := by omega
      rcases this with rfl | rfl | rfl | rfl | rfl
      · exact q.1
      · exact q.2.1
      · exact q.2.2.1
      · exact q.2.2.2.1
      · exact q.2.2.2.2
    · obtain ⟨j, rfl⟩ : ∃ j, t = 36 + j := ⟨t - 36, by omega⟩
      rw [fld8, seg8]
      exact h.2.2 j (by omega)
theorem pg_inv {K : KV} {o : OV} {i : Nat} (hi : i < 2) (h22 : o.1 22 = nI (80 * i)) (hm : (o.1 23 = 0 ∧ ∀ t, t < 46 → o.2 20 (80 * i + t) = nI (seg K t)) ∨ (o.1 23 = 1 ∧ ∀ t, t < 46 → fld o t = nI (seg K t))) : ∀ n, n ≤ 46 → (stn o n).1 22 = nI (80 * i + n) ∧ (stn o n).1 23 = o.1 23 ∧ (∀ j, (stn o n).2 20 j = if 80 * i ≤ j ∧ j < 80 * i + n then nI (seg K (j - 80 * i)) else o.2 20 j) ∧ (stn o n).1 13 = o.1 13 ∧ (stn o n).2 12 = o.2 12 ∧ (stn o n).2 21 = o.2 21 ∧ ∀ t, fld (stn o n) t = if t < n then nI (seg K t) else fld o t := by
  intro n
  induction n with
  | zero => intro _; exact ⟨h22, rfl, fun j => (if_neg (by omega)).symm, rfl, rfl, rfl, fun t => (if_neg (Nat.not_lt_zero t)).symm⟩
  | succ n ih =>
    intro hn
    obtain ⟨i1, i2, i3, i4, i5, i6, i7⟩ := ih (by omega)
    show (st1 (stn o n) n).1 22 = _ ∧ (st1 (stn o n) n).1 23 = _ ∧ (∀ j, (st1 (stn o n) n).2 20 j = _) ∧ (st1 (stn o n) n).1 13 = _ ∧ (st1 (stn o n) n).2 12 = _ ∧ (st1 (stn o n) n).2 21 = _ ∧ ∀ t, fld (st1 (stn o n) n) t = _
    generalize stn o n = z at i1 i2 i3 i4 i5 i6 i7 ⊢
    have ev : (if (z.1 23) = 0 then ((z.2 20) (z.1 22).toNatClampNeg) else fld z n) = nI (seg K n) := by
      rw [i2]
      rcases hm with ⟨m0, m1⟩ | ⟨m0, m1⟩
      · rw [if_pos m0, i1, nI_clamp (by omega), i3, if_neg (by omega)]
        exact m1 n (by omega)
      · rw [m0, if_neg (show ¬ (1 : Int32) = 0 by decide), i7, if_neg (Nat.lt_irrefl n)]
        exact m1 n (by omega)
    unfold st1 fX5_carry
    dsimp only
    rw [ev, i1, nI_clamp (by omega), nI_1]
    refine ⟨?_, ?_, fun j => ?_, ?_, ?_, ?_, fun t => ?_⟩
    · rw [stf_1 _ _ _ (by decide), us_s]; rfl
    · rw [stf_1 _ _ _ (by decide), us_n (by decide), ua_1, i2]
    · rw [stf_2 _ _ _ (by decide), us_2, ua_rd, i3]
      by_cases e : j = 80 * i + n
      · rw [if_pos e, if_pos (show 80 * i ≤ j ∧ j < 80 * i + (n + 1) by omega), show j - 80 * i = n by omega]
      · rw [if_neg e]
        by_cases l : 80 * i ≤ j ∧ j < 80 * i + n
        · rw [if_pos l, if_pos (show 80 * i ≤ j ∧ j < 80 * i + (n + 1) by omega)]
        · rw [if_neg l, if_neg (show ¬ (80 * i ≤ j ∧ j < 80 * i + (n + 1)) by omega)]
    · rw [stf_1 _ _ _ (by decide), us_n (by decide), ua_1, i4]
    · rw [stf_2 _ _ _ (by decide), us_2, ua_n (by decide), i5]
    · rw [stf_2 _ _ _ (by decide), us_2, ua_n (by decide), i6]
    · rw [fld_stf, fld_x, i7]
      by_cases e : t = n
      · rw [if_pos e, if_pos (show t < n + 1 by omega), e]
      · rw [if_neg e]
        by_cases l : t < n
        · rw [if_pos l, if_pos (show t < n + 1 by omega)]
        · rw [if_neg l, if_neg (show ¬ t < n + 1 by omega)]
