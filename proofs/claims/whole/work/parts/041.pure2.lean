/-! PURE 2: sprinklers in the reference; how a change shows in both -/
theorem M_spv {K : KV} {om : OV} (hK : kok K) (hM : rM K om) {p a : Nat} (hp : p < 6) (ha : a < 10) : (if ((om.2 1) (nI p).toNatClampNeg) = (nI a) then (fX5_opensAt om (nI p) (nI a)) else 1000) = nI (vo K (fun p => (um K).testBit p && decide (K.2 7 p = a)) a p) := by
  have hm := hM.2.1 p hp
  have hq := hK.2.1 p hp
  rw [nI_clamp (by omega : p < 2 ^ 31), hm.1, M_opens hK hM hp ha]
  unfold vo
  by_cases q : K.2 7 p = a
  · rw [q, if_pos rfl]
    cases hc : (um K).testBit p <;> simp [hc, q]
  · rw [if_neg (fun z => q ((nI_eq (by omega) (by omega)).mp z))]
    have e : ((um K).testBit p && decide (K.2 7 p = a)) = false := by simp [q]
    exact (congrArg nI (if_neg (fun z => by have z2 := e.symm.trans z; cases z2))).symm
theorem M_sp6 {K : KV} {om : OV} (hK : kok K) (hM : rM K om) {a : Nat} (ha : a < 10) : ∀ k, k ≤ 6 → fX5_sprinkledBy_L6 om (nI a) 1000 k = nI (mn (vo K (fun p => (um K).testBit p && decide (K.2 7 p = a)) a) k) := by
  intro k
  induction k with
  | zero => exact fun _ => rfl
  | succ k ih =>
    intro hk
    show fX5_sprinkledBy_L6s om (nI a) k (fX5_sprinkledBy_L6 om (nI a) 1000 k) = _
    rw [ih (by omega)]
    unfold fX5_sprinkledBy_L6s fX5_sprinkledBy_L6s_x7
    rw [M_spv hK hM (by omega) ha]
    generalize hv : vo K (fun p => (um K).testBit p && decide (K.2 7 p = a)) a = v
    have h1 := mn_1000 v k
    have h2 : v k ≤ 1000 := by rw [← hv]; exact vo_le hK ha (by omega : k < 6)
    show _ = nI (if mn v k ≤ v k then mn v k else v k)
    by_cases q : mn v k ≤ v k
    · rw [if_pos q, if_pos (nI_le q (by omega))]
    · rw [if_neg q, if_neg (fun z => q ((nI_leI (by omega) (by omega)).mp z))]
theorem M_sp60 {K : KV} {om : OV} (hK : kok K) (hM : rM K om) {a : Nat} (ha : a < 10) (hm : mn (vo K (fun p => (um K).testBit p && decide (K.2 7 p = a)) a) 6 < 1000) : ∀ n k, k + n = 6 → fX5_sprinkledBy_L60 om (nI a) n k (nI (bt (vo K (fun p => (um K).testBit p && decide (K.2 7 p = a)) a) (mn (vo K (fun p => (um K).testBit p && decide (K.2 7 p = a)) a) 6) k)) = nI (sk K (um K).testBit a) := by
  intro n
  induction n with
  | zero =>
    intro k hk
    obtain rfl : k = 6 := by omega
    rfl
  | succ n ih =>
    intro k hk
    rw [← ih (k + 1) (by omega)]
    have e1 := M_sp6 hK hM ha 6 (Nat.le_refl _)
    have e2 := M_spv hK hM (by omega : k < 6) ha
    have e4 := M_opens hK hM (by omega : k < 6) ha
    have h2 := vo_le hK (u := fun p => (um K).testBit p && decide (K.2 7 p = a)) ha (by omega : k < 6)
    have hm1 := hM.2.1 k (by omega)
    have hq := hK.2.1 k (by omega)
    have e3 : vo K (fun p => (um K).testBit p && decide (K.2 7 p = a)) a k = if (um K).testBit k && decide (K.2 7 k = a) then tm K (K.2 7 k) (K.2 8 k) a else 1000 := rfl
    generalize hv : vo K (fun p => (um K).testBit p && decide (K.2 7 p = a)) a = v at *
    rw [show fX5_sprinkledBy_L60 om (nI a) (n + 1) k (nI (bt v (mn v 6) k)) = if 1000 ≤ (fX5_sprinkledBy_L6 om (nI a) 1000 (6)) then nI (bt v (mn v 6) k) else fX5_sprinkledBy_L60 om (nI a) n (k + 1) (nI (bt v (mn v 6) k) ||| (if ((om.2 1) (nI k).toNatClampNeg) = (nI a) then (if (fX5_opensAt om (nI k) (nI a)) = (fX5_sprinkledBy_L6 om (nI a) 1000 (6)) then (1 <<< ((nI k) &&& 31)) else 0) else 0)) from rfl]
    rw [e1, if_neg (c := (1000 : Int32) ≤ nI (mn v 6)) (fun z => absurd ((nI_leI (a := 1000) (by decide) (by omega)).mp z) (by omega))]
    refine congrArg (fX5_sprinkledBy_L60 om (nI a) n (k + 1)) ?_
    show _ = nI (if v k = mn v 6 ∧ mn v 6 < 1000 then bt v (mn v 6) k ||| 2 ^ k else bt v (mn v 6) k)
    rw [nI_clamp (by omega : k < 2 ^ 31), hm1.1, e4]
    by_cases q : K.2 7 k = a
    · rw [q, if_pos rfl]
      have e5 : v k = vo K (um K).testBit a k := by
        rw [e3]
        unfold vo
        simp [q]
      rw [← e5]
      by_cases q2 : v k = mn v 6
      · have h5 : nI (v k) = nI (mn v 6) := by rw [q2]
        rw [if_pos h5, if_pos (And.intro q2 hm), or_pw (by omega)]
      · have h5 : ¬ nI (v k) = nI (mn v 6) := fun z => q2 ((nI_eq (by omega) (by omega)).mp z)
        rw [if_neg h5, if_neg (fun z => q2 z.1), or_0]
    · have h5 : ¬ nI (K.2 7 k) = nI a := fun z => q ((nI_eq (by omega) (by omega)).mp z)
      have e5 : v k = 1000 := by rw [e3]; simp [q]
      rw [if_neg h5, if_neg (by omega : ¬ (v k = mn v 6 ∧ mn v 6 < 1000)), or_0]
theorem M_sprinkled {K : KV} {om : OV} (hK : kok K) (hM : rM K om) {a : Nat} (ha : a < 10) : fX5_sprinkledBy om (nI a) = nI (sk K (um K).testBit a) := by
  unfold fX5_sprinkledBy
  have h1 := mn_1000 (vo K (fun p => (um K).testBit p && decide (K.2 7 p = a)) a) 6
  by_cases hm : mn (vo K (fun p => (um K).testBit p && decide (K.2 7 p = a)) a) 6 < 1000
  · exact M_sp60 hK hM ha hm 6 0 rfl
  · have h2 : mn (vo K (fun p => (um K).testBit p && decide (K.2 7 p = a)) a) 6 = 1000 := by omega
    have h0 : sk K (um K).testBit a = 0 := (rl_0 _).mpr h2
    rw [h0]
    unfold fX5_sprinkledBy_L60
    rw [M_sp6 hK hM ha 6 (Nat.le_refl _), h2, if_pos (by exact Int32.le_refl _)]
    rfl
-- changes
def kus (K : KV) (k n : Nat) : KV := (fun j => if j = k then n else K.1 j, K.2)
def kua (K : KV) (a i n : Nat) : KV := (K.1, fun j => if j = a then (fun q => if q = i then n else K.2 j q) else K.2 j)
def RK (K : KV) (oc om : OV) : Prop := kok K ∧ rC K oc ∧ rM K om
/-- what a step leaves of the reference's pad and images -/
def frm (o o' : OV) : Prop := o'.1 13 = o.1 13 ∧ o'.2 12 = o.2 12 ∧ o'.2 20 = o.2 20 ∧ o'.2 21 = o.2 21
theorem frm_rf (o : OV) : frm o o := ⟨rfl, rfl, rfl, rfl⟩
theorem rC_us {K : KV} {oc : OV} (h : rC K oc) (k n : Nat) : rC (kus K k n) (us oc k (nI n)) := by
  refine ⟨fun j hj => ?_, h.2.1, h.2.2⟩
  show (if j = k then nI n else oc.1 j) = nI (if j = k then n else K.1 j)
  split
  · rfl
  · exact h.1 j hj
theorem ua_nI {o : OV} {K : KV} {a i n b q : Nat} (h : o.2 b q = nI (K.2 b q)) : (ua o a i (nI n)).2 b q = nI ((kua K a i n).2 b q) := by
  show (if b = a then upd (o.2 a) i (nI n) else o.2 b) q = nI ((if b = a then (fun q => if q = i then n else K.2 b q) else K.2 b) q)
  by_cases e : b = a
  · subst e
    rw [if_pos rfl, if_pos rfl]
    show (if q = i then nI n else o.2 b q) = nI (if q = i then n else K.2 b q)
    split
    · rfl
    · exact h
  · rw [if_neg e, if_neg e]
    exact h
theorem rC_ua {K : KV} {oc : OV} (h : rC K oc) (a i n : Nat) : rC (kua K a i n) (ua oc a i (nI n)) := ⟨h.1, fun j hj => ⟨ua_nI (h.2.1 j hj).1, ua_nI (h.2.1 j hj).2.1, ua_nI (h.2.1 j hj).2.2.1, ua_nI (h.2.1 j hj).2.2.2⟩, fun j hj => ua_nI (h.2.2 j hj)⟩
theorem rM_there {K : KV} {om : OV} (h : rM K om) (n : Nat) : rM (kus K 2 n) (us om 0 (nI n)) := ⟨⟨rfl, h.1.2.1, h.1.2.2.1, h.1.2.2.2.1, h.1.2.2.2.2.1, h.1.2.2.2.2.2⟩, h.2.1, h.2.2⟩
theorem rM_holes {K : KV} {om : OV} (h : rM K om) (n : Nat) : rM (kus K 3 n) (us om 4 (nI n)) := ⟨⟨h.1.1, rfl, h.1.2.2.1, h.1.2.2.2.1, h.1.2.2.2.2.1, h.1.2.2.2.2.2⟩, h.2.1, h.2.2⟩
theorem rM_tables {K : KV} {om : OV} (h : rM K om) (n : Nat) : rM (kus K 5 n) (us om 5 (nI n)) := ⟨⟨h.1.1, h.1.2.1, rfl, h.1.2.2.2.1, h.1.2.2.2.2.1, h.1.2.2.2.2.2⟩, h.2.1, h.2.2⟩
theorem rM_spread {K : KV} {om : OV} (h : rM K om) (n : Nat) : rM (kus K 0 n) (us om 6 (nI n)) := ⟨⟨h.1.1, h.1.2.1, h.1.2.2.1, rfl, h.1.2.2.2.2.1, h.1.2.2.2.2.2⟩, h.2.1, h.2.2⟩
theorem rM_shade {K : KV} {om : OV} (h : rM K om) (n : Nat) : rM (kus K 1 n) (us om 7 (nI n)) := ⟨⟨h.1.1, h.1.2.1, h.1.2.2.1, h.1.2.2.2.1, rfl, h.1.2.2.2.2.2⟩, h.2.1, h.2.2⟩
theorem rM_sights {K : KV} {om : OV} (h : rM K om) (n : Nat) : rM (kus K 6 n) (us om 11 (nI n)) := ⟨⟨h.1.1, h.1.2.1, h.1.2.2.1, h.1.2.2.2.1, h.1.2.2.2.2.1, rfl⟩, h.2.1, h.2.2⟩
/-- a row of the reference, at the place of a row of City -/
theorem ub_nI {o : OV} {K : KV} {a a' i n b b' q : Nat} (h : o.2 b' q = nI (K.2 b q)) (hab : b = a ↔ b' = a') : (ua o a' i (nI n)).2 b' q = nI ((kua K a i n).2 b q) := by
  show (if b' = a' then upd (o.2 a') i (nI n) else o.2 b') q = nI ((if b = a then (fun q => if q = i then n else K.2 b q) else K.2 b) q)
  by_cases e : b = a
  · have e' := hab.mp e
    subst e; subst e'
    rw [if_pos rfl, if_pos rfl]
    show (if q = i then nI n else o.2 b' q) = nI (if q = i then n else K.2 b q)
    split
    · rfl
    · exact h
  · rw [if_neg e, if_neg (fun z => e (hab.mpr z))]
    exact h
theorem rM_ua {K : KV} {om : OV} (h : rM K om) {a a' : Nat} (i n : Nat) (h1 : 7 = a ↔ 1 = a') (h2 : 8 = a ↔ 2 = a') (h3 : a' ≠ 3) (h9 : 9 = a ↔ 8 = a') (h10 : 10 = a ↔ 9 = a') (h11 : 11 = a ↔ 10 = a') : rM (kua K a i n) (ua om a' i (nI n)) := by
  refine ⟨h.1, fun j hj => ?_, fun j hj => ub_nI (h.2.2 j hj) h9⟩
  have q := h.2.1 j hj
  refine ⟨ub_nI q.1 h1, ub_nI q.2.1 h2, ?_, ub_nI q.2.2.2.1 h10, ub_nI q.2.2.2.2 h11⟩
  rw [ua_n (Ne.symm h3)]
  exact q.2.2.1
theorem rM_party {K : KV} {om : OV} (h : rM K om) {p n : Nat} {v : Int32} (hv : v = nI (if n.testBit p then 1 else 0)) (hn : ∀ j, j < 6 → j ≠ p → n.testBit j = (K.1 4).testBit j) : rM (kus K 4 n) (ua om 3 p v) := by
  refine ⟨h.1, fun j hj => ?_, h.2.2⟩
  have q := h.2.1 j hj
  refine ⟨q.1, q.2.1, ?_, q.2.2.2.1, q.2.2.2.2⟩
  show upd (om.2 3) p v j = nI (if n.testBit j then 1 else 0)
  by_cases e : j = p
  · subst e
    rw [show upd (om.2 3) j v j = v from if_pos rfl]
    exact hv
  · rw [show upd (om.2 3) p v j = om.2 3 j from if_neg e, hn j hj e]
    exact q.2.2.1
/-- a bit set, or not -/
def wbn (b p : Nat) (on : Int32) : Nat := if on = 0 then clr b p else b ||| 2 ^ p
theorem wb_nI {b p : Nat} (hb : b < 64) (hp : p < 6) (on : Int32) : fX4_withBit (nI b) (nI p) on = nI (wbn b p on) := by
  unfold wbn
  by_cases h : on = 0
  · rw [if_pos h, h]
    exact wb_0 b hb p hp
  · rw [if_neg h]
    unfold fX4_withBit
    rw [if_neg h]
    exact or_pw hp
theorem pw_lt {p : Nat} (hp : p < 6) : 2 ^ p < 64 := Nat.pow_lt_pow_right (by decide) hp
theorem wbn_lt {b p : Nat} (hb : b < 64) (hp : p < 6) (on : Int32) : wbn b p on < 64 := by
  unfold wbn
  split
  · exact clr_lt p hb
  · exact or64 hb (pw_lt hp)
theorem wbn_tb (b : Nat) {p j : Nat} (hj : j < 6) (on : Int32) : (wbn b p on).testBit j = if j = p then decide (¬ on = 0) else b.testBit j := by
  unfold wbn
  by_cases h : on = 0
  · rw [if_pos h, clr_tb b p hj]
    by_cases e : j = p
    · subst e; simp [h]
    · simp [e, Ne.symm e]
  · rw [if_neg h, Nat.testBit_or, Nat.testBit_two_pow]
    by_cases e : j = p
    · subst e; simp [h]
    · simp [e, Ne.symm e]
theorem bc_on : ∀ b, b < 64 → fJ6_bitCount_0f7a4 (nI b) = fX5_ones (nI b) := by decide +kernel
theorem wi2' {x : Int32} (h : ¬ fX4_within x 0 1 = 0) : vp_in x 2 := wi_in h (by decide)
