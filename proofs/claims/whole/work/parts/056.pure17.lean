/-! PURE 17: rests, the class's side: slots and times -/
/-- the person with j there-persons above it, among the first k persons; 6: none -/
def pqk (T j : Nat) : Nat → Nat
  | 0 => 6
  | k + 1 => if T.testBit k = true ∧ ct T (5 - k) = j then k else pqk T j k
def pq (T j : Nat) : Nat := pqk T j 6
theorem q_f1 : ∀ T, T < 64 → cn T 6 ≤ 3 → ∀ k, k < 6 → T.testBit (5 - k) = true → ct T k < 3 ∧ pq T (ct T k) = 5 - k := by decide +kernel
theorem q_f2b : ∀ T, T < 64 → ∀ k, k < 6 → ∀ j, j < 3 → (!(decide (cn T 6 ≤ 3) && T.testBit (5 - k) && decide (pq T j = 5 - k)) || decide (j = ct T k)) = true := by decide +kernel
theorem q_f2 (T : Nat) (hT : T < 64) (hn : cn T 6 ≤ 3) (k : Nat) (hk : k < 6) (t : T.testBit (5 - k) = true) (j : Nat) (hj : j < 3) (z : pq T j = 5 - k) : j = ct T k := by
  have h := q_f2b T hT k hk j hj
  rw [t, decide_eq_true hn, decide_eq_true z] at h
  exact of_decide_eq_true h
theorem q_f3 : ∀ T, T < 64 → cn T 6 ≤ 3 → ∀ k, k < 6 → T.testBit (5 - k) = false → ∀ j, j < 3 → pq T j ≠ 5 - k := by decide +kernel
theorem q_f4 : ∀ T, T < 64 → cn T 6 ≤ 3 → ∀ k, k < 6 → ct T k = 3 → ct T 6 = 3 := by decide +kernel
theorem q_f5 : ∀ T, T < 64 → cn T 6 ≤ 3 → ∀ k, k < 6 → ct T k = 3 → ∀ j, j < 3 → 6 ≤ pq T j + k := by decide +kernel
theorem q_f {T : Nat} (hT : T < 64) (hn : cn T 6 ≤ 3) {k : Nat} (hk : k < 6) : (T.testBit (5 - k) = true → ct T k < 3 ∧ pq T (ct T k) = 5 - k ∧ ∀ j, j < 3 → j ≠ ct T k → pq T j ≠ 5 - k) ∧ (T.testBit (5 - k) = false → ∀ j, j < 3 → pq T j ≠ 5 - k) ∧ (ct T k = 3 → ct T 6 = 3 ∧ ∀ j, j < 3 → 6 ≤ pq T j + k) :=
  ⟨fun t => ⟨(q_f1 T hT hn k hk t).1, (q_f1 T hT hn k hk t).2, fun j hj e z => e (q_f2 T hT hn k hk t j hj z)⟩, q_f3 T hT hn k hk, fun e => ⟨q_f4 T hT hn k hk e, q_f5 T hT hn k hk e⟩⟩
theorem q_le : ∀ T, T < 64 → ∀ j, j < 3 → pq T j ≤ 6 := by decide +kernel
theorem q_in : ∀ T, T < 64 → ∀ j, j < 3 → pq T j < 6 → T.testBit (pq T j) = true ∧ ct T (5 - pq T j) = j ∧ j < cn T 6 := by decide +kernel
theorem q_ct : ∀ T, T < 64 → ct T 6 = cn T 6 := by decide +kernel
theorem q_c3 : ∀ T, T < 64 → cn T 6 ≤ 3 → ∀ k, k < 7 → ct T k ≤ 3 := by decide +kernel
theorem cn_one : ∀ x, x < 64 → ∀ q, q < 7 → cn (x &&& 2 ^ q) 6 = if x.testBit q = true then 1 else 0 := by decide +kernel
theorem cn_three : ∀ T, T < 64 → cn T 6 ≤ 3 → ∀ x, x < 64 → x &&& T = x → cn x 6 = (if x.testBit (pq T 2) = true then 1 else 0) + (if x.testBit (pq T 1) = true then 1 else 0) + (if x.testBit (pq T 0) = true then 1 else 0) := by decide +kernel
theorem tb6 : ∀ x, x < 64 → x.testBit 6 = false := by decide +kernel
/-- when the person of digit j opens, standing at a; 1000: never, or none -/
def tt (K : KV) (j a x : Nat) : Nat := if (um K).testBit (pq (K.1 2) j) then tm K a (K.2 8 (pq (K.1 2) j)) x else 1000
def enc (t : Nat) : Int32 := if t = 1000 then 1000 else nI t
theorem enc_n {t : Nat} (h : t < 1000) : enc t = nI t := if_neg (by omega)
theorem enc_lt {a b : Nat} (ha : a ≤ 1000) (hb : b ≤ 1000) : enc a < enc b ↔ a < b := by
  unfold enc
  by_cases e1 : a = 1000
  · rw [if_pos e1]
    by_cases e2 : b = 1000
    · rw [if_pos e2]
      exact ⟨fun z => absurd z (Int32.lt_irrefl), fun z => by omega⟩
    · rw [if_neg e2]
      exact ⟨fun z => absurd (mx_lt (t := b) (by omega)) (Int32.not_lt.mpr (Int32.le_of_lt z)), fun z => by omega⟩
  · rw [if_neg e1]
    by_cases e2 : b = 1000
    · rw [if_pos e2]
      exact ⟨fun _ => by omega, fun _ => mx_lt (by omega)⟩
    · rw [if_neg e2]
      exact nI_ltI (by omega) (by omega)
theorem enc_eq {a b : Nat} (ha : a ≤ 1000) (hb : b ≤ 1000) : enc a = enc b ↔ a = b := by
  constructor
  · intro z
    rcases Nat.lt_trichotomy a b with q | q | q
    · have := (enc_lt ha hb).mpr q
      rw [z] at this
      exact absurd this (Int32.lt_irrefl)
    · exact q
    · have := (enc_lt hb ha).mpr q
      rw [z] at this
      exact absurd this (Int32.lt_irrefl)
  · intro z
    rw [z]
theorem enc_mx {a : Nat} (ha : a ≤ 1000) : enc a = 1000 ↔ a = 1000 := enc_eq ha (Nat.le_refl _)
theorem ua_at (o : OV) (k i : Nat) (v : Int32) (j q : Nat) : (ua o k i v).2 j q = if j = k ∧ q = i then v else o.2 j q := by
  by_cases e : j = k
  · subst e
    rw [ua_s]
    show (if q = i then v else o.2 j q) = _
    by_cases e2 : q = i
    · rw [if_pos e2, if_pos ⟨rfl, e2⟩]
    · rw [if_neg e2, if_neg (fun z => e2 z.2)]
  · rw [ua_n e, if_neg (fun z => e z.1)]
theorem pr_n (s a b : Nat) : fX3_pair (nI s) (nI a) (nI b) = nI ((s * 10 + a) * 10 + b) := by
  unfold fX3_pair
  rw [show (10 : Int32) = nI 10 from rfl, pk_mul, nI_add, pk_mul, nI_add]
theorem ft13 {K : KV} {oc : OV} (hK : kok K) (hC : rC K oc) {s a v : Nat} (hs : s < 3) (ha : a < 10) (hv : v < 10) (ow : OV) : ∀ k, k ≤ 10 → (fX3_fillTimes_L13 oc (nI v) (nI s) a ow k).1 = ow.1 ∧ ∀ j i, (fX3_fillTimes_L13 oc (nI v) (nI s) a ow k).2 j i = if j = 2 ∧ (s * 10 + a) * 10 ≤ i ∧ i < (s * 10 + a) * 10 + k then nI (tm K a v (i % 10)) else ow.2 j i := by
  intro k
  induction k with
  | zero => exact fun _ => ⟨rfl, fun j i => (if_neg (by omega)).symm⟩
  | succ k ih =>
    intro hk
    obtain ⟨i1, i2⟩ := ih (by omega)
    show (fX3_fillTimes_L13s oc (nI v) (nI s) a k (fX3_fillTimes_L13 oc (nI v) (nI s) a ow k)).1 = ow.1 ∧ ∀ j i, (fX3_fillTimes_L13s oc (nI v) (nI s) a k (fX3_fillTimes_L13 oc (nI v) (nI s) a ow k)).2 j i = _
    generalize fX3_fillTimes_L13 oc (nI v) (nI s) a ow k = z at i1 i2 ⊢
    unfold fX3_fillTimes_L13s
    rw [pr_n, nI_clamp (by omega), C_time hK hC ha hv (by omega)]
    refine ⟨i1, fun j i => ?_⟩
    rw [ua_at, i2]
    by_cases c1 : j = 2 ∧ i = (s * 10 + a) * 10 + k
    · rw [if_pos c1, if_pos (by omega), show i % 10 = k by omega]
    · rw [if_neg c1]
      by_cases c2 : j = 2 ∧ (s * 10 + a) * 10 ≤ i ∧ i < (s * 10 + a) * 10 + k
      · rw [if_pos c2, if_pos (by omega)]
      · rw [if_neg c2, if_neg (by omega)]
theorem ft3 {K : KV} {oc : OV} (hK : kok K) (hC : rC K oc) {s v : Nat} (hs : s < 3) (hv : v < 10) (ow : OV) : ∀ k, k ≤ 10 → (fX3_fillTimes_L3 oc (nI v) (nI s) ow k).1 = ow.1 ∧ ∀ j i, (fX3_fillTimes_L3 oc (nI v) (nI s) ow k).2 j i = if j = 2 ∧ s * 100 ≤ i ∧ i < s * 100 + k * 10 then nI (tm K (i / 10 % 10) v (i % 10)) else ow.2 j i := by
  intro k
  induction k with
  | zero => exact fun _ => ⟨rfl, fun j i => (if_neg (by omega)).symm⟩
  | succ k ih =>
    intro hk
    obtain ⟨i1, i2⟩ := ih (by omega)
    show (fX3_fillTimes_L3s oc (nI v) (nI s) k (fX3_fillTimes_L3 oc (nI v) (nI s) ow k)).1 = ow.1 ∧ ∀ j i, (fX3_fillTimes_L3s oc (nI v) (nI s) k (fX3_fillTimes_L3 oc (nI v) (nI s) ow k)).2 j i = _
    generalize fX3_fillTimes_L3 oc (nI v) (nI s) ow k = z at i1 i2 ⊢
    unfold fX3_fillTimes_L3s
    obtain ⟨w1, w2⟩ := ft13 hK hC hs (a := k) (by omega) hv z 10 (Nat.le_refl _)
    refine ⟨w1.trans i1, fun j i => ?_⟩
    rw [w2, i2]
    by_cases c1 : j = 2 ∧ (s * 10 + k) * 10 ≤ i ∧ i < (s * 10 + k) * 10 + 10
    · rw [if_pos c1, if_pos (by omega), show i / 10 % 10 = k by omega]
    · rw [if_neg c1]
      by_cases c2 : j = 2 ∧ s * 100 ≤ i ∧ i < s * 100 + k * 10
      · rw [if_pos c2, if_pos (by omega)]
      · rw [if_neg c2, if_neg (by omega)]
theorem C_there {K : KV} {oc : OV} (hK : kok K) (hC : rC K oc) {p : Nat} (hp : p < 6) : fX0_isThere oc (nI p) = if (K.1 2).testBit p then (1 : Int32) else 0 := by
  unfold fX0_isThere
  have h2 := hK.1.2.2.1
  rw [if_neg (psn p hp), hC.1 2 (by decide), hb_nI (by omega) (by omega)]
  cases (K.1 2).testBit p <;> rfl
/-- the slots laid for the first k persons from above -/
def SI (K : KV) (ow0 : OV) (k : Nat) (ow : OV) : Prop := ow.1 0 = nI (10 ^ ct (K.1 2) k) ∧ (∀ j, j < 3 → ∀ a, a < 10 → ∀ x, x < 10 → ow.2 2 (((2 - j) * 10 + a) * 10 + x) = enc (if 6 ≤ pq (K.1 2) j + k then tt K j a x else 1000)) ∧ ∀ i, i ≠ 2 → ow.2 i = ow0.2 i
theorem fs_L {K : KV} {oc : OV} (hK : kok K) (hC : rC K oc) (hn : cn (K.1 2) 6 ≤ 3) (ow0 : OV) : ∀ n k ow, k + n = 6 → SI K ow0 k ow → SI K ow0 6 (fX3_fillSlots_L19 oc n k (dn 2 (ct (K.1 2) k)) ow) := by
  intro n
  have hT := hK.1.2.2.1
  induction n with
  | zero =>
    intro k ow hk h
    obtain rfl : k = 6 := by omega
    exact h
  | succ n ih =>
    intro k ow hk h
    obtain ⟨f1, f2, f3⟩ := q_f hT hn (k := k) (by omega)
    have c3 := q_c3 _ hT hn k (by omega)
    unfold fX3_fillSlots_L19
    by_cases e3 : ct (K.1 2) k = 3
    · rw [e3, if_pos (show dn 2 3 < 0 by decide)]
      obtain ⟨g1, g2⟩ := f3 e3
      refine ⟨by rw [h.1, e3, g1], fun j hj a ha x hx => ?_, h.2.2⟩
      rw [h.2.1 j hj a ha x hx, if_pos (g2 j hj), if_pos (by omega)]
    · rw [if_neg (dn_nneg (by omega) (by decide)), show dn 5 k = nI (5 - k) from dn_in (by omega), C_there hK hC (by omega)]
      have q6 := q_le _ hT
      by_cases t : (K.1 2).testBit (5 - k) = true
      · have e1 : ct (K.1 2) (k + 1) = ct (K.1 2) k + 1 := by
          show ct (K.1 2) k + (if (K.1 2).testBit (5 - k) then 1 else 0) = _
          rw [if_pos t]
        obtain ⟨g1, g2, g3⟩ := f1 t
        have h3 := hK.1.2.2.2.1
        have hp := hK.2.1 (5 - k) (by omega)
        rw [if_pos t, if_neg (show ¬ (1 : Int32) = 0 by decide), hC.1 3 (by decide), hb_nI (by omega) (by omega), ← dn_succ (by omega), ← e1]
        have e10 : ∀ o : OV, o.1 0 = ow.1 0 → o.1 0 * 10 = nI (10 ^ ct (K.1 2) (k + 1)) := fun o ho => by
          rw [ho, h.1, e1, Nat.pow_succ, show (10 : Int32) = nI 10 from rfl, pk_mul]
        have hum := um_tb K (p := 5 - k) (by omega)
        rw [t] at hum
        by_cases b : (K.1 3).testBit (5 - k) = true
        · rw [if_pos b, if_neg (show ¬ (1 : Int32) = 0 by decide)]
          refine ih (k + 1) _ (by omega) ⟨?_, fun j hj a ha x hx => ?_, h.2.2⟩
          · exact (us_s _ _ _).trans (e10 ow rfl)
          · refine (h.2.1 j hj a ha x hx).trans (congrArg enc ?_)
            by_cases ej : j = ct (K.1 2) k
            · subst ej
              rw [if_neg (by omega), if_pos (by omega)]
              unfold tt
              rw [g2, hum, b]
              rfl
            · have := g3 j hj ej
              have := q6 j hj
              by_cases c : 6 ≤ pq (K.1 2) j + k
              · rw [if_pos c, if_pos (by omega)]
              · rw [if_neg c, if_neg (by omega)]
        · rw [if_neg b, if_pos rfl]
          have ed : dn 2 (ct (K.1 2) k) = nI (2 - ct (K.1 2) k) := dn_in (by omega)
          rw [ed, nI_clamp (by omega), (hC.2.1 (5 - k) (by omega)).2.1]
          obtain ⟨w1, w2⟩ := ft3 hK hC (s := 2 - ct (K.1 2) k) (by omega) hp.2.1 ow 10 (Nat.le_refl _)
          unfold fX3_fillTimes
          generalize fX3_fillTimes_L3 oc (nI (K.2 8 (5 - k))) (nI (2 - ct (K.1 2) k)) ow 10 = z at w1 w2 ⊢
          refine ih (k + 1) _ (by omega) ⟨?_, fun j hj a ha x hx => ?_, fun i hi => funext fun q => ?_⟩
          · exact (us_s _ _ _).trans (e10 z (by rw [w1]))
          · show z.2 2 _ = _
            rw [w2]
            by_cases ej : j = ct (K.1 2) k
            · have e5 : pq (K.1 2) j = 5 - k := by rw [ej]; exact g2
              rw [if_pos (by omega), if_pos (show 6 ≤ pq (K.1 2) j + (k + 1) by omega), show (((2 - j) * 10 + a) * 10 + x) / 10 % 10 = a by omega, show (((2 - j) * 10 + a) * 10 + x) % 10 = x by omega]
              unfold tt
              have b' : (K.1 3).testBit (5 - k) = false := by
                cases e : (K.1 3).testBit (5 - k)
                · rfl
                · exact absurd e b
              rw [ej, g2, hum, b']
              exact (enc_n (by have := tm_lt hK ha hp.2.1 hx; omega)).symm
            · rw [if_neg (by omega)]
              refine (h.2.1 j hj a ha x hx).trans (congrArg enc ?_)
              have := g3 j hj ej
              have := q6 j hj
              by_cases c : 6 ≤ pq (K.1 2) j + k
              · rw [if_pos c, if_pos (by omega)]
              · rw [if_neg c, if_neg (by omega)]
          · show z.2 i q = _
            rw [w2, if_neg (fun z => hi z.1), h.2.2 i hi]
      · have t' : (K.1 2).testBit (5 - k) = false := by
          cases e : (K.1 2).testBit (5 - k)
          · rfl
          · exact absurd e t
        have e1 : ct (K.1 2) (k + 1) = ct (K.1 2) k := by
          show ct (K.1 2) k + (if (K.1 2).testBit (5 - k) then 1 else 0) = _
          rw [if_neg t, Nat.add_zero]
        rw [if_neg t, if_pos rfl, ← e1]
        refine ih (k + 1) _ (by omega) ⟨by rw [e1]; exact h.1, fun j hj a ha x hx => ?_, h.2.2⟩
        rw [h.2.1 j hj a ha x hx]
        have := f2 t' j hj
        have := q6 j hj
        by_cases c : 6 ≤ pq (K.1 2) j + k
        · rw [if_pos c, if_pos (by omega)]
        · rw [if_neg c, if_neg (by omega)]
theorem um_6 {K : KV} (hK : kok K) : (um K).testBit 6 = false := tb6 _ (um_lt hK)
theorem C_slots {K : KV} {oc : OV} (hK : kok K) (hC : rC K oc) (hn : cn (K.1 2) 6 ≤ 3) (ow : OV) : (fX3_fillSlots ow oc).1 0 = nI (10 ^ cn (K.1 2) 6) ∧ (∀ j, j < 3 → ∀ a, a < 10 → ∀ x, x < 10 → (fX3_fillSlots ow oc).2 2 (((2 - j) * 10 + a) * 10 + x) = enc (tt K j a x)) ∧ ∀ i, i ≠ 2 → (fX3_fillSlots ow oc).2 i = ow.2 i := by
  have hT := hK.1.2.2.1
  have h0 : SI K ow 0 (us (ub ow 2 (fJ7_fill_53178 300 (ow.2 2) 1000)) 0 1) := by
    refine ⟨rfl, fun j hj a ha x hx => ?_, fun i hi => ub_n hi⟩
    show (fJ7_fill_53178 300 (ow.2 2) 1000) _ = _
    rw [fl_in (by decide) (by omega)]
    by_cases c : 6 ≤ pq (K.1 2) j + 0
    · have e : pq (K.1 2) j = 6 := by
        have := q_le _ hT j hj
        omega
      rw [if_pos c]
      unfold tt
      rw [e, um_6 hK]
      rfl
    · rw [if_neg c]
      rfl
  have h := fs_L hK hC hn ow 6 0 _ rfl h0
  rw [show dn 2 (ct (K.1 2) 0) = 2 from (show dn 2 0 = 2 by decide)] at h
  unfold fX3_fillSlots
  generalize fX3_fillSlots_L19 oc 6 0 2 (us (ub ow 2 (fJ7_fill_53178 300 (ow.2 2) 1000)) 0 1) = z at h ⊢
  exact ⟨h.1.trans (by rw [q_ct _ hT]), fun j hj a ha x hx => (h.2.1 j hj a ha x hx).trans (by rw [if_pos (by omega)]), h.2.2⟩
