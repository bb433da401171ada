/-! PURE 16: rests, the reference's side -/
/-- there-persons among 5, 4, .. (k of them) -/
def ct (T : Nat) : Nat → Nat
  | 0 => 0
  | k + 1 => ct T k + (if T.testBit (5 - k) then 1 else 0)
/-- places g laid -/
def kpl (K : KV) (g : Nat → Nat) : KV := (K.1, fun j => if j = 7 then g else K.2 j)
theorem kpl_7 (K : KV) (g : Nat → Nat) : (kpl K g).2 7 = g := rfl
theorem kok_kpl {K : KV} (h : kok K) {g : Nat → Nat} (hg : ∀ p, p < 6 → g p < 10) : kok (kpl K g) := by
  have ew : ∀ n, kw (kpl K g) n = kw K n := fun n => by
    induction n with
    | zero => rfl
    | succ n ih =>
      show kw (kpl K g) n + K.2 9 n = kw K n + K.2 9 n
      rw [ih]
  exact ⟨h.1, fun j hj => ⟨hg j hj, (h.2.1 j hj).2⟩, h.2.2.1, by rw [ew]; exact h.2.2.2⟩
theorem rM_kpl {K : KV} {om : OV} {g g' : Nat → Nat} (h : rM (kpl K g) om) (hg : ∀ p, p < 6 → g p = g' p) : rM (kpl K g') om := by
  refine ⟨h.1, fun j hj => ?_, h.2.2⟩
  have q := h.2.1 j hj
  refine ⟨q.1.trans ?_, q.2⟩
  show nI (g j) = nI (g' j)
  rw [hg j hj]
theorem kpl_self (K : KV) : kpl K (K.2 7) = K := Prod.ext rfl (funext fun j => by
  show (if j = 7 then K.2 7 else K.2 j) = K.2 j
  by_cases e : j = 7
  · rw [if_pos e, e]
  · rw [if_neg e])
theorem kua_kpl (K : KV) (g : Nat → Nat) (p a : Nat) : kua (kpl K g) 7 p a = kpl K (fun q => if q = p then a else g q) := Prod.ext rfl (funext fun j => by
  show (if j = 7 then (fun q => if q = p then a else (if j = 7 then g else K.2 j) q) else (if j = 7 then g else K.2 j)) = (if j = 7 then (fun q => if q = p then a else g q) else K.2 j)
  by_cases e : j = 7
  · rw [if_pos e, if_pos e, if_pos e]
  · rw [if_neg e, if_neg e, if_neg e])
def dgt (r j : Nat) : Nat := r / 10 ^ j % 10
/-- the places of row r, the first k persons from above laid -/
def lg (T r : Nat) (g : Nat → Nat) : Nat → Nat → Nat
  | 0 => g
  | k + 1 => if T.testBit (5 - k) then (fun q => if q = 5 - k then dgt r (ct T k) else lg T r g k q) else lg T r g k
theorem lay_L {K : KV} {om : OV} {g : Nat → Nat} (hK : kok K) (hg : ∀ p, p < 6 → g p < 10) (hM : rM (kpl K g) om) {r : Nat} (hr : r < 1000) : ∀ k, k ≤ 6 → (fX5_layPlaces_L4 (nI r) om k).1 = nI (r / 10 ^ ct (K.1 2) k) ∧ rM (kpl K (lg (K.1 2) r g k)) (fX5_layPlaces_L4 (nI r) om k).2 ∧ frm om (fX5_layPlaces_L4 (nI r) om k).2 ∧ (fX5_layPlaces_L4 (nI r) om k).2.2 19 = om.2 19 ∧ ∀ p, p < 6 → lg (K.1 2) r g k p < 10 := by
  intro k
  induction k with
  | zero =>
    intro _
    refine ⟨?_, hM, frm_rf om, rfl, hg⟩
    show nI r = nI (r / 10 ^ 0)
    rw [Nat.pow_zero, Nat.div_one]
  | succ k ih =>
    intro hk
    obtain ⟨i1, i2, i3, i4, i5⟩ := ih (by omega)
    have hk2 := kok_kpl hK i5
    show (fX5_layPlaces_L4s k (fX5_layPlaces_L4 (nI r) om k).1 (fX5_layPlaces_L4 (nI r) om k).2).1 = nI (r / 10 ^ (ct (K.1 2) k + (if (K.1 2).testBit (5 - k) then 1 else 0))) ∧ rM (kpl K (if (K.1 2).testBit (5 - k) then (fun q => if q = 5 - k then dgt r (ct (K.1 2) k) else lg (K.1 2) r g k q) else lg (K.1 2) r g k)) (fX5_layPlaces_L4s k (fX5_layPlaces_L4 (nI r) om k).1 (fX5_layPlaces_L4 (nI r) om k).2).2 ∧ frm om (fX5_layPlaces_L4s k (fX5_layPlaces_L4 (nI r) om k).1 (fX5_layPlaces_L4 (nI r) om k).2).2 ∧ (fX5_layPlaces_L4s k (fX5_layPlaces_L4 (nI r) om k).1 (fX5_layPlaces_L4 (nI r) om k).2).2.2 19 = om.2 19 ∧ ∀ p, p < 6 → (if (K.1 2).testBit (5 - k) then (fun q => if q = 5 - k then dgt r (ct (K.1 2) k) else lg (K.1 2) r g k q) else lg (K.1 2) r g k) p < 10
    generalize fX5_layPlaces_L4 (nI r) om k = z at i1 i2 i3 i4 ⊢
    obtain ⟨z1, z2⟩ := z
    dsimp only at i1 i2 i3 i4 ⊢
    subst i1
    unfold fX5_layPlaces_L4s
    have ed : dn 5 k = nI (5 - k) := dn_in (by omega)
    have hth := M_there hk2 i2 (p := 5 - k) (by omega)
    have hle : r / 10 ^ ct (K.1 2) k ≤ r := Nat.div_le_self _ _
    rw [ed, hth]
    have e2 : (kpl K (lg (K.1 2) r g k)).1 2 = K.1 2 := rfl
    rw [e2]
    by_cases t : (K.1 2).testBit (5 - k) = true
    · rw [if_pos t, if_neg (show ¬ (1 : Int32) = 0 by decide), if_pos t, if_pos t, nI_clamp (by omega)]
      have ediv : nI (r / 10 ^ ct (K.1 2) k) / 10 = nI (r / 10 ^ ct (K.1 2) k / 10) := pk_div (d := 10) (by omega) (by decide) (by decide)
      have erem : nI (r / 10 ^ ct (K.1 2) k) - nI (r / 10 ^ ct (K.1 2) k) / 10 * 10 = nI (r / 10 ^ ct (K.1 2) k % 10) := pk_rem (d := 10) (by omega) (by decide) (by decide)
      dsimp only
      rw [erem, ediv]
      have hd : r / 10 ^ ct (K.1 2) k % 10 < 10 := Nat.mod_lt _ (by decide)
      refine ⟨?_, ?_, frm_ua i3 (by decide) _, (ua_n (by decide)).trans i4, fun p hp => ?_⟩
      · rw [Nat.pow_succ, Nat.div_div_eq_div_mul]
      · have w := rM_pl i2 (5 - k) (r / 10 ^ ct (K.1 2) k % 10)
        rw [kua_kpl] at w
        exact w
      · by_cases e : p = 5 - k
        · rw [if_pos e]; exact hd
        · rw [if_neg e]; exact i5 p hp
    · rw [if_neg t, if_pos rfl, if_neg t, if_neg t]
      exact ⟨by rw [Nat.add_zero], i2, i3, i4, i5⟩
/-- the places of row r -/
def pl (T r : Nat) (g : Nat → Nat) (p : Nat) : Nat := if T.testBit p then dgt r (ct T (5 - p)) else g p
theorem lg_val (T r : Nat) (g : Nat → Nat) : ∀ k, k ≤ 6 → ∀ p, p < 6 → lg T r g k p = if 5 - p < k then pl T r g p else g p := by
  intro k
  induction k with
  | zero => intro _ p _; rw [if_neg (Nat.not_lt_zero _)]; rfl
  | succ k ih =>
    intro hk p hp
    have i := ih (by omega) p hp
    show (if T.testBit (5 - k) then (fun q => if q = 5 - k then dgt r (ct T k) else lg T r g k q) else lg T r g k) p = _
    by_cases e : p = 5 - k
    · have e2 : 5 - p = k := by omega
      rw [if_pos (show 5 - p < k + 1 by omega)]
      unfold pl
      rw [e2]
      by_cases t : T.testBit (5 - k) = true
      · rw [if_pos t, if_pos e, e, if_pos t]
      · rw [if_neg t, i, if_neg (show ¬ 5 - p < k by omega), e, if_neg t]
    · have e3 : (if T.testBit (5 - k) then (fun q => if q = 5 - k then dgt r (ct T k) else lg T r g k q) else lg T r g k) p = lg T r g k p := by
        by_cases t : T.testBit (5 - k) = true
        · rw [if_pos t, if_neg e]
        · rw [if_neg t]
      rw [e3, i]
      by_cases l : 5 - p < k
      · rw [if_pos l, if_pos (show 5 - p < k + 1 by omega)]
      · rw [if_neg l, if_neg (show ¬ 5 - p < k + 1 by omega)]
/-- the street of row r -/
def Kr (K : KV) (r : Nat) : KV := kpl K (pl (K.1 2) r (K.2 7))
theorem pl_lt {K : KV} (hK : kok K) (r : Nat) {p : Nat} (hp : p < 6) : pl (K.1 2) r (K.2 7) p < 10 := by
  unfold pl
  split
  · exact Nat.mod_lt _ (by decide)
  · exact (hK.2.1 p hp).1
theorem kok_Kr {K : KV} (hK : kok K) (r : Nat) : kok (Kr K r) := kok_kpl hK (fun _ hp => pl_lt hK r hp)
/-- what holds of the reference between rows -/
def rB (K : KV) (om0 om : OV) : Prop := ∃ g : Nat → Nat, (∀ p, p < 6 → g p < 10) ∧ (∀ p, p < 6 → (K.1 2).testBit p = false → g p = K.2 7 p) ∧ rM (kpl K g) om ∧ frm om0 om ∧ ∀ p, p < 6 → om.2 19 p = nI (K.2 7 p)
theorem M_lay {K : KV} {om0 om : OV} (hK : kok K) (hB : rB K om0 om) {r : Nat} (hr : r < 1000) : rM (Kr K r) (fX5_layPlaces om (nI r)) ∧ frm om0 (fX5_layPlaces om (nI r)) ∧ ∀ p, p < 6 → (fX5_layPlaces om (nI r)).2 19 p = nI (K.2 7 p) := by
  obtain ⟨g, h1, h2, h3, h4, h5⟩ := hB
  obtain ⟨-, i2, i3, i4, -⟩ := lay_L hK h1 h3 hr 6 (Nat.le_refl _)
  unfold fX5_layPlaces
  generalize fX5_layPlaces_L4 (nI r) om 6 = z at i2 i3 i4 ⊢
  refine ⟨rM_kpl i2 (fun p hp => ?_), ⟨i3.1.trans h4.1, i3.2.1.trans h4.2.1, i3.2.2.1.trans h4.2.2.1, i3.2.2.2.trans h4.2.2.2⟩, fun p hp => by rw [i4]; exact h5 p hp⟩
  rw [lg_val _ _ _ 6 (Nat.le_refl _) p hp, if_pos (by omega)]
  unfold pl
  by_cases t : (K.1 2).testBit p = true
  · rw [if_pos t, if_pos t]
  · rw [if_neg t, if_neg t]
    refine h2 p hp ?_
    cases e : (K.1 2).testBit p
    · rfl
    · exact absurd e t
theorem fs19L {p : Int32} {om : OV} : ∀ k, (fX5_findStand_L20 p om k).2 19 = om.2 19
  | 0 => rfl
  | k + 1 => by
    have := fs19L (p := p) (om := om) k
    show (fX5_findStand_L20s p k (fX5_findStand_L20 p om k)).2 19 = _
    exact (show (fX5_findStand_L20s p k (fX5_findStand_L20 p om k)).2 19 = (fX5_findStand_L20 p om k).2 19 from rfl).trans this
theorem fs19 (p : Int32) (om : OV) : (fX5_findStand om p).2 19 = om.2 19 := by
  unfold fX5_findStand
  rw [ua_n (by decide), fs19L]
  rfl
/-- nobody there would rather stand elsewhere -/
def atr (K : KV) (p : Nat) : Prop := (K.1 2).testBit p = true → (bst (fun a => shp K p a (K.2 8 p)) 10).1 ≤ nI (sh K (2 ^ p) 10)
theorem M_rest {K : KV} (hK : kok K) : ∀ n k om, k + n = 6 → rM K om → rM K (fX5_areAtRest_L2 n k om).2 ∧ frm om (fX5_areAtRest_L2 n k om).2 ∧ (fX5_areAtRest_L2 n k om).2.2 19 = om.2 19 ∧ ((fX5_areAtRest_L2 n k om).1 = 0 ↔ ¬ ∀ p, k ≤ p → p < 6 → atr K p) := by
  intro n
  induction n with
  | zero =>
    intro k om hk hM
    exact ⟨hM, frm_rf om, rfl, ⟨fun z => absurd (show (1 : Int32) = 0 from z) (by decide), fun z => absurd (fun p h1 h2 => by omega) z⟩⟩
  | succ n ih =>
    intro k om hk hM
    unfold fX5_areAtRest_L2
    rw [M_there hK hM (by omega)]
    by_cases t : (K.1 2).testBit k = true
    · rw [if_pos t, if_neg (show ¬ (1 : Int32) = 0 by decide)]
      obtain ⟨f1, f2, f3, -⟩ := M_find hK hM (p := k) (by omega)
      have es : fX5_sixtieths om (nI k) = nI (sh K (2 ^ k) 10) := M_share hK hM (m_prs (by omega)) 10 (Nat.le_refl _)
      have f19 := fs19 (nI k) om
      rw [es, f3]
      generalize fX5_findStand om (nI k) = z at f1 f2 f19 ⊢
      by_cases l : (bst (fun a => shp K k a (K.2 8 k)) 10).1 ≤ nI (sh K (2 ^ k) 10)
      · rw [if_pos l]
        obtain ⟨g1, g2, g3, g4⟩ := ih (k + 1) z (by omega) f1
        refine ⟨g1, ⟨g2.1.trans f2.1, g2.2.1.trans f2.2.1, g2.2.2.1.trans f2.2.2.1, g2.2.2.2.trans f2.2.2.2⟩, g3.trans f19, g4.trans ⟨fun w v => w (fun p h1 h2 => v p (by omega) h2), fun w v => w (fun p h1 h2 => ?_)⟩⟩
        by_cases e : p = k
        · subst e; exact fun _ => l
        · exact v p (by omega) h2
      · rw [if_neg l]
        exact ⟨f1, f2, f19, ⟨fun _ v => l (v k (Nat.le_refl _) (by omega) t), fun _ => rfl⟩⟩
    · rw [if_neg t, if_pos rfl]
      obtain ⟨g1, g2, g3, g4⟩ := ih (k + 1) om (by omega) hM
      refine ⟨g1, g2, g3, g4.trans ⟨fun w v => w (fun p h1 h2 => v p (by omega) h2), fun w v => w (fun p h1 h2 => ?_)⟩⟩
      by_cases e : p = k
      · subst e; exact fun z => absurd z t
      · exact v p (by omega) h2
