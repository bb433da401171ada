/-! PURE 22: rests: the reference's rows; the answer -/
theorem frm_tr {o o1 o2 : OV} (h1 : frm o o1) (h2 : frm o1 o2) : frm o o2 := ⟨h2.1.trans h1.1, h2.2.1.trans h1.2.1, h2.2.2.1.trans h1.2.2.1, h2.2.2.2.trans h1.2.2.2⟩
theorem M_rows {K : KV} {om0 om : OV} (hK : kok K) (hB : rB K om0 om) {N : Nat} (hN : N ≤ 1000) {d : Nat → Bool} (hd : ∀ r, r < N → (d r = true ↔ ∀ p, 0 ≤ p → p < 6 → atr (Kr K r) p)) (p0 : Int32) : ∀ k, k ≤ N → (fX5_rests_L62 p0 (-6) 0 om k).1 = tl d p0 k ∧ (fX5_rests_L62 p0 (-6) 0 om k).2.1 = nI (fb_ct d k) ∧ rB K om0 (fX5_rests_L62 p0 (-6) 0 om k).2.2 := by
  intro k
  induction k with
  | zero => exact fun _ => ⟨rfl, rfl, hB⟩
  | succ k ih =>
    intro hk
    obtain ⟨i1, i2, i3⟩ := ih (by omega)
    show (fX5_rests_L62s p0 k (fX5_rests_L62 p0 (-6) 0 om k).1 (fX5_rests_L62 p0 (-6) 0 om k).2.1 (fX5_rests_L62 p0 (-6) 0 om k).2.2).1 = (if d k = true then (if nI (fb_ct d k) = p0 then nI k else tl d p0 k) else tl d p0 k) ∧ (fX5_rests_L62s p0 k (fX5_rests_L62 p0 (-6) 0 om k).1 (fX5_rests_L62 p0 (-6) 0 om k).2.1 (fX5_rests_L62 p0 (-6) 0 om k).2.2).2.1 = nI (fb_ct d (k + 1)) ∧ rB K om0 (fX5_rests_L62s p0 k (fX5_rests_L62 p0 (-6) 0 om k).1 (fX5_rests_L62 p0 (-6) 0 om k).2.1 (fX5_rests_L62 p0 (-6) 0 om k).2.2).2.2
    generalize fX5_rests_L62 p0 (-6) 0 om k = z at i1 i2 i3 ⊢
    obtain ⟨l1, l2, l3⟩ := M_lay hK i3 (r := k) (by omega)
    obtain ⟨r1, r2, r3, r4⟩ := M_rest (kok_Kr hK k) 6 0 _ rfl l1
    unfold fX5_rests_L62s fX5_areAtRest
    rw [i1, i2]
    generalize fX5_areAtRest_L2 6 0 (fX5_layPlaces z.2.2 (nI k)) = y at r1 r2 r3 r4 ⊢
    have hb : rB K om0 y.2 := ⟨pl (K.1 2) k (K.2 7), fun p hp => pl_lt hK k hp, fun p hp t => by
      unfold pl
      rw [t, if_neg (by decide)], r1, frm_tr l2 r2, fun p hp => by rw [r3]; exact l3 p hp⟩
    have hdk := hd k (by omega)
    by_cases c : y.1 = 0
    · have t : ¬ d k = true := fun z => r4.mp c (hdk.mp z)
      rw [if_pos c, if_neg t, fb_ct_succ, if_neg t]
      exact ⟨rfl, rfl, hb⟩
    · have t : d k = true := hdk.mpr (by
        by_cases w : ∀ p, 0 ≤ p → p < 6 → atr (Kr K k) p
        · exact w
        · exact absurd (r4.mpr w) c)
      rw [if_neg c, if_pos t, fb_ct_succ, if_pos t]
      exact ⟨rfl, by rw [← nI_add]; rfl, hb⟩
theorem kp_L {om : OV} : ∀ k, k ≤ 6 → (fX5_keepPlaces_L2 om k).1 = om.1 ∧ ∀ j q, (fX5_keepPlaces_L2 om k).2 j q = if j = 19 ∧ q < k then om.2 1 q else om.2 j q := by
  intro k
  induction k with
  | zero => exact fun _ => ⟨rfl, fun j q => (if_neg (by omega)).symm⟩
  | succ k ih =>
    intro hk
    obtain ⟨i1, i2⟩ := ih (by omega)
    show (fX5_keepPlaces_L2s k (fX5_keepPlaces_L2 om k)).1 = om.1 ∧ ∀ j q, (fX5_keepPlaces_L2s k (fX5_keepPlaces_L2 om k)).2 j q = _
    generalize fX5_keepPlaces_L2 om k = z at i1 i2 ⊢
    unfold fX5_keepPlaces_L2s
    rw [nI_clamp (by omega)]
    refine ⟨i1, fun j q => ?_⟩
    rw [ua_at, i2, i2]
    by_cases c1 : j = 19 ∧ q = k
    · rw [if_pos c1, if_neg (show ¬ (1 = 19 ∧ k < k) by omega), if_pos (show j = 19 ∧ q < k + 1 by omega), c1.2]
    · rw [if_neg c1]
      by_cases c2 : j = 19 ∧ q < k
      · rw [if_pos c2, if_pos (by omega)]
      · rw [if_neg c2, if_neg (by omega)]
theorem M_keep {K : KV} {om : OV} (hK : kok K) (hM : rM K om) : rB K om (fX5_keepPlaces om) := by
  obtain ⟨h1, h2⟩ := kp_L (om := om) 6 (Nat.le_refl _)
  unfold fX5_keepPlaces
  generalize fX5_keepPlaces_L2 om 6 = z at h1 h2 ⊢
  have hz : ∀ j, j ≠ 19 → z.2 j = om.2 j := fun j hj => funext fun q => by rw [h2, if_neg (fun w => hj w.1)]
  refine ⟨K.2 7, fun p hp => (hK.2.1 p hp).1, fun _ _ _ => rfl, ?_, ?_, fun p hp => ?_⟩
  · rw [kpl_self]
    refine ⟨by rw [h1]; exact hM.1, fun j hj => ?_, fun j hj => ?_⟩
    · rw [hz 1 (by decide), hz 2 (by decide), hz 3 (by decide), hz 9 (by decide), hz 10 (by decide)]
      exact hM.2.1 j hj
    · rw [hz 8 (by decide)]
      exact hM.2.2 j hj
  · exact ⟨by rw [h1], hz _ (by decide), hz _ (by decide), hz _ (by decide)⟩
  · rw [h2, if_pos ⟨rfl, hp⟩]
    exact (hM.2.1 p hp).1
theorem pp_L {om : OV} : ∀ k, k ≤ 6 → (fX5_putPlaces_L2 om k).1 = om.1 ∧ ∀ j q, (fX5_putPlaces_L2 om k).2 j q = if j = 1 ∧ q < k then om.2 19 q else om.2 j q := by
  intro k
  induction k with
  | zero => exact fun _ => ⟨rfl, fun j q => (if_neg (by omega)).symm⟩
  | succ k ih =>
    intro hk
    obtain ⟨i1, i2⟩ := ih (by omega)
    show (fX5_putPlaces_L2s k (fX5_putPlaces_L2 om k)).1 = om.1 ∧ ∀ j q, (fX5_putPlaces_L2s k (fX5_putPlaces_L2 om k)).2 j q = _
    generalize fX5_putPlaces_L2 om k = z at i1 i2 ⊢
    unfold fX5_putPlaces_L2s
    rw [nI_clamp (by omega)]
    refine ⟨i1, fun j q => ?_⟩
    rw [ua_at, i2, i2]
    by_cases c1 : j = 1 ∧ q = k
    · rw [if_pos c1, if_neg (show ¬ (19 = 1 ∧ k < k) by omega), if_pos (show j = 1 ∧ q < k + 1 by omega), c1.2]
    · rw [if_neg c1]
      by_cases c2 : j = 1 ∧ q < k
      · rw [if_pos c2, if_pos (by omega)]
      · rw [if_neg c2, if_neg (by omega)]
theorem M_put {K : KV} {om0 om : OV} (hB : rB K om0 om) : rM K (fX5_putPlaces om) ∧ frm om0 (fX5_putPlaces om) := by
  obtain ⟨g, -, -, h3, h4, h5⟩ := hB
  obtain ⟨e1, e2⟩ := pp_L (om := om) 6 (Nat.le_refl _)
  unfold fX5_putPlaces
  generalize fX5_putPlaces_L2 om 6 = z at e1 e2 ⊢
  have hz : ∀ j, j ≠ 1 → z.2 j = om.2 j := fun j hj => funext fun q => by rw [e2, if_neg (fun w => hj w.1)]
  refine ⟨⟨by rw [e1]; exact h3.1, fun j hj => ?_, fun j hj => ?_⟩, frm_tr h4 ⟨by rw [e1], hz _ (by decide), hz _ (by decide), hz _ (by decide)⟩⟩
  · rw [e2 1 j, if_pos ⟨rfl, hj⟩, hz 2 (by decide), hz 3 (by decide), hz 9 (by decide), hz 10 (by decide)]
    exact ⟨h5 j hj, (h3.2.1 j hj).2⟩
  · rw [hz 8 (by decide)]
    exact h3.2.2 j hj
theorem rw_N {n : Nat} (hn : n ≤ 3) : (if nI n = 0 then (1 : Int32) else (if nI n = 1 then (10 : Int32) else (if nI n = 2 then (100 : Int32) else 1000))) = nI (10 ^ n) := by
  have : n = 0 ∨ n = 1 ∨ n = 2 ∨ n = 3 := by omega
  rcases this with rfl | rfl | rfl | rfl <;> decide
theorem op_rests {K : KV} {oc om : OV} (ow : OV) (h : RK K oc om) (p0 : Int32) : RK K oc (fX5_rests om p0).2 ∧ (fX4_rests oc ow p0).1 = (fX5_rests om p0).1 ∧ frm om (fX5_rests om p0).2 := by
  obtain ⟨hK, hC, hM⟩ := h
  have hT := hK.1.2.2.1
  unfold fX4_rests fX5_rests
  rw [hC.1 2 (by decide), hM.1.1, cn_bc _ hT, on_cn _ hT]
  have h6 := cn_le (K.1 2) 6
  by_cases c : cn (K.1 2) 6 ≤ 3
  · have c2 : nI (cn (K.1 2) 6) ≤ 3 := nI_le (b := 3) c (by decide)
    rw [if_pos c2, if_pos c2, rw_N c]
    have hw := rw_le c
    unfold fX5_rests_rows
    rw [nI_clamp (by omega)]
    have hW := C_weigh hK hC c ow
    generalize fX3_weigh ow oc = w at hW ⊢
    generalize hN : 10 ^ cn (K.1 2) 6 = N at hW hw ⊢
    have hd : ∀ r, r < N → ((decide (¬ fX3_isRest w (nI r) = 0)) = true ↔ ¬ fX3_isRest w (nI r) = 0) := fun r _ => decide_eq_true_iff
    have hd2 : ∀ r, r < N → ((decide (¬ fX3_isRest w (nI r) = 0)) = true ↔ ∀ p, 0 ≤ p → p < 6 → atr (Kr K r) p) := fun r hr => by
      subst hN
      exact decide_eq_true_iff.trans ((C_isRest hK hW c hr).trans (at_iff hK c hr))
    have m1 := C_many (ow := w) hw.2 (hW.1.trans (by rw [hN])) (d := fun r => decide (¬ fX3_isRest w (nI r) = 0)) hd 1000 0 rfl (Nat.zero_le _)
    have m2 := C_row (ow := w) hw.2 (hW.1.trans (by rw [hN])) (d := fun r => decide (¬ fX3_isRest w (nI r) = 0)) hd p0 1000 0 rfl (Nat.zero_le _) rfl
    rw [show nI (fb_ct (fun r => decide (¬ fX3_isRest w (nI r) = 0)) 0) = 0 from rfl] at m1 m2
    obtain ⟨t1, t2, t3⟩ := M_rows hK (M_keep hK hM) hw.2 (d := fun r => decide (¬ fX3_isRest w (nI r) = 0)) hd2 p0 N (Nat.le_refl _)
    generalize fX5_rests_L62 p0 (-6) 0 (fX5_keepPlaces om) N = z at t1 t2 t3 ⊢
    obtain ⟨u1, u2⟩ := M_put t3
    refine ⟨⟨hK, hC, u1⟩, ?_, u2⟩
    show (if p0 = (-1) then fX3_howMany_L4 w 1000 0 0 else fX3_row_L4 w p0 1000 0 0) = (if p0 = (-1) then z.2.1 else z.1)
    rw [t1, t2, ← m1, ← m2]
  · have c2 : ¬ nI (cn (K.1 2) 6) ≤ 3 := fun z => c ((nI_leI (b := 3) (by omega) (by decide)).mp z)
    rw [if_neg c2, if_neg c2]
    exact ⟨⟨hK, hC, hM⟩, rfl, frm_rf om⟩
