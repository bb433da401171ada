/-! PURE 4: spread and shade, the pad, sights, what is told, coups -/
theorem wi_N {x : Int32} {a b : Int32} {n m : Nat} (ha : a.toInt = n) (hb : b.toInt = m) (h : ¬ fX4_within x a b = 0) : ∃ v : Nat, n ≤ v ∧ v ≤ m ∧ x = nI v := by
  have h1 := wi_pos h
  obtain ⟨j, hj, rfl⟩ := nI_of (x := x) (by rw [Int32.lt_iff_toInt_lt]; have : (0 : Int32).toInt = 0 := by decide
                                            omega)
  rw [nI_toInt hj] at h1
  exact ⟨j, by omega, by omega, rfl⟩
theorem op_set {K : KV} {oc om : OV} (h : RK K oc om) (p0 p1 : Int32) : ∃ K', RK K' (fX4_set oc p0 p1).2 (fX5_set om p0 p1).2 ∧ (fX4_set oc p0 p1).1 = (fX5_set om p0 p1).1 ∧ frm om (fX5_set om p0 p1).2 := by
  obtain ⟨hK, hC, hM⟩ := h
  unfold fX4_set fX5_set
  rw [in_wi (x := p0) (a := 0) (b := 1) (by decide) (by decide)]
  have us_id : ∀ (o : OV) (k : Nat), us o k (o.1 k) = o := fun o k => Prod.ext (funext fun j => by
    show (if j = k then o.1 k else o.1 j) = o.1 j
    split
    · rename_i e; rw [e]
    · rfl) rfl
  by_cases e0 : p0 = 0
  · subst e0
    rw [if_pos rfl, if_neg (show ¬ fX4_within 0 0 1 = 0 by decide), if_pos rfl, if_pos rfl, if_pos rfl, if_neg (show ¬ (0 : Int32) = 1 by decide), if_neg (show ¬ (0 : Int32) = 1 by decide), in_wi (x := p1) (a := 1) (b := 9) (by decide) (by decide)]
    by_cases g1 : fX4_within p1 1 9 = 0
    · rw [if_pos g1, if_pos g1]; exact ⟨K, ⟨hK, hC, hM⟩, rfl, frm_rf om⟩
    · rw [if_neg g1, if_neg g1]
      obtain ⟨v, h1, h2, rfl⟩ := wi_N (n := 1) (m := 9) (by decide) (by decide) g1
      have e7 : us (us om 6 (nI v)) 7 (om.1 7) = us om 6 (nI v) := us_id (us om 6 (nI v)) 7
      rw [e7]
      exact ⟨kus K 0 v, ⟨kok_spread hK h2, rC_us hC 0 v, rM_spread hM v⟩, (hC.1 0 (by decide)).trans hM.1.2.2.2.1.symm, ⟨rfl, rfl, rfl, rfl⟩⟩
  · by_cases e1 : p0 = 1
    · subst e1
      rw [if_neg (show ¬ (1 : Int32) = 0 by decide), if_neg (show ¬ fX4_within 1 0 1 = 0 by decide), if_pos rfl, if_neg (show ¬ (1 : Int32) = 0 by decide), if_neg (show ¬ (1 : Int32) = 0 by decide), if_neg (show ¬ (1 : Int32) = 0 by decide), if_pos rfl, in_wi (x := p1) (a := 0) (b := 9) (by decide) (by decide)]
      by_cases g1 : fX4_within p1 0 9 = 0
      · rw [if_pos g1, if_pos g1]; exact ⟨K, ⟨hK, hC, hM⟩, rfl, frm_rf om⟩
      · rw [if_neg g1, if_neg g1]
        obtain ⟨v, h1, h2, rfl⟩ := wi_N (n := 0) (m := 9) (by decide) (by decide) g1
        rw [us_id om 6]
        exact ⟨kus K 1 v, ⟨kok_shade hK h2, rC_us hC 1 v, rM_shade hM v⟩, (hC.1 1 (by decide)).trans hM.1.2.2.2.2.1.symm, ⟨rfl, rfl, rfl, rfl⟩⟩
    · have g : fX4_within p0 0 1 = 0 := by
        by_cases g : fX4_within p0 0 1 = 0
        · exact g
        · obtain ⟨v, h1, h2, rfl⟩ := wi_N (n := 0) (m := 1) (by decide) (by decide) g
          have : v = 0 ∨ v = 1 := by omega
          rcases this with rfl | rfl
          · exact absurd rfl e0
          · exact absurd rfl e1
      rw [if_neg e0, if_neg e1, if_pos g]
      exact ⟨K, ⟨hK, hC, hM⟩, rfl, frm_rf om⟩
-- the pad
def rP (og om : OV) : Prop := ∃ c : Nat, c ≤ 40 ∧ og.1 1 = nI c ∧ om.1 13 = nI c ∧ ∀ j, j < 40 → om.2 12 j = og.2 0 j
theorem rP_frm {og om om' : OV} (h : rP og om) (hf : frm om om') : rP og om' := by
  obtain ⟨c, h1, h2, h3, h4⟩ := h
  exact ⟨c, h1, h2, hf.1.trans h3, fun j hj => by rw [hf.2.1]; exact h4 j hj⟩
theorem rP_G {og om : OV} (h : rP og om) : (og.1 1).toNatClampNeg ≤ 40 ∧ og.1 1 = nI (og.1 1).toNatClampNeg := by
  obtain ⟨c, h1, h2, -, -⟩ := h
  rw [h2, nI_clamp (by omega)]
  exact ⟨h1, rfl⟩
theorem rP_M {og om : OV} (h : rP og om) : (om.1 13).toNatClampNeg ≤ 40 ∧ om.1 13 = nI (om.1 13).toNatClampNeg := by
  obtain ⟨c, h1, -, h2, -⟩ := h
  rw [h2, nI_clamp (by omega)]
  exact ⟨h1, rfl⟩
/-- what a step leaves of the reference's street, sights and images, when the pad changes -/
def frp (o o' : OV) : Prop := (∀ k, k < 13 → o'.1 k = o.1 k) ∧ ∀ j, j ≠ 12 → o'.2 j = o.2 j
theorem rM_frp {K : KV} {om om' : OV} (h : rM K om) (hf : frp om om') : rM K om' := by
  refine ⟨⟨(hf.1 0 (by decide)).trans h.1.1, (hf.1 4 (by decide)).trans h.1.2.1, (hf.1 5 (by decide)).trans h.1.2.2.1, (hf.1 6 (by decide)).trans h.1.2.2.2.1, (hf.1 7 (by decide)).trans h.1.2.2.2.2.1, (hf.1 11 (by decide)).trans h.1.2.2.2.2.2⟩, fun j hj => ?_, fun j hj => by rw [hf.2 8 (by decide)]; exact h.2.2 j hj⟩
  have q := h.2.1 j hj
  rw [hf.2 1 (by decide), hf.2 2 (by decide), hf.2 3 (by decide), hf.2 9 (by decide), hf.2 10 (by decide)]
  exact q
theorem frp_rf (o : OV) : frp o o := ⟨fun _ _ => rfl, fun _ _ => rfl⟩
theorem op_say {og om : OV} (h : rP og om) (p0 : Int32) : rP (fX4_say og p0).2 (fX5_say om p0).2 ∧ (fX4_say og p0).1 = (fX5_say om p0).1 ∧ frp om (fX5_say om p0).2 := by
  unfold fX4_say fX5_say
  rw [in_wi (x := p0) (a := 33) (b := 126) (by decide) (by decide)]
  by_cases g0 : fX4_within p0 33 126 = 0
  · rw [if_pos g0, if_pos g0]; exact ⟨h, rfl, frp_rf om⟩
  rw [if_neg g0, if_neg g0]
  obtain ⟨c, h1, h2, h3, h4⟩ := id h
  have ew : fX4_within (og.1 1) 0 39 = if 0 ≤ c ∧ c ≤ 39 then (1 : Int32) else 0 := by rw [h2]; exact wi_nI (a := 0) (b := 39) (by omega) (by decide) (by decide)
  unfold fX2_write
  rw [h3]
  by_cases e : c = 40
  · subst e
    have ew0 : fX4_within (og.1 1) 0 39 = 0 := ew.trans (if_neg (by omega))
    rw [if_pos ew0, if_pos (show nI 40 = 40 from rfl)]
    exact ⟨h, rfl, frp_rf om⟩
  · have ew0 : ¬ fX4_within (og.1 1) 0 39 = 0 := by
      rw [ew, if_pos (by omega)]
      decide
    rw [if_neg ew0, if_neg (show ¬ nI c = 40 from fun z => e ((nI_eq (b := 40) (by omega) (by decide)).mp z))]
    dsimp only
    rw [if_neg (show ¬ (1 : Int32) = 0 by decide), us_s, h2, nI_1]
    refine ⟨⟨c + 1, by omega, us_s _ _ _, us_s _ _ _, fun j hj => ?_⟩, rfl, fun k hk => ?_, fun j hj => ?_⟩
    · rw [us_2, us_2, ua_s, ua_s]
      show (if j = _ then p0 else om.2 12 j) = (if j = _ then p0 else og.2 0 j)
      rw [h4 j hj]
    · rw [us_n (by omega), ua_1]
    · rw [us_2, ua_n hj]
theorem op_wipe {og om : OV} (h : rP og om) : rP (fX4_wipe og).2 (fX5_wipe om).2 ∧ (fX4_wipe og).1 = (fX5_wipe om).1 ∧ frp om (fX5_wipe om).2 := by
  obtain ⟨c, h1, h2, h3, h4⟩ := h
  refine ⟨⟨0, by decide, us_s _ _ _, us_s _ _ _, h4⟩, ?_, fun k hk => us_n (by omega), fun _ _ => rfl⟩
  exact h2.trans h3.symm
theorem sg_eq {og om : OV} (h : rP og om) {k : Nat} (hk : k < 40) : fX2_sign og (nI k) = (om.2 12) (nI k).toNatClampNeg := by
  obtain ⟨c, -, -, -, h4⟩ := h
  unfold fX2_sign
  have e : fX4_within (nI k) 0 39 = 1 := (wi_nI (v := k) (a := 0) (b := 39) (by omega) (by decide) (by decide)).trans (if_pos (by omega))
  rw [e, if_neg (show ¬ (1 : Int32) = 0 by decide), nI_clamp (by omega), h4 k hk]
/-- the signs that take another -/
def tk3 (x : Int32) : Prop := x = 0 ∨ x = 33 ∨ x = 45 ∨ x = 126
theorem op_eq (c f : Int32) : fX5_isOpening c f = if f = 0 then fX2_takesAnother c else 0 := rfl
theorem z01 {x : Int32} (h : x = 0 ∨ x = 1) : (if x = 0 then (0 : Int32) else 1) = x := by rcases h with rfl | rfl <;> rfl
theorem cs_0 (c : Int32) : fX5_canStand c 0 = fX2_canBegin c := by
  unfold fX5_canStand fX2_canBegin fX2_takesAnother
  rw [if_pos rfl, in_wi (x := c) (a := 48) (b := 57) (a' := 48) (b' := 57) (by decide) (by decide)]
  by_cases g : fX4_within c 48 57 = 0
  · rw [if_pos g, if_pos g]
    by_cases e1 : c = 33
    · subst e1; rfl
    · by_cases e2 : c = 45
      · subst e2; rfl
      · by_cases e3 : c = 46
        · subst e3; rfl
        · by_cases e4 : c = 126
          · subst e4; rfl
          · simp only [if_neg e1, if_neg e2, if_neg e3, if_neg e4]
            rfl
  · rw [if_neg g, if_neg g]
theorem cs_f {c f : Int32} (hf : tk3 f) (h0 : ¬ f = 0) : fX5_canStand c f = fX2_canFollow f c := by
  unfold fX5_canStand fX2_canFollow
  rw [if_neg h0, in_wi (x := c) (a := 48) (b := 57) (a' := 48) (b' := 57) (by decide) (by decide), in_wi (x := c) (a := 65) (b := 70) (a' := 65) (b' := 70) (by decide) (by decide)]
  rcases hf with rfl | rfl | rfl | rfl
  · exact absurd rfl h0
  · rw [if_neg (show ¬ (33 : Int32) = 126 by decide), if_pos rfl, if_pos rfl]
    exact z01 (zX4_within _ _ _)
  · rw [if_neg (show ¬ (45 : Int32) = 126 by decide), if_neg (show ¬ (45 : Int32) = 33 by decide), if_neg (show ¬ (45 : Int32) = 33 by decide), if_pos rfl]
    by_cases g : fX4_within c 48 57 = 0
    · rw [if_pos g]
      by_cases g2 : fX4_within c 49 57 = 0
      · exact g2.symm
      · obtain ⟨v, h1, h2, rfl⟩ := wi_N (n := 49) (m := 57) (by decide) (by decide) g2
        have e : fX4_within (nI v) 48 57 = 1 := (wi_nI (v := v) (a := 48) (b := 57) (by omega) (by decide) (by decide)).trans (if_pos (by omega))
        rw [e] at g
        exact absurd g (by decide)
    · rw [if_neg g]
      obtain ⟨v, h1, h2, rfl⟩ := wi_N (n := 48) (m := 57) (by decide) (by decide) g
      have e9 : fX4_within (nI v) 49 57 = if 49 ≤ v ∧ v ≤ 57 then (1 : Int32) else 0 := wi_nI (v := v) (a := 49) (b := 57) (by omega) (by decide) (by decide)
      by_cases e : v = 48
      · subst e; rfl
      · rw [e9.trans (if_pos (by omega)), if_neg (show ¬ nI v = 48 from fun z => e ((nI_eq (b := 48) (by omega) (by decide)).mp z))]
  · rw [if_pos rfl, if_neg (show ¬ (126 : Int32) = 33 by decide), if_neg (show ¬ (126 : Int32) = 45 by decide)]
theorem ta_c (c : Int32) (h : ¬ fX2_takesAnother c = 0) : tk3 c := by
  unfold fX2_takesAnother at h
  by_cases e1 : c = 33
  · exact Or.inr (Or.inl e1)
  · by_cases e2 : c = 45
    · exact Or.inr (Or.inr (Or.inl e2))
    · by_cases e4 : c = 126
      · exact Or.inr (Or.inr (Or.inr e4))
      · rw [if_neg e1, if_neg e2, if_neg e4] at h
        exact absurd rfl h
theorem ft_L {og om : OV} (h : rP og om) : ∀ n k x, k + n ≤ 40 → tk3 x → fX2_firstFault_L4 og n k x = fX5_fault_L4 om n k x := by
  intro n
  induction n with
  | zero =>
    intro k x _ _
    obtain ⟨c, -, h2, h3, -⟩ := h
    unfold fX2_firstFault_L4 fX5_fault_L4
    rw [h2, h3]
  | succ n ih =>
    intro k x hk hx
    have e := sg_eq h (by omega : k < 40)
    generalize hs : fX2_sign og (nI k) = c at e
    show (if (if x = 0 then (fX2_canBegin (fX2_sign og (nI k))) else (fX2_canFollow x (fX2_sign og (nI k)))) = 0 then (nI k) else fX2_firstFault_L4 og n (k + 1) (if x = 0 then (if (fX2_takesAnother (fX2_sign og (nI k))) = 0 then (0 : Int32) else (fX2_sign og (nI k))) else 0)) = (if (fX5_canStand ((om.2 12) (nI k).toNatClampNeg) x) = 0 then (nI k) else fX5_fault_L4 om n (k + 1) (if (fX5_isOpening ((om.2 12) (nI k).toNatClampNeg) x) = 0 then (0 : Int32) else ((om.2 12) (nI k).toNatClampNeg)))
    rw [← e, hs, op_eq]
    by_cases h0 : x = 0
    · subst h0
      rw [if_pos rfl, if_pos rfl, if_pos rfl, cs_0]
      by_cases g : fX2_canBegin c = 0
      · rw [if_pos g, if_pos g]
      · rw [if_neg g, if_neg g]
        refine ih (k + 1) _ (by omega) ?_
        by_cases g2 : fX2_takesAnother c = 0
        · rw [if_pos g2]; exact Or.inl rfl
        · rw [if_neg g2]; exact ta_c c g2
    · rw [if_neg h0, if_neg h0, if_neg h0, cs_f hx h0, if_pos rfl]
      by_cases g : fX2_canFollow x c = 0
      · rw [if_pos g, if_pos g]
      · rw [if_neg g, if_neg g]
        exact ih (k + 1) _ (by omega) (Or.inl rfl)
theorem ft_eq {og om : OV} (h : rP og om) : fX2_firstFault og = fX5_fault om := by
  unfold fX2_firstFault fX5_fault
  obtain ⟨c, h1, h2, h3, h4⟩ := id h
  rw [h2, h3, nI_clamp (by omega)]
  exact ft_L h c 0 0 (by omega) (Or.inl rfl)
theorem op_fault {og om : OV} (h : rP og om) : fX4_fault og = fX5_fault om := ft_eq h
