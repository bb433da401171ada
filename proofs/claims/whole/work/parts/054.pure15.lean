/-! PURE 15: images, kept and taken back -/
def kI (om : OV) (i : Nat) (x : Option KV) : Prop := (x = none → om.2 21 i = 0) ∧ ∀ K, x = some K → om.2 21 i = 1 ∧ kok K ∧ ∀ t, t < 46 → om.2 20 (80 * i + t) = nI (seg K t)
def rI (f : Nat → Option KV) (om : OV) : Prop := ∀ i, i < 2 → kI om i (f i)
theorem rI_frm {f : Nat → Option KV} {om om' : OV} (h : rI f om) (hf : frm om om') : rI f om' := by
  intro i hi
  have q := h i hi
  unfold kI at q ⊢
  rw [hf.2.2.1, hf.2.2.2]
  exact q
theorem im_80 : ∀ i, i < 2 → (80 : Int32) * nI i = nI (80 * i) := by decide
theorem op_imageM {K : KV} {om : OV} {f : Nat → Option KV} (hK : kok K) (hM : rM K om) (hI : rI f om) {i : Nat} (hi : i < 2) : (fX5_image om (nI i)).1 = 1 ∧ rM K (fX5_image om (nI i)).2 ∧ rI (fun j => if j = i then some K else f j) (fX5_image om (nI i)).2 ∧ (fX5_image om (nI i)).2.1 13 = om.1 13 ∧ (fX5_image om (nI i)).2.2 12 = om.2 12 := by
  have hw : ¬ fX5_in (nI i).toInt64 0 1 = 0 := by
    have : i = 0 ∨ i = 1 := by omega
    rcases this with rfl | rfl <;> decide
  have hr := rM_free (rM_free hM (show 13 < 22 by decide) (nI (80 * i))) (show 13 < 23 by decide) 1
  obtain ⟨i1, i2, i3, i4, i5, i6, i7⟩ := pg_inv (o := us (us om 22 (nI (80 * i))) 23 1) hi ((us_n (by decide)).trans (us_s _ _ _)) (Or.inr ⟨us_s _ _ _, rM_seg hr⟩) 46 (Nat.le_refl _)
  unfold fX5_image
  rw [if_neg hw, im_80 i hi, pg_all, nI_clamp (by omega)]
  generalize stn (us (us om 22 (nI (80 * i))) 23 1) 46 = z at i1 i2 i3 i4 i5 i6 i7 ⊢
  have hz : rM K z := seg_rM (fun t ht => (i7 t).trans (if_pos ht))
  dsimp only
  refine ⟨rfl, ⟨hz.1, fun j hj => ?_, fun j hj => ?_⟩, fun j hj => ?_, ?_, ?_⟩
  · have q := hz.2.1 j hj
    rw [ua_n (by decide), ua_n (by decide), ua_n (by decide), ua_n (by decide), ua_n (by decide)]
    exact q
  · rw [ua_n (by decide)]; exact hz.2.2 j hj
  · have q := hI j hj
    unfold kI at q ⊢
    rw [ua_rd, ua_n (show 20 ≠ 21 by decide), i6]
    dsimp only
    by_cases e : j = i
    · rw [if_pos e, if_pos e]
      refine ⟨fun w => absurd w (by simp), fun K' w => ?_⟩
      have ek : K = K' := Option.some.inj w
      subst ek
      refine ⟨rfl, hK, fun t ht => ?_⟩
      rw [i3, if_pos (by omega), e, show 80 * i + t - 80 * i = t by omega]
    · rw [if_neg e, if_neg e]
      refine ⟨q.1, fun K' w => ?_⟩
      obtain ⟨a, b, c⟩ := q.2 K' w
      refine ⟨a, b, fun t ht => ?_⟩
      rw [i3, if_neg (by omega)]
      exact c t ht
  · exact i4
  · exact (ua_n (by decide)).trans i5
theorem op_restoreM {K' : KV} {om : OV} {f : Nat → Option KV} (hI : rI f om) {i : Nat} (hi : i < 2) (hf : f i = some K') : (fX5_restore om (nI i)).1 = 1 ∧ rM K' (fX5_restore om (nI i)).2 ∧ rI f (fX5_restore om (nI i)).2 ∧ (fX5_restore om (nI i)).2.1 13 = om.1 13 ∧ (fX5_restore om (nI i)).2.2 12 = om.2 12 := by
  have hw : ¬ fX5_in (nI i).toInt64 0 1 = 0 := by
    have : i = 0 ∨ i = 1 := by omega
    rcases this with rfl | rfl <;> decide
  obtain ⟨a, b, c⟩ := (hI i hi).2 K' hf
  obtain ⟨i1, i2, i3, i4, i5, i6, i7⟩ := pg_inv (K := K') (o := us (us om 22 (nI (80 * i))) 23 0) hi ((us_n (by decide)).trans (us_s _ _ _)) (Or.inl ⟨us_s _ _ _, c⟩) 46 (Nat.le_refl _)
  unfold fX5_restore
  rw [if_neg hw, nI_clamp (by omega), a, if_neg (show ¬ (1 : Int32) = 0 by decide), im_80 i hi, pg_all]
  generalize stn (us (us om 22 (nI (80 * i))) 23 0) 46 = z at i1 i2 i3 i4 i5 i6 i7 ⊢
  refine ⟨rfl, seg_rM (fun t ht => (i7 t).trans (if_pos ht)), fun j hj => ?_, i4, i5⟩
  have q := hI j hj
  unfold kI at q ⊢
  have e20 : z.2 20 = om.2 20 := funext fun x => by
    rw [i3]
    by_cases l : 80 * i ≤ x ∧ x < 80 * i + 46
    · rw [if_pos l]
      have := c (x - 80 * i) (by omega)
      rw [show 80 * i + (x - 80 * i) = x by omega] at this
      exact this.symm
    · rw [if_neg l]; rfl
  dsimp only
  rw [e20, i6]
  exact q
theorem op_restoreN {om : OV} {f : Nat → Option KV} (hI : rI f om) {i : Nat} (hi : i < 2) (hf : f i = none) : fX5_restore om (nI i) = (-3, om) := by
  have hw : ¬ fX5_in (nI i).toInt64 0 1 = 0 := by
    have : i = 0 ∨ i = 1 := by omega
    rcases this with rfl | rfl <;> decide
  unfold fX5_restore
  rw [if_neg hw, nI_clamp (by omega), (hI i hi).1 hf, if_pos rfl]
