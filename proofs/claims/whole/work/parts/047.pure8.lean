/-! PURE 8: where to stand, and how quick -/
theorem c6 {f g : Nat → Int32} {j : Nat} (h : j < 6) : va_cpy f g (0 : Int32).toNatClampNeg (0 : Int32).toNatClampNeg (6 : Int32).toNatClampNeg j = f j := (pk_cpy_in (sp := 0) (dp := 0) (n := 6) (Nat.zero_le _) (by omega)).trans (by rw [Nat.zero_add, Nat.sub_zero])
theorem c10 {f g : Nat → Int32} {j : Nat} (h : j < 10) : va_cpy f g (0 : Int32).toNatClampNeg (0 : Int32).toNatClampNeg (10 : Int32).toNatClampNeg j = f j := (pk_cpy_in (sp := 0) (dp := 0) (n := 10) (Nat.zero_le _) (by omega)).trans (by rw [Nat.zero_add, Nat.sub_zero])
theorem rC_copy {K : KV} {oc : OV} (ou : OV) (h : rC K oc) : rC K (fX0_copyFrom ou oc) := by
  refine ⟨fun k hk => ?_, fun j hj => ?_, fun j hj => ?_⟩
  · rw [← h.1 k hk]
    have : k = 0 ∨ k = 1 ∨ k = 2 ∨ k = 3 ∨ k = 4 ∨ k = 5 ∨ k = 6 := by omega
    rcases this with rfl | rfl | rfl | rfl | rfl | rfl | rfl <;> rfl
  · have q := h.2.1 j hj
    exact ⟨(c6 (g := ou.2 7) hj).trans q.1, (c6 (g := ou.2 8) hj).trans q.2.1, (c6 (g := ou.2 10) hj).trans q.2.2.1, (c6 (g := ou.2 11) hj).trans q.2.2.2⟩
  · exact (c10 (g := ou.2 9) hj).trans (h.2.2 j hj)
theorem kua_id (K : KV) (a i : Nat) : kua K a i (K.2 a i) = K := Prod.ext rfl (funext fun j => funext fun q => by
  show (if j = a then (fun q => if q = i then K.2 a i else K.2 j q) else K.2 j) q = K.2 j q
  by_cases e : j = a
  · subst e
    rw [if_pos rfl]
    by_cases e2 : q = i
    · subst e2; exact if_pos rfl
    · exact if_neg e2
  · rw [if_neg e])
theorem kua_tw (K : KV) (a i x y : Nat) : kua (kua K a i x) a i y = kua K a i y := Prod.ext rfl (funext fun j => funext fun q => by
  show (if j = a then (fun q => if q = i then y else (if j = a then (fun q => if q = i then x else K.2 j q) else K.2 j) q) else (if j = a then (fun q => if q = i then x else K.2 j q) else K.2 j)) q = (if j = a then (fun q => if q = i then y else K.2 j q) else K.2 j) q
  by_cases e : j = a
  · rw [if_pos e, if_pos e, if_pos e]
    show (if q = i then y else (if q = i then x else K.2 j q)) = (if q = i then y else K.2 j q)
    by_cases e2 : q = i
    · rw [if_pos e2, if_pos e2]
    · rw [if_neg e2, if_neg e2, if_neg e2]
  · rw [if_neg e, if_neg e, if_neg e])
/-- the share of p, standing at a with delay s -/
def shp (K : KV) (p a s : Nat) : Nat := sh (kua (kua K 7 p a) 8 p s) (2 ^ p) 10
theorem kok_put {K : KV} (h : kok K) {p a s : Nat} (ha : a < 10) (hs : s < 10) : kok (kua (kua K 7 p a) 8 p s) := kok_slow (kok_place h ha) hs
theorem kw_put (K : KV) (p a s : Nat) : ∀ n, kw (kua (kua K 7 p a) 8 p s) n = kw K n
  | 0 => rfl
  | n + 1 => by
    have := kw_put K p a s n
    show kw (kua (kua K 7 p a) 8 p s) n + K.2 9 n = kw K n + K.2 9 n
    rw [this]
theorem shp_le {K : KV} (h : kok K) (p a s : Nat) : shp K p a s ≤ 5400 := by
  have h1 := sh_le (K := kua (kua K 7 p a) 8 p s) (2 ^ p) 10
  have h2 := kw_le h 10 (Nat.le_refl _)
  rw [kw_put] at h1
  show sh _ _ _ ≤ _
  omega
theorem C_trial {K : KV} {oc : OV} (ou : OV) (hK : kok K) (hC : rC K oc) {p a s : Nat} (hp : p < 6) (ha : a < 10) (hs : s < 10) : (fX4_trialShare oc ou (nI p) (nI a) (nI s)).1 = nI (shp K p a s) := by
  unfold fX4_trialShare fX0_put
  rw [if_neg (psn p hp), nI_clamp (by omega)]
  exact C_share (kok_put hK ha hs) (rC_ua (rC_ua (rC_copy ou hC) 7 p a) 8 p s) (pwt p hp) 10 (Nat.le_refl _)
/-- the best of the first n: its share, its place -/
def bst (f : Nat → Nat) : Nat → Int32 × Int32
  | 0 => (-1, 0)
  | k + 1 => if nI (f k) ≤ (bst f k).1 then bst f k else (nI (f k), nI k)
theorem bst_1 (f : Nat → Nat) (h0 : f 0 < 2 ^ 31) : bst f 1 = (nI (f 0), nI 0) := by
  show (if nI (f 0) ≤ -1 then _ else (nI (f 0), nI 0)) = _
  refine if_neg fun z => ?_
  have := (fa_le _ _).mp z
  rw [nI_toInt h0, show (-1 : Int32).toInt = -1 by decide] at this
  omega
theorem bst_has (f : Nat → Nat) (h0 : f 0 < 2 ^ 31) : ∀ k, ∃ j, j ≤ k ∧ bst f (k + 1) = (nI (f j), nI j) := by
  intro k
  induction k with
  | zero => exact ⟨0, Nat.le_refl _, bst_1 f h0⟩
  | succ k ih =>
    obtain ⟨j, hj, e⟩ := ih
    show ∃ j, j ≤ k + 1 ∧ (if nI (f (k + 1)) ≤ (bst f (k + 1)).1 then bst f (k + 1) else (nI (f (k + 1)), nI (k + 1))) = (nI (f j), nI j)
    by_cases c : nI (f (k + 1)) ≤ (bst f (k + 1)).1
    · rw [if_pos c]; exact ⟨j, by omega, e⟩
    · rw [if_neg c]; exact ⟨k + 1, Nat.le_refl _, rfl⟩
theorem C_best {K : KV} {oc : OV} (ou : OV) (hK : kok K) (hC : rC K oc) {p : Nat} (hp : p < 6) : ∀ k, k ≤ 10 → ((fX4_bestPlace_L7 oc (nI p) (-1) 0 ou k).1, (fX4_bestPlace_L7 oc (nI p) (-1) 0 ou k).2.1) = bst (fun a => shp K p a (K.2 8 p)) k := by
  intro k
  induction k with
  | zero => intro _; rfl
  | succ k ih =>
    intro hk
    have i2 := ih (by omega)
    have q := hK.2.1 p hp
    show ((fX4_bestPlace_L7s oc (nI p) k (fX4_bestPlace_L7 oc (nI p) (-1) 0 ou k).1 (fX4_bestPlace_L7 oc (nI p) (-1) 0 ou k).2.1 (fX4_bestPlace_L7 oc (nI p) (-1) 0 ou k).2.2).1, (fX4_bestPlace_L7s oc (nI p) k (fX4_bestPlace_L7 oc (nI p) (-1) 0 ou k).1 (fX4_bestPlace_L7 oc (nI p) (-1) 0 ou k).2.1 (fX4_bestPlace_L7 oc (nI p) (-1) 0 ou k).2.2).2.1) = if nI (shp K p k (K.2 8 p)) ≤ (bst (fun a => shp K p a (K.2 8 p)) k).1 then bst (fun a => shp K p a (K.2 8 p)) k else (nI (shp K p k (K.2 8 p)), nI k)
    rw [← i2]
    unfold fX4_bestPlace_L7s
    rw [nI_clamp (by omega), (hC.2.1 p hp).2.1, C_trial _ hK hC hp (by omega) q.2.1]
    by_cases c : nI (shp K p k (K.2 8 p)) ≤ (fX4_bestPlace_L7 oc (nI p) (-1) 0 ou k).1
    · rw [if_pos c, if_pos c]
    · rw [if_neg c, if_neg c]
theorem rM_free {K : KV} {om : OV} (h : rM K om) {k : Nat} (hk : 13 < k) (v : Int32) : rM K (us om k v) := ⟨⟨(us_n (by omega)).trans h.1.1, (us_n (by omega)).trans h.1.2.1, (us_n (by omega)).trans h.1.2.2.1, (us_n (by omega)).trans h.1.2.2.2.1, (us_n (by omega)).trans h.1.2.2.2.2.1, (us_n (by omega)).trans h.1.2.2.2.2.2⟩, h.2⟩
theorem frm_us {o om : OV} (h : frm o om) {k : Nat} (hk : 13 < k) (v : Int32) : frm o (us om k v) := ⟨(us_n (by omega)).trans h.1, h.2⟩
theorem frm_ua {o om : OV} (h : frm o om) {k i : Nat} (hk : k < 12) (v : Int32) : frm o (ua om k i v) := ⟨h.1, (congrFun (congrArg Prod.snd rfl) _).trans ((ua_n (by omega)).trans h.2.1), (ua_n (by omega)).trans h.2.2.1, (ua_n (by omega)).trans h.2.2.2⟩
theorem rM_pl {K : KV} {om : OV} (h : rM K om) (i n : Nat) : rM (kua K 7 i n) (ua om 1 i (nI n)) := rM_ua (a := 7) (a' := 1) h i n (by decide) (by decide) (by decide) (by decide) (by decide) (by decide)
theorem rM_sl {K : KV} {om : OV} (h : rM K om) (i n : Nat) : rM (kua K 8 i n) (ua om 2 i (nI n)) := rM_ua (a := 8) (a' := 2) h i n (by decide) (by decide) (by decide) (by decide) (by decide) (by decide)
theorem shp_pl (K : KV) (p a : Nat) : sh (kua K 7 p a) (2 ^ p) 10 = shp K p a (K.2 8 p) := by
  have e : kua (kua K 7 p a) 8 p (K.2 8 p) = kua K 7 p a := kua_id (kua K 7 p a) 8 p
  unfold shp
  rw [e]
theorem shp_sl (K : KV) (p s : Nat) : sh (kua K 8 p s) (2 ^ p) 10 = shp K p (K.2 7 p) s := by
  unfold shp
  rw [kua_id]
theorem M_best {K : KV} {om : OV} (hK : kok K) (hM : rM K om) {p : Nat} (hp : p < 6) : ∀ k, k ≤ 10 → ∃ x, rM (kua K 7 p x) (fX5_findStand_L20 (nI p) (us (us om 17 (-6)) 18 (-1)) k) ∧ frm om (fX5_findStand_L20 (nI p) (us (us om 17 (-6)) 18 (-1)) k) ∧ (fX5_findStand_L20 (nI p) (us (us om 17 (-6)) 18 (-1)) k).1 18 = (bst (fun a => shp K p a (K.2 8 p)) k).1 ∧ (fX5_findStand_L20 (nI p) (us (us om 17 (-6)) 18 (-1)) k).1 17 = if k = 0 then -6 else (bst (fun a => shp K p a (K.2 8 p)) k).2 := by
  intro k
  induction k with
  | zero =>
    intro _
    refine ⟨K.2 7 p, ?_, frm_us (frm_us (frm_rf om) (by decide) _) (by decide) _, us_s _ _ _, ?_⟩
    · rw [kua_id]
      exact rM_free (rM_free hM (by decide) _) (by decide) _
    · exact (us_n (by decide)).trans (us_s _ _ _)
  | succ k ih =>
    intro hk
    obtain ⟨x, h1, h2, h3, h4⟩ := ih (by omega)
    have q := hK.2.1 p hp
    show ∃ x, rM (kua K 7 p x) (fX5_findStand_L20s (nI p) k (fX5_findStand_L20 (nI p) (us (us om 17 (-6)) 18 (-1)) k)) ∧ frm om (fX5_findStand_L20s (nI p) k (fX5_findStand_L20 (nI p) (us (us om 17 (-6)) 18 (-1)) k)) ∧ (fX5_findStand_L20s (nI p) k (fX5_findStand_L20 (nI p) (us (us om 17 (-6)) 18 (-1)) k)).1 18 = (if nI (shp K p k (K.2 8 p)) ≤ (bst (fun a => shp K p a (K.2 8 p)) k).1 then bst (fun a => shp K p a (K.2 8 p)) k else (nI (shp K p k (K.2 8 p)), nI k)).1 ∧ (fX5_findStand_L20s (nI p) k (fX5_findStand_L20 (nI p) (us (us om 17 (-6)) 18 (-1)) k)).1 17 = if k + 1 = 0 then -6 else (if nI (shp K p k (K.2 8 p)) ≤ (bst (fun a => shp K p a (K.2 8 p)) k).1 then bst (fun a => shp K p a (K.2 8 p)) k else (nI (shp K p k (K.2 8 p)), nI k)).2
    generalize fX5_findStand_L20 (nI p) (us (us om 17 (-6)) 18 (-1)) k = o at h1 h2 h3 h4
    have hk2 := kok_place hK (i := p) (n := k) (by omega)
    have r1 : rM (kua K 7 p k) (ua o 1 p (nI k)) := by
      have := rM_pl h1 p k
      rwa [kua_tw] at this
    have es : fX5_sixtieths (ua o 1 p (nI k)) (nI p) = nI (shp K p k (K.2 8 p)) := by
      rw [← shp_pl]
      exact M_share hk2 r1 (m_prs hp) 10 (Nat.le_refl _)
    unfold fX5_findStand_L20s
    rw [nI_clamp (by omega), es, h3, h4]
    refine ⟨k, rM_free (rM_free r1 (by decide) _) (by decide) _, frm_us (frm_us (frm_ua h2 (by decide) _) (by decide) _) (by decide) _, (us_s _ _ _).trans ?_, ((us_n (by decide)).trans (us_s _ _ _)).trans ?_⟩
    · by_cases c : nI (shp K p k (K.2 8 p)) ≤ (bst (fun a => shp K p a (K.2 8 p)) k).1
      · rw [if_pos c, if_pos c]
      · rw [if_neg c, if_neg c]
    · rw [if_neg (Nat.succ_ne_zero k)]
      by_cases e0 : k = 0
      · subst e0
        have b1 := bst_1 (fun a => shp K p a (K.2 8 p)) (by have := shp_le hK p 0 (K.2 8 p); show shp K p 0 (K.2 8 p) < _; omega)
        have b2 : ¬ nI (shp K p 0 (K.2 8 p)) ≤ (bst (fun a => shp K p a (K.2 8 p)) 0).1 := by
          intro z
          have := (fa_le _ _).mp z
          rw [nI_toInt (by have := shp_le hK p 0 (K.2 8 p); omega), show ((bst (fun a => shp K p a (K.2 8 p)) 0).1).toInt = -1 from (show (-1 : Int32).toInt = -1 by decide)] at this
          omega
        rw [if_neg b2, if_neg b2]
      · rw [if_neg e0]
        by_cases c : nI (shp K p k (K.2 8 p)) ≤ (bst (fun a => shp K p a (K.2 8 p)) k).1
        · rw [if_pos c, if_pos c]
        · rw [if_neg c, if_neg c]
theorem M_find {K : KV} {om : OV} (hK : kok K) (hM : rM K om) {p : Nat} (hp : p < 6) : rM K (fX5_findStand om (nI p)) ∧ frm om (fX5_findStand om (nI p)) ∧ (fX5_findStand om (nI p)).1 18 = (bst (fun a => shp K p a (K.2 8 p)) 10).1 ∧ (fX5_findStand om (nI p)).1 17 = (bst (fun a => shp K p a (K.2 8 p)) 10).2 := by
  obtain ⟨x, h1, h2, h3, h4⟩ := M_best hK hM hp 10 (Nat.le_refl _)
  unfold fX5_findStand
  rw [nI_clamp (by omega), (hM.2.1 p hp).1]
  generalize fX5_findStand_L20 (nI p) (us (us om 17 (-6)) 18 (-1)) 10 = o at h1 h2 h3 h4 ⊢
  generalize bst (fun a => shp K p a (K.2 8 p)) 10 = b at h3 h4 ⊢
  refine ⟨?_, frm_ua h2 (by decide) _, h3, h4⟩
  have := rM_pl h1 p (K.2 7 p)
  rwa [kua_tw, kua_id] at this
theorem op_best {K : KV} {oc om : OV} (ou : OV) (h : RK K oc om) (p0 : Int32) : RK K oc (fX5_best om p0).2 ∧ (fX4_best oc ou p0).1 = (fX5_best om p0).1 ∧ frm om (fX5_best om p0).2 := by
  obtain ⟨hK, hC, hM⟩ := h
  unfold fX4_best fX5_best
  rw [th_eq (oc := oc) (hM.1.1.trans (hC.1 2 (by decide)).symm)]
  by_cases g0 : fX0_isThere oc p0 = 0
  · rw [if_pos g0, if_pos g0]; exact ⟨⟨hK, hC, hM⟩, rfl, frm_rf om⟩
  rw [if_neg g0, if_neg g0]
  obtain ⟨p, hp, rfl⟩ := vp_nI (it6 g0) (by decide)
  obtain ⟨h1, h2, h3, h4⟩ := M_find hK hM hp
  have eb : (fX4_bestPlace oc ou (nI p)).1 = (bst (fun a => shp K p a (K.2 8 p)) 10).2 := by
    have e := C_best ou hK hC hp 10 (Nat.le_refl _)
    unfold fX4_bestPlace
    generalize fX4_bestPlace_L7 oc (nI p) (-1) 0 ou 10 = x at e ⊢
    generalize bst (fun a => shp K p a (K.2 8 p)) 10 = y at e ⊢
    exact congrArg Prod.snd e
  dsimp only
  rw [eb, h4]
  exact ⟨⟨hK, hC, h1⟩, rfl, h2⟩
theorem op_bestChance {K : KV} {oc om : OV} (ou : OV) (h : RK K oc om) (p0 p1 : Int32) : RK K oc (fX5_bestChance om p0 p1).2 ∧ (fX4_bestChance oc ou p0 p1).1 = (fX5_bestChance om p0 p1).1 ∧ frm om (fX5_bestChance om p0 p1).2 := by
  obtain ⟨hK, hC, hM⟩ := h
  unfold fX4_bestChance fX5_bestChance fX4_bestChance_x3
  rw [in_wi (x := p1) (a := 0) (b := 1) (a' := 0) (b' := 1) (by decide) (by decide), th_eq (oc := oc) (hM.1.1.trans (hC.1 2 (by decide)).symm)]
  by_cases g0 : fX0_isThere oc p0 = 0
  · rw [if_pos g0, if_pos g0]; exact ⟨⟨hK, hC, hM⟩, rfl, frm_rf om⟩
  rw [if_neg g0, if_neg g0]
  by_cases g1 : fX4_within p1 0 1 = 0
  · rw [if_pos g1, if_pos g1]; exact ⟨⟨hK, hC, hM⟩, rfl, frm_rf om⟩
  rw [if_neg g1, if_neg g1]
  obtain ⟨p, hp, rfl⟩ := vp_nI (it6 g0) (by decide)
  obtain ⟨h1, h2, h3, h4⟩ := M_find hK hM hp
  refine ⟨⟨hK, hC, h1⟩, ?_, h2⟩
  have q := hK.2.1 p hp
  obtain ⟨j, hj, hb⟩ := bst_has (fun a => shp K p a (K.2 8 p)) (by have := shp_le hK p 0 (K.2 8 p); show shp K p 0 (K.2 8 p) < _; omega) 9
  have eb : (fX4_bestPlace oc ou (nI p)).1 = nI j := (congrArg Prod.snd (C_best ou hK hC hp 10 (Nat.le_refl _))).trans (congrArg Prod.snd hb)
  have e3 : fX0_allShares oc = nI (60 * kw K 10) := by
    unfold fX0_allShares
    rw [C_weights hC, show (60 : Int32) = nI 60 from rfl, pk_mul, Nat.mul_comm]
  have e4 : 60 * fX5_weights (fX5_findStand om (nI p)) = nI (60 * kw K 10) := by
    rw [M_weights h1, show (60 : Int32) = nI 60 from rfl, pk_mul]
  have hs := shp_le hK p j (K.2 8 p)
  have b2 := kw_le hK 10 (Nat.le_refl _)
  have b3 := hK.2.2.2
  dsimp only
  rw [eb, nI_clamp (by omega), (hC.2.1 p hp).2.1, C_trial _ hK hC hp (by omega) q.2.1, e3, h3, hb, e4]
  exact low_eq (by omega) (by omega) (by omega) p1
-- how quick
def qd (c : Nat → Prop) [DecidablePred c] : Nat → Int32
  | 0 => -6
  | m + 1 => if c m then qd c m else nI m
theorem C_quick {K : KV} {oc : OV} (hK : kok K) (hC : rC K oc) {p : Nat} (hp : p < 6) (p1 p2 : Int32) : ∀ n k, k + n = 10 → ∀ ou, (fX4_quick_L50 oc (nI p) p1 p2 n k ou).1 = qd (fun s => nI (shp K p (K.2 7 p) s) * p2 < p1 * nI (60 * kw K 10)) n := by
  intro n
  induction n with
  | zero => intro k _ ou; rfl
  | succ n ih =>
    intro k hk ou
    have q := hK.2.1 p hp
    have e3 : fX0_allShares oc = nI (60 * kw K 10) := by
      unfold fX0_allShares
      rw [C_weights hC, show (60 : Int32) = nI 60 from rfl, pk_mul, Nat.mul_comm]
    have ed : dn 9 k = nI n := (dn_in (by omega)).trans (by rw [show 9 - k = n by omega])
    unfold fX4_quick_L50 qd
    rw [nI_clamp (by omega), (hC.2.1 p hp).1, ed, C_trial _ hK hC hp q.1 (by omega), e3]
    by_cases c : nI (shp K p (K.2 7 p) n) * p2 < p1 * nI (60 * kw K 10)
    · rw [if_pos c, if_pos c]; exact ih (k + 1) (by omega) _
    · rw [if_neg c, if_neg c]
theorem M_quick {K : KV} {om : OV} (hK : kok K) (hM : rM K om) {p : Nat} (hp : p < 6) (p1 p2 : Int32) : ∀ k, k ≤ 10 → ∃ x, rM (kua K 8 p x) (fX5_quick_L51 (nI p) p1 p2 (-6) om k).2 ∧ frm om (fX5_quick_L51 (nI p) p1 p2 (-6) om k).2 ∧ (fX5_quick_L51 (nI p) p1 p2 (-6) om k).1 = qd (fun s => nI (shp K p (K.2 7 p) s) * p2 < p1 * nI (60 * kw K 10)) k := by
  intro k
  induction k with
  | zero => intro _; exact ⟨K.2 8 p, by rw [kua_id]; exact hM, frm_rf om, rfl⟩
  | succ k ih =>
    intro hk
    obtain ⟨x, h1, h2, h3⟩ := ih (by omega)
    show ∃ x, rM (kua K 8 p x) (fX5_quick_L51s (nI p) p1 p2 k (fX5_quick_L51 (nI p) p1 p2 (-6) om k).1 (fX5_quick_L51 (nI p) p1 p2 (-6) om k).2).2 ∧ frm om (fX5_quick_L51s (nI p) p1 p2 k (fX5_quick_L51 (nI p) p1 p2 (-6) om k).1 (fX5_quick_L51 (nI p) p1 p2 (-6) om k).2).2 ∧ (fX5_quick_L51s (nI p) p1 p2 k (fX5_quick_L51 (nI p) p1 p2 (-6) om k).1 (fX5_quick_L51 (nI p) p1 p2 (-6) om k).2).1 = if nI (shp K p (K.2 7 p) k) * p2 < p1 * nI (60 * kw K 10) then qd (fun s => nI (shp K p (K.2 7 p) s) * p2 < p1 * nI (60 * kw K 10)) k else nI k
    rw [h3]
    generalize (fX5_quick_L51 (nI p) p1 p2 (-6) om k).2 = o at h1 h2 ⊢
    have hk2 := kok_slow hK (i := p) (n := k) (by omega)
    have r1 : rM (kua K 8 p k) (ua o 2 p (nI k)) := by
      have := rM_sl h1 p k
      rwa [kua_tw] at this
    have es : fX5_sixtieths (ua o 2 p (nI k)) (nI p) = nI (shp K p (K.2 7 p) k) := by
      rw [← shp_sl]
      exact M_share hk2 r1 (m_prs hp) 10 (Nat.le_refl _)
    have ekw : ∀ n, kw (kua K 8 p k) n = kw K n := fun n => by
      have := kw_put K p (K.2 7 p) k n
      rwa [kua_id] at this
    have ew : (p1 * 60) * fX5_weights (ua o 2 p (nI k)) = p1 * nI (60 * kw K 10) := by
      rw [M_weights r1, ekw, Int32.mul_assoc, show (60 : Int32) = nI 60 from rfl, pk_mul]
    unfold fX5_quick_L51s fX5_quick_L51s_x8
    rw [nI_clamp (by omega), es, ew]
    exact ⟨k, r1, frm_ua h2 (by decide) _, rfl⟩
theorem op_quick {K : KV} {oc om : OV} (ou : OV) (h : RK K oc om) (p0 p1 p2 : Int32) : RK K oc (fX5_quick om p0 p1 p2).2 ∧ (fX4_quick oc ou p0 p1 p2).1 = (fX5_quick om p0 p1 p2).1 ∧ frm om (fX5_quick om p0 p1 p2).2 := by
  obtain ⟨hK, hC, hM⟩ := h
  unfold fX4_quick fX5_quick
  rw [in_wi (x := p2) (a := 1) (b := 100) (a' := 1) (b' := 100) (by decide) (by decide), in_wi (x := p1) (a := 0) (b := p2) (a' := 0) (by decide) (i64_eq p2), th_eq (oc := oc) (hM.1.1.trans (hC.1 2 (by decide)).symm)]
  by_cases g0 : fX0_isThere oc p0 = 0
  · rw [if_pos g0, if_pos g0]; exact ⟨⟨hK, hC, hM⟩, rfl, frm_rf om⟩
  rw [if_neg g0, if_neg g0]
  by_cases g1 : fX4_within p2 1 100 = 0
  · rw [if_pos g1, if_pos g1]; exact ⟨⟨hK, hC, hM⟩, rfl, frm_rf om⟩
  rw [if_neg g1, if_neg g1]
  by_cases g2 : fX4_within p1 0 p2 = 0
  · rw [if_pos g2, if_pos g2]; exact ⟨⟨hK, hC, hM⟩, rfl, frm_rf om⟩
  rw [if_neg g2, if_neg g2]
  obtain ⟨p, hp, rfl⟩ := vp_nI (it6 g0) (by decide)
  have ec := C_quick hK hC hp p1 p2 10 0 rfl ou
  obtain ⟨x, h1, h2, h3⟩ := M_quick hK hM hp p1 p2 10 (Nat.le_refl _)
  dsimp only
  rw [ec, nI_clamp (by omega), (hM.2.1 p hp).2.1, ← h3]
  generalize fX5_quick_L51 (nI p) p1 p2 (-6) om 10 = o at h1 h2 h3 ⊢
  refine ⟨⟨hK, hC, ?_⟩, rfl, frm_ua h2 (by decide) _⟩
  have := rM_sl h1 p (K.2 8 p)
  rwa [kua_tw, kua_id] at this
