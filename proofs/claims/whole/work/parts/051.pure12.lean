/-! PURE 12: reign, years -/
theorem fl_L (p : Int32) (f : Nat → Int32) : ∀ k, k < 1000 → ∀ j, fJ7_fill_53178_L5 p f k j = if j < k then p else f j := by
  intro k
  induction k with
  | zero => intro _ j; exact (if_neg (Nat.not_lt_zero j)).symm
  | succ k ih =>
    intro hk j
    show upd (fJ7_fill_53178_L5 p f k) (nI k).toNatClampNeg p j = _
    rw [nI_clamp (by omega)]
    show (if j = k then p else fJ7_fill_53178_L5 p f k j) = _
    by_cases e : j = k
    · rw [if_pos e, if_pos (show j < k + 1 by omega)]
    · rw [if_neg e, ih (by omega)]
      by_cases l : j < k
      · rw [if_pos l, if_pos (show j < k + 1 by omega)]
      · rw [if_neg l, if_neg (show ¬ j < k + 1 by omega)]
theorem fl_in {p : Int32} {f : Nat → Int32} {n j : Nat} (hn : n < 1000) (hj : j < n) : fJ7_fill_53178 n f p j = p := (fl_L p f n hn j).trans (if_pos hj)
theorem g0_L (om : OV) : ∀ k, k ≤ 9 → (fX5_goParts_L2 om k).1 = om.1 ∧ (∀ j, j ≠ 14 → (fX5_goParts_L2 om k).2 j = om.2 j) ∧ ∀ j, j < k → (fX5_goParts_L2 om k).2 14 j = 0 := by
  intro k
  induction k with
  | zero => intro _; exact ⟨rfl, fun _ _ => rfl, fun j hj => absurd hj (Nat.not_lt_zero j)⟩
  | succ k ih =>
    intro hk
    obtain ⟨h1, h2, h3⟩ := ih (by omega)
    refine ⟨h1, fun j hj => (ua_n hj).trans (h2 j hj), fun j hj => ?_⟩
    show (ua (fX5_goParts_L2 om k) 14 (nI k).toNatClampNeg 0).2 14 j = 0
    rw [nI_clamp (by omega), ua_rd]
    by_cases e : j = k
    · exact if_pos e
    · rw [if_neg e]; exact h3 j (by omega)
theorem kus_id (K : KV) (a : Nat) : kus K a (K.1 a) = K := Prod.ext (funext fun j => by
  show (if j = a then K.1 a else K.1 j) = K.1 j
  by_cases e : j = a
  · rw [if_pos e, e]
  · rw [if_neg e]) rfl
theorem kus_tw (K : KV) (a x y : Nat) : kus (kus K a x) a y = kus K a y := Prod.ext (funext fun j => by
  show (if j = a then y else (if j = a then x else K.1 j)) = (if j = a then y else K.1 j)
  by_cases e : j = a
  · rw [if_pos e, if_pos e]
  · rw [if_neg e, if_neg e, if_neg e]) rfl
theorem rM_rows {K : KV} {o om : OV} (h : rM K om) (h1 : o.1 = om.1) (h2 : ∀ j, j ≠ 14 → o.2 j = om.2 j) : rM K o := by
  refine ⟨by rw [h1]; exact h.1, fun j hj => ?_, fun j hj => ?_⟩
  · rw [h2 1 (by decide), h2 2 (by decide), h2 3 (by decide), h2 9 (by decide), h2 10 (by decide)]
    exact h.2.1 j hj
  · rw [h2 8 (by decide)]; exact h.2.2 j hj
theorem Y_begin {K : KV} {oc om : OV} (hK : kok K) (hC : rC K oc) (hM : rM K om) (oy od : OV) : rY K (fX1_begin oy od oc).1 (fX1_begin oy od oc).2 (us (us (fX5_goParts_L2 om 9) 15 0) 16 0) := by
  obtain ⟨h1, h2, h3⟩ := g0_L om 9 (Nat.le_refl _)
  refine ⟨K.1 3, K.1 3, 0, ⟨hK.1.2.2.2.1, hK.1.2.2.2.1, by decide⟩, ?_, ?_, rfl, rfl, us_s _ _ _, fun j _ t => absurd t (by simp), ?_, fun j hj => ?_⟩
  · rw [kus_id]
    exact rC_copy od hC
  · rw [kus_id]
    exact rM_free (rM_free (rM_rows hM h1 h2) (by decide) _) (by decide) _
  · rw [us_n (by decide), us_s]; rfl
  · show fJ7_fill_53178 9 (oy.2 1) 0 j = (fX5_goParts_L2 om 9).2 14 j
    rw [fl_in (by decide) hj, h3 j hj]
theorem go_all {K : KV} {oc om og : OV} (h : RK K oc om) {c : Nat} (hc : c ≤ 40) (hcc : og.1 1 = nI c) (hP : rP og om) (hv : fX2_firstFault_L4 og c 0 0 = -6) {p0 lim : Int32} (hl : (p0 < 0 ∧ lim = nI (pc og c)) ∨ ∃ m, m < 2 ^ 31 ∧ p0 = nI m ∧ lim = nI m) (oy od : OV) : (fX5_goParts om p0).1 = nI (pc og c) ∧ rM K (fX5_goParts om p0).2 ∧ frm om (fX5_goParts om p0).2 ∧ (fX1_play oy od oc og lim).2.1 2 = (fX5_goParts om p0).2.1 16 ∧ (fX1_play oy od oc og lim).2.1 3 = (fX5_goParts om p0).2.1 15 ∧ ∀ j, j < 9 → (fX1_play oy od oc og lim).2.2 1 j = (fX5_goParts om p0).2.2 14 j := by
  obtain ⟨hK, hC, hM⟩ := h
  obtain ⟨z1, z2, z3⟩ := g0_L om 9 (Nat.le_refl _)
  have hf : frm om (us (us (fX5_goParts_L2 om 9) 15 0) 16 0) := frm_usn (frm_usn ⟨congrFun z1 13, z2 12 (by decide), z2 20 (by decide), z2 21 (by decide)⟩ (by decide) _) (by decide) _
  have hY := Y_begin hK hC hM oy od
  have hcm : om.1 13 = nI c := by
    obtain ⟨d, d1, d2, d3, -⟩ := hP
    rw [d3, ← d2, hcc]
  obtain ⟨f1, f2, f3⟩ := M_facts (p0 := p0) hc hP hv hf c (Nat.le_refl _)
  have r := run_L hK hc hcc hP hv hf hl c 0 (Nat.zero_add c) (fX1_begin oy od oc).1 (fX1_begin oy od oc).2 hY
  have ep : fX1_play oy od oc og lim = fX1_play_L14 og lim c (0 : Nat) (nI (pc og 0)) (xs og 0) (fX1_begin oy od oc).1 (fX1_begin oy od oc).2 := by
    unfold fX1_play
    rw [hcc, nI_clamp (by omega)]
    rfl
  unfold fX5_goParts
  rw [ep, hcm, nI_clamp (by omega)]
  generalize fX1_play_L14 og lim c (0 : Nat) (nI (pc og 0)) (xs og 0) (fX1_begin oy od oc).1 (fX1_begin oy od oc).2 = y at r ⊢
  unfold MM at f1 f2 f3 r
  generalize fX5_goParts_L44 p0 0 0 (us (us (fX5_goParts_L2 om 9) 15 0) 16 0) c = o at f1 f2 f3 r ⊢
  obtain ⟨b, h, g, hb, h1, h2, h3, h4, h5, h6, h7, h8⟩ := r
  have e4 : (fX5_goParts_L2 om 9).1 4 = nI (K.1 3) := (congrFun z1 4).trans hM.1.2.1
  rw [e4]
  refine ⟨f1, ?_, frm_usn f3 (by decide) _, ?_, ?_, h8⟩
  · have w := rM_holes h2 (K.1 3)
    rwa [kus_tw, kus_id] at w
  · exact h4.trans (h5.symm.trans (us_n (by decide)).symm)
  · exact h7.trans (us_n (by decide)).symm
theorem ff_val {og : OV} {c : Nat} (hcc : og.1 1 = nI c) (hc : c ≤ 40) : ∀ n k x, k + n = c → fX2_firstFault_L4 og n k x = -6 ∨ ∃ j, j < 2 ^ 31 ∧ fX2_firstFault_L4 og n k x = nI j := by
  intro n
  induction n with
  | zero =>
    intro k x _
    show (if x = 0 then ((-6) : Int32) else (og.1 1)) = -6 ∨ ∃ j, j < 2 ^ 31 ∧ (if x = 0 then ((-6) : Int32) else (og.1 1)) = nI j
    by_cases e : x = 0
    · rw [if_pos e]; exact Or.inl rfl
    · rw [if_neg e]; exact Or.inr ⟨c, by omega, hcc⟩
  | succ n ih =>
    intro k x hk
    unfold fX2_firstFault_L4
    generalize (if x = 0 then (fX2_canBegin (fX2_sign og (nI k))) else (fX2_canFollow x (fX2_sign og (nI k)))) = z
    dsimp only
    by_cases e : z = 0
    · rw [if_pos e]; exact Or.inr ⟨k, by omega, rfl⟩
    · rw [if_neg e]; exact ih (k + 1) _ (by omega)
theorem ng {j : Nat} (h : j < 2 ^ 31) : ¬ nI j < 0 := fun z => by
  have := (fa_lt _ _).mp z
  rw [nI_toInt h, show (0 : Int32).toInt = 0 by decide] at this
  omega
theorem lim_of (x p0 : Int32) : (p0 < 0 ∧ x = x) ∨ ∃ m, m < 2 ^ 31 ∧ p0 = nI m := by
  by_cases e : p0 < 0
  · exact Or.inl ⟨e, rfl⟩
  · exact Or.inr (nI_of e)
theorem op_reign {K : KV} {oc om og : OV} (oy od : OV) (h : RK K oc om) (hP : rP og om) (p0 : Int32) : RK K oc (fX5_reign om p0).2 ∧ (fX4_reign oc og oy od p0).1 = (fX5_reign om p0).1 ∧ frm om (fX5_reign om p0).2 := by
  obtain ⟨c, hc, hcc, -, -⟩ := id hP
  have eff : fX2_firstFault og = fX2_firstFault_L4 og c 0 0 := by unfold fX2_firstFault; rw [hcc, nI_clamp (by omega)]
  unfold fX4_reign fX5_reign
  rw [← ft_eq hP, eff]
  rcases ff_val hcc hc c 0 0 (Nat.zero_add c) with hv | ⟨j, hj, hv⟩
  · rw [hv, if_pos rfl, if_pos (show (-6 : Int32) < 0 by decide)]
    have epc : fX2_parts og = nI (pc og c) := by unfold fX2_parts; rw [hcc, nI_clamp (by omega)]; exact pc_parts og c
    have hq := pc_le og c
    have hl : ∃ lim, (p0 < 0 ∧ lim = nI (pc og c)) ∨ ∃ m, m < 2 ^ 31 ∧ p0 = nI m ∧ lim = nI m := by
      by_cases e : p0 < 0
      · exact ⟨_, Or.inl ⟨e, rfl⟩⟩
      · obtain ⟨m, hm, e2⟩ := nI_of e
        exact ⟨nI m, Or.inr ⟨m, hm, e2, rfl⟩⟩
    obtain ⟨lim0, hl0⟩ := hl
    obtain ⟨a1, a2, a3, -⟩ := go_all h hc hcc hP hv hl0 oy od
    rw [in_wi (x := p0) (a := -1) (b := (fX5_goParts om p0).1) (a' := -1) (by decide) (i64_eq _), a1, epc]
    by_cases g : fX4_within p0 (-1) (nI (pc og c)) = 0
    · rw [if_pos g, if_pos g]
      exact ⟨⟨h.1, h.2.1, a2⟩, rfl, a3⟩
    · rw [if_neg g, if_neg g]
      have w := wi_pos g
      rw [show (-1 : Int32).toInt = -1 by decide] at w
      have hl1 : (p0 < 0 ∧ (if p0 = (-1) then nI (pc og c) else p0) = nI (pc og c)) ∨ ∃ m, m < 2 ^ 31 ∧ p0 = nI m ∧ (if p0 = (-1) then nI (pc og c) else p0) = nI m := by
        by_cases e : p0 < 0
        · have e2 : p0 = -1 := by
            apply Int32.toInt_inj.mp
            have := (fa_lt _ _).mp e
            rw [show (0 : Int32).toInt = 0 by decide] at this
            rw [show (-1 : Int32).toInt = -1 by decide]
            omega
          exact Or.inl ⟨e, if_pos e2⟩
        · obtain ⟨m, hm, e2⟩ := nI_of e
          refine Or.inr ⟨m, hm, e2, ?_⟩
          rw [if_neg (fun z => e (by rw [z]; decide))]
          exact e2
      obtain ⟨-, -, -, b4, -, -⟩ := go_all h hc hcc hP hv hl1 oy od
      refine ⟨⟨h.1, h.2.1, a2⟩, ?_, a3⟩
      dsimp only
      rw [b4]
  · rw [hv, if_neg (nn6 hj), if_neg (ng hj)]
    exact ⟨h, rfl, frm_rf om⟩
theorem op_years {K : KV} {oc om og : OV} (oy od : OV) (h : RK K oc om) (hP : rP og om) (p0 : Int32) : RK K oc (fX5_years om p0).2 ∧ (fX4_years oc og oy od p0).1 = (fX5_years om p0).1 ∧ frm om (fX5_years om p0).2 := by
  obtain ⟨c, hc, hcc, -, -⟩ := id hP
  have eff : fX2_firstFault og = fX2_firstFault_L4 og c 0 0 := by unfold fX2_firstFault; rw [hcc, nI_clamp (by omega)]
  unfold fX4_years fX5_years
  rw [← ft_eq hP, eff]
  rcases ff_val hcc hc c 0 0 (Nat.zero_add c) with hv | ⟨j, hj, hv⟩
  · rw [hv, if_pos rfl, if_pos (show (-6 : Int32) < 0 by decide), in_wi (x := p0) (a := 0) (b := 9) (a' := 0) (b' := 9) (by decide) (by decide)]
    have epc : fX2_parts og = nI (pc og c) := by unfold fX2_parts; rw [hcc, nI_clamp (by omega)]; exact pc_parts og c
    rw [epc]
    by_cases g : fX4_within p0 0 9 = 0
    · rw [if_pos g, if_pos g]; exact ⟨h, rfl, frm_rf om⟩
    rw [if_neg g, if_neg g]
    obtain ⟨a1, a2, a3, a4, a5, a6⟩ := go_all h hc hcc hP hv (p0 := -1) (lim := nI (pc og c)) (Or.inl ⟨by decide, rfl⟩) oy od
    refine ⟨⟨h.1, h.2.1, a2⟩, ?_, a3⟩
    dsimp only
    obtain ⟨v, -, hv2, rfl⟩ := wi_N (n := 0) (m := 9) (by decide) (by decide) g
    by_cases e : nI v = 9
    · rw [if_pos e, if_pos e]; exact a5
    · have hv9 : v < 9 := by
        by_cases z : v = 9
        · subst z; exact absurd rfl e
        · omega
      rw [if_neg e, if_neg e]
      unfold fX1_yearsOf
      have ew : fX4_within (nI v) 0 8 = 1 := (wi_nI (v := v) (a := 0) (b := 8) (by omega) (by decide) (by decide)).trans (if_pos (by omega))
      rw [ew, if_neg (show ¬ (1 : Int32) = 0 by decide), nI_clamp (by omega)]
      exact a6 v hv9
  · rw [hv, if_neg (nn6 hj), if_neg (ng hj)]
    exact ⟨h, rfl, frm_rf om⟩
