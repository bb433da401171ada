/-! PURE 9: one thing that happens in the history -/
def rY (K : KV) (od oy om : OV) : Prop := ∃ b h g : Nat, (b < 64 ∧ h < 64 ∧ g < 64) ∧ rC (kus K 3 b) od ∧ rM (kus K 3 h) om ∧ um (kus K 3 h) = um (kus K 3 b) ∧ oy.1 2 = nI g ∧ om.1 16 = nI g ∧ (∀ j, j < 6 → g.testBit j = true → (K.1 2).testBit j = true) ∧ oy.1 3 = om.1 15 ∧ ∀ j, j < 9 → oy.2 1 j = om.2 14 j
theorem rC_holes {K : KV} {b : Nat} {od : OV} (h : rC (kus K 3 b) od) (x : Nat) : rC (kus K 3 x) (us od 3 (nI x)) := ⟨fun k hk => by
  show (if k = 3 then nI x else od.1 k) = nI (if k = 3 then x else K.1 k)
  by_cases e : k = 3
  · rw [if_pos e, if_pos e]
  · rw [if_neg e, if_neg e]
    exact (h.1 k hk).trans (congrArg nI (if_neg e)), h.2.1, h.2.2⟩
theorem us_id (o : OV) (k : Nat) : us o k (o.1 k) = o := Prod.ext (funext fun j => by
  show (if j = k then o.1 k else o.1 j) = o.1 j
  split
  · rename_i e; rw [e]
  · rfl) rfl
theorem bec (oy : OV) (p : Int32) : fX1_become oy p = us (us oy 3 (if p = oy.1 2 then oy.1 3 else (if p = 0 then oy.1 3 else oy.1 3 + 1))) 2 p := by
  unfold fX1_become
  by_cases h1 : p = oy.1 2
  · rw [if_pos h1, if_pos h1, us_id]
  · rw [if_neg h1, if_neg h1]
    by_cases h2 : p = 0
    · rw [if_pos h2, if_pos h2, us_id]
    · rw [if_neg h2, if_neg h2]
theorem Y_rule {K : KV} {od oy om : OV} (hY : rY K od oy om) {s : Nat} (hs : s < 64) (ht : ∀ j, j < 6 → s.testBit j = true → (K.1 2).testBit j = true) : rY K od (fX1_become oy (nI s)) (fX5_rule om (nI s)) := by
  obtain ⟨b, h, g, hb, h1, h2, h3, h4, h5, h6, h7, h8⟩ := hY
  rw [bec]
  unfold fX5_rule
  refine ⟨b, h, s, ⟨hb.1, hb.2.1, hs⟩, h1, rM_free (rM_free h2 (by decide) _) (by decide) _, h3, us_s _ _ _, us_s _ _ _, ht, ?_, h8⟩
  rw [us_n (by decide), us_s, us_n (by decide), us_s, h4, h5, h7]
  by_cases e1 : nI s = nI g
  · rw [if_pos e1, if_pos e1, ite_self]
    exact (Int32.add_zero _).symm
  · rw [if_neg e1, if_neg e1]
    by_cases e2 : nI s = 0
    · rw [if_pos e2, if_pos e2]
      exact (Int32.add_zero _).symm
    · rw [if_neg e2, if_neg e2]
theorem Y_same {K : KV} {od oy om : OV} (hY : rY K od oy om) : rY K od oy (fX5_rule om (om.1 16)) := by
  obtain ⟨b, h, g, hb, h1, h2, h3, h4, h5, h6, h7, h8⟩ := hY
  unfold fX5_rule
  refine ⟨b, h, g, hb, h1, rM_free (rM_free h2 (by decide) _) (by decide) _, h3, h4, (us_s _ _ _).trans h5, h6, ?_, h8⟩
  rw [us_n (by decide), us_s, h7, if_pos rfl, ite_self]
  exact (Int32.add_zero _).symm
theorem Y_opened {K : KV} {od oy om : OV} (hY : rY K od oy om) {s : Nat} (hs : s < 64) (ht : ∀ j, j < 6 → s.testBit j = true → (K.1 2).testBit j = true) : rY K od (fX1_opened oy (nI s)) (fX5_rule om (if nI s = 0 then om.1 16 else nI s)) := by
  unfold fX1_opened
  by_cases e : nI s = 0
  · rw [if_pos e, if_pos e]; exact Y_same hY
  · rw [if_neg e, if_neg e]; exact Y_rule hY hs ht
theorem rl_in {K : KV} {u : Nat → Bool} {r p : Nat} (h : (rl (vo K u r)).testBit p = true) : u p = true := by
  rw [rl_tb] at h
  have t := of_decide_eq_true h
  by_cases e : u p = true
  · exact e
  · exfalso
    have : vo K u r p = 1000 := if_neg e
    omega
theorem um_in {K : KV} {p : Nat} (h : (um K).testBit p = true) : (K.1 2).testBit p = true := by
  unfold um at h
  rw [Nat.testBit_and] at h
  cases e : (K.1 2).testBit p
  · rw [e] at h; exact absurd h (by simp)
  · rfl
theorem Y_rain {K : KV} {od oy om : OV} (hK : kok K) (hY : rY K od oy om) {r : Nat} (hr : r < 10) : rY K od (fX1_rain oy od (nI r)) (fX5_rule om (if (fX5_rulersBy om (nI r)) = 0 then om.1 16 else (fX5_rulersBy om (nI r)))) := by
  obtain ⟨b, h, g, hb, h1, h2, h3, -⟩ := id hY
  have kb := kok_holes hK hb.1
  have e2 : fX5_rulersBy om (nI r) = nI (rl (vo (kus K 3 b) (um (kus K 3 b)).testBit r)) := by
    rw [M_rulers (kok_holes hK hb.2.1) h2 hr]
    unfold ru
    rw [h3]
    rfl
  unfold fX1_rain
  rw [C_umb kb h1, C_first kb h1 (um_lt kb) hr, e2]
  exact Y_opened hY (rl_lt _) (fun j _ t => um_in (K := kus K 3 b) (rl_in t))
theorem Y_sprinkle {K : KV} {od oy om : OV} (hK : kok K) (hY : rY K od oy om) {r : Nat} (hr : r < 10) : rY K od (fX1_opened oy (fX0_sprinkled od (nI r))) (fX5_rule om (if (fX5_sprinkledBy om (nI r)) = 0 then om.1 16 else (fX5_sprinkledBy om (nI r)))) := by
  obtain ⟨b, h, g, hb, h1, h2, h3, -⟩ := id hY
  have kb := kok_holes hK hb.1
  have e2 : fX5_sprinkledBy om (nI r) = nI (sk (kus K 3 b) (um (kus K 3 b)).testBit r) := by
    rw [M_sprinkled (kok_holes hK hb.2.1) h2 hr]
    unfold sk
    rw [h3]
    rfl
  rw [C_sprinkled kb h1 hr, e2]
  refine Y_opened hY (sk_lt _ _ _) (fun j _ t => ?_)
  have t2 := rl_in t
  simp only [Bool.and_eq_true] at t2
  exact um_in (K := kus K 3 b) t2.1
theorem um_k (K : KV) (x j : Nat) : (um (kus K 3 x)).testBit j = ((K.1 2).testBit j && (decide (j < 6) ^^ x.testBit j)) := by
  show (K.1 2 &&& (63 ^^^ x)).testBit j = _
  rw [Nat.testBit_and, Nat.testBit_xor, tb63]
theorem um_brk {K : KV} {h b p : Nat} (hp : p < 6) (hu : um (kus K 3 h) = um (kus K 3 b)) : um (kus K 3 (h ||| 2 ^ p)) = um (kus K 3 (b ||| 2 ^ p)) := by
  apply Nat.eq_of_testBit_eq
  intro j
  have q : (um (kus K 3 h)).testBit j = (um (kus K 3 b)).testBit j := by rw [hu]
  rw [um_k, um_k] at q ⊢
  rw [Nat.testBit_or, Nat.testBit_or, Nat.testBit_two_pow]
  by_cases e : p = j
  · subst e
    simp [hp]
  · rw [decide_eq_false e, Bool.or_false, Bool.or_false]
    exact q
theorem um_nob {K : KV} {h b p : Nat} (hn : (K.1 2).testBit p = false) (hu : um (kus K 3 h) = um (kus K 3 b)) : um (kus K 3 h) = um (kus K 3 (b ||| 2 ^ p)) := by
  rw [hu]
  apply Nat.eq_of_testBit_eq
  intro j
  rw [um_k, um_k, Nat.testBit_or, Nat.testBit_two_pow]
  by_cases e : p = j
  · subst e
    rw [hn]
    simp
  · rw [decide_eq_false e, Bool.or_false]
theorem Y_break {K : KV} {od oy om : OV} (hK : kok K) (hY : rY K od oy om) {p : Nat} (hp : p < 6) : rY K (fX1_breakUmbrella oy od (nI p)).1 (fX1_breakUmbrella oy od (nI p)).2 (if (fX5_isThere om (nI p)) = 0 then om else (fX5_rule (us om 4 ((om.1 4) ||| (1 <<< ((nI p) &&& 31)))) ((om.1 16) &&& ((1 <<< ((nI p) &&& 31)) ^^^ (-1))))) := by
  obtain ⟨b, h, g, hb, h1, h2, h3, h4, h5, h6, h7, h8⟩ := id hY
  have q := pw_lt hp
  have hbb : b ||| 2 ^ p < 64 := Nat.or_lt_two_pow (n := 6) hb.1 q
  have hhh : h ||| 2 ^ p < 64 := Nat.or_lt_two_pow (n := 6) hb.2.1 q
  have hd3 : od.1 3 = nI b := h1.1 3 (by decide)
  have eb : fX4_withBit (nI b) (nI p) 1 = nI (b ||| 2 ^ p) := by rw [wb_nI hb.1 hp]; rfl
  have eg : fX4_withBit (nI g) (nI p) 0 = nI (wbn g p 0) := wb_nI hb.2.2 hp 0
  have eg2 : (nI g &&& ((1 <<< ((nI p) &&& 31)) ^^^ (-1))) = nI (wbn g p 0) := eg
  have hin : ∀ j, j < 6 → (wbn g p 0).testBit j = true → (K.1 2).testBit j = true := fun j hj t => by
    rw [wbn_tb g hj] at t
    by_cases e : j = p
    · rw [if_pos e] at t; exact absurd t (by decide)
    · rw [if_neg e] at t; exact h6 j hj t
  have e0 : fX1_breakUmbrella oy od (nI p) = (us od 3 (nI (b ||| 2 ^ p)), fX1_become oy (nI (wbn g p 0))) := by
    unfold fX1_breakUmbrella
    rw [hd3, h4, eb, eg]
  rw [e0]
  dsimp only
  have hthere := M_there (kok_holes hK hb.2.1) h2 hp
  have e2 : (kus K 3 h).1 2 = K.1 2 := rfl
  rw [e2] at hthere
  by_cases t : (K.1 2).testBit p = true
  · rw [hthere, if_pos t, if_neg (show ¬ (1 : Int32) = 0 by decide), h5, eg2]
    have e4 : om.1 4 = nI h := h2.1.2.1
    rw [e4, or_pw hp]
    refine Y_rule ⟨b ||| 2 ^ p, h ||| 2 ^ p, g, ⟨hbb, hhh, hb.2.2⟩, rC_holes h1 _, ?_, um_brk hp h3, h4, (us_n (by decide)).trans h5, h6, h7.trans (us_n (by decide)).symm, h8⟩ (wbn_lt hb.2.2 hp 0) hin
    exact ⟨⟨h2.1.1, rfl, h2.1.2.2.1, h2.1.2.2.2.1, h2.1.2.2.2.2.1, h2.1.2.2.2.2.2⟩, h2.2.1, h2.2.2⟩
  · rw [hthere, if_neg t, if_pos rfl]
    have t' : (K.1 2).testBit p = false := by
      cases e : (K.1 2).testBit p
      · rfl
      · exact absurd e t
    have hg : wbn g p 0 = g := by
      apply Nat.eq_of_testBit_eq
      intro j
      by_cases hj : j < 6
      · rw [wbn_tb g hj]
        by_cases e : j = p
        · subst e
          rw [if_pos rfl]
          cases e3 : g.testBit j
          · decide
          · exact absurd (h6 j hj e3) t
        · rw [if_neg e]
      · have a1 : (wbn g p 0).testBit j = false := Nat.testBit_lt_two_pow (Nat.lt_of_lt_of_le (wbn_lt hb.2.2 hp 0) (Nat.pow_le_pow_right (n := 2) (i := 6) (by decide) (by omega)))
        have a2 : g.testBit j = false := Nat.testBit_lt_two_pow (Nat.lt_of_lt_of_le hb.2.2 (Nat.pow_le_pow_right (n := 2) (i := 6) (by decide) (by omega)))
        rw [a1, a2]
    rw [hg, bec, h4, if_pos rfl]
    exact ⟨b ||| 2 ^ p, h, g, ⟨hbb, hb.2.1, hb.2.2⟩, rC_holes h1 _, h2, um_nob t' h3, us_s _ _ _, h5, h6, (us_n (by decide)).trans ((us_s _ _ _).trans h7), h8⟩
-- years go
def kd (g c : Nat) : Nat → Int32
  | 0 => 0
  | k + 1 => kd g c k ||| (if (if g.testBit k then (1 : Int32) else 0) = 0 then (0 : Int32) else (1 <<< ((nI (if c.testBit k then 1 else 0)) &&& 31)))
theorem kd_6 : ∀ g, g < 64 → ∀ c, c < 64 → (kd g c 6 &&& 1 = 1 ↔ ¬ nI g &&& (nI c ^^^ (-1)) = 0) ∧ (kd g c 6 ≤ 1 ↔ nI g &&& nI c = 0) := by decide +kernel
theorem P_L {oy : OV} {p0 : Int32} {g : Nat} (hg : g < 64) (h4 : oy.1 2 = nI g) : ∀ k, k ≤ 6 → (fX1_pass_L2 p0 oy k).1 = oy.1 ∧ ∀ j, (fX1_pass_L2 p0 oy k).2 1 j = if j < k then oy.2 1 j + (if g.testBit j then p0 else 0) else oy.2 1 j := by
  intro k
  induction k with
  | zero => intro _; exact ⟨rfl, fun j => (if_neg (Nat.not_lt_zero j)).symm⟩
  | succ k ih =>
    intro hk
    obtain ⟨i1, i2⟩ := ih (by omega)
    refine ⟨i1, fun j => ?_⟩
    show (ua (fX1_pass_L2 p0 oy k) 1 (nI k).toNatClampNeg (((fX1_pass_L2 p0 oy k).2 1 (nI k).toNatClampNeg) + (if (fX4_hasBit ((fX1_pass_L2 p0 oy k).1 2) (nI k)) = 0 then (0 : Int32) else p0))).2 1 j = _
    rw [i1, h4, hb_nI (by omega) (by omega), nI_clamp (by omega), ua_s]
    show (if j = k then _ else (fX1_pass_L2 p0 oy k).2 1 j) = _
    by_cases e : j = k
    · subst e
      rw [if_pos rfl, if_pos (show j < j + 1 by omega), i2, if_neg (show ¬ j < j by omega)]
      cases g.testBit j <;> rfl
    · rw [if_neg e, i2]
      by_cases l : j < k
      · rw [if_pos l, if_pos (show j < k + 1 by omega)]
      · rw [if_neg l, if_neg (show ¬ j < k + 1 by omega)]
theorem G_L {K : KV} {om : OV} {p0 : Int32} {g : Nat} (hg : g < 64) (h5 : om.1 16 = nI g) (hM : rM K om) : ∀ k, k ≤ 6 → (fX5_goYears_L4 p0 0 om k).1 = kd g (K.1 4) k ∧ (fX5_goYears_L4 p0 0 om k).2.1 = om.1 ∧ (∀ j, j ≠ 14 → (fX5_goYears_L4 p0 0 om k).2.2 j = om.2 j) ∧ ∀ j, (fX5_goYears_L4 p0 0 om k).2.2 14 j = if j < k then om.2 14 j + (if g.testBit j then p0 else 0) else om.2 14 j := by
  intro k
  induction k with
  | zero => intro _; exact ⟨rfl, rfl, fun _ _ => rfl, fun j => (if_neg (Nat.not_lt_zero j)).symm⟩
  | succ k ih =>
    intro hk
    obtain ⟨i1, i2, i3, i4⟩ := ih (by omega)
    have eb : (if ((((fX5_goYears_L4 p0 0 om k).2.1 16) >>> ((nI k) &&& 31)) &&& 1) = 1 then (1 : Int32) else 0) = if g.testBit k then (1 : Int32) else 0 := by
      rw [i2, h5, shr1 (by omega) (by omega)]
      cases g.testBit k <;> rfl
    have e3 : (fX5_goYears_L4 p0 0 om k).2.2 3 (nI k).toNatClampNeg = nI (if (K.1 4).testBit k then 1 else 0) := by
      rw [i3 3 (by decide), nI_clamp (by omega)]
      exact (hM.2.1 k (by omega)).2.2.1
    refine ⟨?_, i2, fun j hj => ?_, fun j => ?_⟩
    · show ((fX5_goYears_L4 p0 0 om k).1 ||| (if (if ((((fX5_goYears_L4 p0 0 om k).2.1 16) >>> ((nI k) &&& 31)) &&& 1) = 1 then (1 : Int32) else 0) = 0 then (0 : Int32) else (1 <<< (((fX5_goYears_L4 p0 0 om k).2.2 3 (nI k).toNatClampNeg) &&& 31)))) = _
      rw [eb, e3, i1]
      rfl
    · exact (ua_n hj).trans (i3 j hj)
    · show (ua (fX5_goYears_L4 p0 0 om k).2 14 (nI k).toNatClampNeg (((fX5_goYears_L4 p0 0 om k).2.2 14 (nI k).toNatClampNeg) + (if (if ((((fX5_goYears_L4 p0 0 om k).2.1 16) >>> ((nI k) &&& 31)) &&& 1) = 1 then (1 : Int32) else 0) = 0 then (0 : Int32) else p0))).2 14 j = _
      rw [eb, nI_clamp (by omega), ua_s]
      show (if j = k then _ else (fX5_goYears_L4 p0 0 om k).2.2 14 j) = _
      by_cases e : j = k
      · subst e
        rw [if_pos rfl, if_pos (show j < j + 1 by omega), i4, if_neg (show ¬ j < j by omega)]
        cases g.testBit j <;> rfl
      · rw [if_neg e, i4]
        by_cases l : j < k
        · rw [if_pos l, if_pos (show j < k + 1 by omega)]
        · rw [if_neg l, if_neg (show ¬ j < k + 1 by omega)]
theorem ua_rd (o : OV) (a i j : Nat) (v : Int32) : (ua o a i v).2 a j = if j = i then v else o.2 a j := by rw [ua_s]; rfl
theorem Y_pass {K : KV} {od oy om : OV} (hK : kok K) (hY : rY K od oy om) (y : Int32) : rY K od (fX1_pass oy od y) (fX5_goYears om y) := by
  obtain ⟨b, h, g, hb, h1, h2, h3, h4, h5, h6, h7, h8⟩ := hY
  obtain ⟨i1, i2⟩ := P_L (p0 := y) hb.2.2 h4 6 (Nat.le_refl _)
  obtain ⟨j1, j2, j3, j4⟩ := G_L (p0 := y) hb.2.2 h5 h2 6 (Nat.le_refl _)
  have hc := hK.1.2.2.2.2.1
  obtain ⟨k1, k2⟩ := kd_6 g hb.2.2 (K.1 4) hc
  unfold fX1_pass fX5_goYears
  generalize fX1_pass_L2 y oy 6 = o at i1 i2 ⊢
  have e4 : (kus K 3 h).1 4 = K.1 4 := rfl
  rw [e4] at j1
  generalize fX5_goYears_L4 y 0 om 6 = m at j1 j2 j3 j4 ⊢
  obtain ⟨m1, m2⟩ := m
  dsimp only at j1 j2 j3 j4 ⊢
  have hd4 : od.1 4 = nI (K.1 4) := h1.1 4 (by decide)
  rw [i1, h4, hd4, j1, j2, h5]
  have x6 : (if (kd g (K.1 4) 6 &&& 1) = 1 then y else 0) = (if (nI g &&& (nI (K.1 4) ^^^ (-1))) = 0 then (0 : Int32) else y) := by
    by_cases c : (nI g &&& (nI (K.1 4) ^^^ (-1))) = 0
    · rw [if_pos c, if_neg (fun z => k1.mp z c)]
    · rw [if_neg c, if_pos (k1.mpr c)]
  have x7 : (if kd g (K.1 4) 6 ≤ 1 then (0 : Int32) else y) = (if (nI g &&& nI (K.1 4)) = 0 then (0 : Int32) else y) := by
    by_cases c : (nI g &&& nI (K.1 4)) = 0
    · rw [if_pos c, if_pos (k2.mpr c)]
    · rw [if_neg c, if_neg (fun z => c (k2.mp z))]
  rw [x6, x7]
  have t6 : (6 : Int32).toNatClampNeg = 6 := rfl
  have t7 : (7 : Int32).toNatClampNeg = 7 := rfl
  have t8 : (8 : Int32).toNatClampNeg = 8 := rfl
  rw [t6, t7, t8]
  generalize (if (nI g &&& (nI (K.1 4) ^^^ (-1))) = 0 then (0 : Int32) else y) = v6
  generalize (if (nI g &&& nI (K.1 4)) = 0 then (0 : Int32) else y) = v7
  generalize (if nI g = 0 then y else 0) = v8
  have hj : ∀ j, j < 9 → o.2 1 j = m2.2 14 j := fun j hj => by rw [i2, j4, h8 j hj]
  refine ⟨b, h, g, hb, h1, ?_, h3, ?_, ?_, h6, ?_, fun j hj9 => ?_⟩
  · have r1 : ∀ j, j ≠ 14 → (ua (ua (ua m2 14 6 (m2.2 14 6 + v6)) 14 7 ((ua m2 14 6 (m2.2 14 6 + v6)).2 14 7 + v7)) 14 8 ((ua (ua m2 14 6 (m2.2 14 6 + v6)) 14 7 ((ua m2 14 6 (m2.2 14 6 + v6)).2 14 7 + v7)).2 14 8 + v8)).2 j = om.2 j := fun j hj => (ua_n hj).trans ((ua_n hj).trans ((ua_n hj).trans (j3 j hj)))
    refine ⟨?_, fun j hj => ?_, fun j hj => ?_⟩
    · show (m2.1 0 = _ ∧ m2.1 4 = _ ∧ m2.1 5 = _ ∧ m2.1 6 = _ ∧ m2.1 7 = _ ∧ m2.1 11 = _)
      rw [j2]
      exact h2.1
    · rw [r1 1 (by decide), r1 2 (by decide), r1 3 (by decide), r1 9 (by decide), r1 10 (by decide)]
      exact h2.2.1 j hj
    · rw [r1 8 (by decide)]
      exact h2.2.2 j hj
  · exact (congrFun i1 2).trans h4
  · exact (congrFun j2 16).trans h5
  · exact (congrFun i1 3).trans (h7.trans (congrFun j2 15).symm)
  · simp only [ua_rd]
    rw [hj j hj9, hj 6 (by decide), hj 7 (by decide), hj 8 (by decide)]
