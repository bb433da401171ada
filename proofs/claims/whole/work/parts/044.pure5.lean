/-! PURE 5: sights, what is told, never, coups -/
theorem op_forget {K : KV} {oc om : OV} (h : RK K oc om) : ∃ K', RK K' (fX4_forget oc).2 (fX5_forget om).2 ∧ (fX4_forget oc).1 = (fX5_forget om).1 ∧ frm om (fX5_forget om).2 := by
  obtain ⟨hK, hC, hM⟩ := h
  exact ⟨kus K 6 0, ⟨kok_sights hK (by decide), rC_us hC 6 0, rM_sights hM 0⟩, (hC.1 6 (by decide)).trans hM.1.2.2.2.2.2.symm, ⟨rfl, rfl, rfl, rfl⟩⟩
theorem kok_sight {K : KV} (h : kok K) {i hw f : Nat} (h1 : hw < 3) (h2 : f < 64) (h3 : hw ≠ 0 → f < 6) : kok (kua (kua K 10 i hw) 11 i f) := by
  refine ⟨h.1, fun j hj => ?_, h.2.2⟩
  have q := h.2.1 j hj
  refine ⟨q.1, q.2.1, ?_⟩
  show (if j = i then hw else K.2 10 j) < 3 ∧ (if j = i then f else K.2 11 j) < 64 ∧ ((if j = i then hw else K.2 10 j) ≠ 0 → (if j = i then f else K.2 11 j) < 6)
  by_cases e : j = i
  · rw [if_pos e, if_pos e]; exact ⟨h1, h2, h3⟩
  · rw [if_neg e, if_neg e]; exact q.2.2
def aM (om : OV) (p0 p1 : Int32) : Int32 × OV :=
  if (om.1 11) = 6 then
    (((-4) : Int32), om)
  else
    (((om.1 11) + 1), (us (ua (ua om 9 (om.1 11).toNatClampNeg p0) 10 (om.1 11).toNatClampNeg p1) 11 ((om.1 11) + 1)))
def aC (oc : OV) (p0 p1 : Int32) : Int32 × OV := ((if (fX0_addSight oc p0 p1).1 = 0 then ((-4) : Int32) else ((fX0_addSight oc p0 p1).2.1 6)), (fX0_addSight oc p0 p1).2)
theorem op_add {K : KV} {oc om : OV} (h : RK K oc om) {hw f : Nat} (h1 : hw < 3) (h2 : f < 64) (h3 : hw ≠ 0 → f < 6) : ∃ K', RK K' (aC oc (nI hw) (nI f)).2 (aM om (nI hw) (nI f)).2 ∧ (aC oc (nI hw) (nI f)).1 = (aM om (nI hw) (nI f)).1 ∧ frm om (aM om (nI hw) (nI f)).2 := by
  obtain ⟨hK, hC, hM⟩ := h
  have h6 := hK.1.2.2.2.2.2.2
  unfold aC aM fX0_addSight
  rw [hC.1 6 (by decide), hM.1.2.2.2.2.2]
  have ew : fX4_within (nI (K.1 6)) 0 5 = if 0 ≤ K.1 6 ∧ K.1 6 ≤ 5 then (1 : Int32) else 0 := wi_nI (a := 0) (b := 5) (by omega) (by decide) (by decide)
  by_cases e : K.1 6 = 6
  · have g : fX4_within (nI (K.1 6)) 0 5 = 0 := ew.trans (if_neg (by omega))
    have g2 : nI (K.1 6) = 6 := by rw [e]; rfl
    rw [if_pos g, if_pos g2]
    exact ⟨K, ⟨hK, hC, hM⟩, rfl, frm_rf om⟩
  · have g : ¬ fX4_within (nI (K.1 6)) 0 5 = 0 := by
      rw [ew, if_pos (by omega)]
      decide
    rw [if_neg g, if_neg (show ¬ nI (K.1 6) = 6 from fun z => e ((nI_eq (b := 6) (by omega) (by decide)).mp z)), nI_clamp (by omega), nI_1]
    have hC' := rC_us (rC_ua (rC_ua hC 10 (K.1 6) hw) 11 (K.1 6) f) 6 (K.1 6 + 1)
    have hM' := rM_sights (rM_ua (a := 11) (a' := 10) (rM_ua (a := 10) (a' := 9) hM (K.1 6) hw (by decide) (by decide) (by decide) (by decide) (by decide) (by decide)) (K.1 6) f (by decide) (by decide) (by decide) (by decide) (by decide) (by decide)) (K.1 6 + 1)
    exact ⟨_, ⟨kok_sights (kok_sight hK h1 h2 h3) (by omega), hC', hM'⟩, rfl, ⟨rfl, rfl, rfl, rfl⟩⟩
theorem op_seen {K : KV} {oc om : OV} (h : RK K oc om) (p0 p1 : Int32) : ∃ K', RK K' (fX4_seen oc p0 p1).2 (fX5_seen om p0 p1).2 ∧ (fX4_seen oc p0 p1).1 = (fX5_seen om p0 p1).1 ∧ frm om (fX5_seen om p0 p1).2 := by
  have base : ∀ x : Int32, ∃ K', RK K' (x, oc).2 (x, om).2 ∧ (x, oc).1 = (x, om).1 ∧ frm om (x, om).2 := fun x => ⟨K, h, rfl, frm_rf om⟩
  unfold fX4_seen fX5_seen
  rw [in_wi (x := p0) (a := 1) (b := 2) (a' := 1) (b' := 2) (by decide) (by decide), in_wi (x := p0) (a := 0) (b := 2) (a' := 0) (b' := 2) (by decide) (by decide), in_wi (x := p1) (a := 0) (b := 63) (a' := 0) (b' := 63) (by decide) (by decide), ps_eq]
  by_cases g12 : fX4_within p0 1 2 = 0
  · rw [if_pos g12, if_pos g12]
    by_cases g02 : fX4_within p0 0 2 = 0
    · rw [if_pos g02, if_pos g02]; exact base _
    · rw [if_neg g02, if_neg g02]
      obtain ⟨v, -, hv, rfl⟩ := wi_N (n := 0) (m := 2) (by decide) (by decide) g02
      have hv0 : v = 0 := by
        have ew : fX4_within (nI v) 1 2 = if 1 ≤ v ∧ v ≤ 2 then (1 : Int32) else 0 := wi_nI (a := 1) (b := 2) (by omega) (by decide) (by decide)
        rw [ew] at g12
        by_cases c : 1 ≤ v ∧ v ≤ 2
        · rw [if_pos c] at g12; exact absurd g12 (by decide)
        · omega
      subst hv0
      rw [if_pos (show nI 0 = 0 from rfl), if_pos (show nI 0 = 0 from rfl)]
      by_cases g63 : fX4_within p1 0 63 = 0
      · rw [if_pos g63, if_pos g63]; exact base _
      · rw [if_neg g63, if_neg g63]
        obtain ⟨f, -, hf, rfl⟩ := wi_N (n := 0) (m := 63) (by decide) (by decide) g63
        exact op_add h (hw := 0) (f := f) (by decide) (by omega) (fun z => absurd rfl z)
  · rw [if_neg g12, if_neg g12]
    by_cases g5 : fX4_within p1 0 5 = 0
    · rw [if_pos g5, if_pos g5]; exact base _
    · rw [if_neg g5, if_neg g5]
      obtain ⟨f, -, hf, rfl⟩ := wi_N (n := 0) (m := 5) (by decide) (by decide) g5
      obtain ⟨v, hv1, hv2, rfl⟩ := wi_N (n := 1) (m := 2) (by decide) (by decide) g12
      have e2 : fX4_within (nI v) 0 2 = 1 := (wi_nI (v := v) (a := 0) (b := 2) (by omega) (by decide) (by decide)).trans (if_pos (by omega))
      have n0 : ¬ nI v = 0 := fun z => by have := (nI_eq (b := 0) (by omega) (by decide)).mp z; omega
      rw [e2, if_neg (show ¬ (1 : Int32) = 0 by decide), if_neg (show ¬ (1 : Int32) = 0 by decide), if_neg n0, if_neg n0]
      exact op_add h (hw := v) (f := f) (by omega) (by omega) (fun _ => by omega)
-- never
theorem nv_0 (t : Int32) : t &&& (0 ^^^ (-1)) = t := by
  have : (0 : Int32) ^^^ (-1) = -1 := by decide
  rw [this]
  apply Int32.toBitVec_inj.mp
  apply BitVec.eq_of_getLsbD_eq
  intro i hi
  rw [Int32.toBitVec_and, BitVec.getLsbD_and]
  have : (-1 : Int32).toBitVec = BitVec.allOnes 32 := by decide
  rw [this, BitVec.getLsbD_allOnes]
  simp [hi]
theorem nv_s (t o b : Int32) : (t &&& (o ^^^ (-1))) &&& (b ^^^ (-1)) = t &&& ((o ||| b) ^^^ (-1)) := by
  apply Int32.toBitVec_inj.mp
  apply BitVec.eq_of_getLsbD_eq
  intro i hi
  have e : (-1 : Int32).toBitVec = BitVec.allOnes 32 := by decide
  simp only [Int32.toBitVec_and, Int32.toBitVec_xor, Int32.toBitVec_or, e, BitVec.getLsbD_and, BitVec.getLsbD_xor, BitVec.getLsbD_or, BitVec.getLsbD_allOnes, hi, decide_true]
  cases t.toBitVec.getLsbD i <;> cases o.toBitVec.getLsbD i <;> cases b.toBitVec.getLsbD i <;> rfl
theorem nv_L {K : KV} {oc om : OV} (h : RK K oc om) (t : Int32) : ∀ k, k ≤ 10 → fX4_never_L10 oc t k = t &&& ((fX5_never_L4 om 0 k) ^^^ (-1)) := by
  intro k
  induction k with
  | zero => intro _; exact (nv_0 t).symm
  | succ k ih =>
    intro hk
    show (fX4_never_L10 oc t k) &&& ((fX0_rulers oc (nI k)) ^^^ (-1)) = t &&& (((fX5_never_L4 om 0 k) ||| (fX5_rulersBy om (nI k))) ^^^ (-1))
    rw [ih (by omega), E_rulers h.1 h.2.1 h.2.2 (by omega)]
    exact nv_s _ _ _
theorem op_never {K : KV} {oc om : OV} (h : RK K oc om) : fX4_never oc = fX5_never om := by
  have e := nv_L h (oc.1 2) 10 (Nat.le_refl _)
  unfold fX4_never fX5_never
  rw [e, h.2.2.1.1, h.2.1.1 2 (by decide)]
-- coups
theorem sk_at {K : KV} (u : Nat → Bool) {a p : Nat} (ha : K.2 7 p ≠ a) (hK : kok K) (h10 : a < 10) (hp : p < 6) : sk K u a ≠ 2 ^ p := by
  intro e
  have t : (sk K u a).testBit p = true := by rw [e, Nat.testBit_two_pow_self]
  unfold sk at t
  rw [rl_tb] at t
  have t2 := of_decide_eq_true t
  have v : vo K (fun p => u p && decide (K.2 7 p = a)) a p = 1000 := by
    unfold vo
    exact if_neg (show ¬ (u p && decide (K.2 7 p = a)) = true by rw [decide_eq_false ha, Bool.and_false]; exact Bool.false_ne_true)
  omega
theorem cp_L {K : KV} {om : OV} (hK : kok K) (hM : rM K om) {p : Nat} (hp : p < 6) : ∀ n k, k + n = 10 → fX5_coup_L12 om (nI p) n k = if k ≤ K.2 7 p ∧ sk K (um K).testBit (K.2 7 p) = 2 ^ p then nI (K.2 7 p) else (-6) := by
  have hpl := (hK.2.1 p hp).1
  intro n
  induction n with
  | zero =>
    intro k hk
    rw [if_neg (by omega)]
    rfl
  | succ n ih =>
    intro k hk
    show (if (fX5_sprinkledBy om (nI k)) = (1 <<< ((nI p) &&& 31)) then (nI k) else fX5_coup_L12 om (nI p) n (k + 1)) = _
    rw [M_sprinkled hK hM (by omega), pw6 p hp, ih (k + 1) (by omega)]
    have hs := sk_lt K (um K).testBit k
    have hq := pw_lt hp
    by_cases e : sk K (um K).testBit k = 2 ^ p
    · rw [if_pos (by rw [e])]
      have ek : K.2 7 p = k := by
        by_cases z : K.2 7 p = k
        · exact z
        · exact absurd e (sk_at _ z hK (by omega) hp)
      rw [ek, if_pos ⟨Nat.le_refl _, e⟩]
    · rw [if_neg (show ¬ nI (sk K (um K).testBit k) = nI (2 ^ p) from fun z => e ((nI_eq (by omega) (by omega)).mp z))]
      by_cases c : k ≤ K.2 7 p ∧ sk K (um K).testBit (K.2 7 p) = 2 ^ p
      · have : K.2 7 p ≠ k := fun z => e (by rw [← z]; exact c.2)
        rw [if_pos c, if_pos ⟨by omega, c.2⟩]
      · rw [if_neg c, if_neg (fun z => c ⟨by omega, z.2⟩)]
theorem op_coup {K : KV} {oc om : OV} (h : RK K oc om) (p0 : Int32) : fX4_coup oc p0 = fX5_coup om p0 := by
  obtain ⟨hK, hC, hM⟩ := h
  unfold fX4_coup fX5_coup
  rw [th_eq (oc := oc) (hM.1.1.trans (hC.1 2 (by decide)).symm)]
  by_cases g0 : fX0_isThere oc p0 = 0
  · rw [if_pos g0, if_pos g0]
  rw [if_neg g0, if_neg g0]
  obtain ⟨p, hp, rfl⟩ := vp_nI (it6 g0) (by decide)
  have hpl := (hK.2.1 p hp).1
  rw [cp_L hK hM hp 10 0 rfl, nI_clamp (by omega), (hC.2.1 p hp).1, C_sprinkled hK hC hpl, pw6 p hp]
  have hs := sk_lt K (um K).testBit (K.2 7 p)
  have hq := pw_lt hp
  by_cases e : sk K (um K).testBit (K.2 7 p) = 2 ^ p
  · rw [if_pos (by rw [e]), if_pos ⟨Nat.zero_le _, e⟩]
  · rw [if_neg (show ¬ nI (sk K (um K).testBit (K.2 7 p)) = nI (2 ^ p) from fun z => e ((nI_eq (by omega) (by omega)).mp z)), if_neg (fun z => e z.2)]
-- opens, rules
theorem C_open {K : KV} {oc : OV} (hK : kok K) (hC : rC K oc) {p r : Nat} (hp : p < 6) (hr : r < 10) : fX0_openTime oc (nI p) (nI r) = nI (tm K (K.2 7 p) (K.2 8 p) r) := by
  have q := hK.2.1 p hp
  have qc := hC.2.1 p hp
  unfold fX0_openTime
  rw [if_neg (psn p hp), nI_clamp (by omega), qc.1, qc.2.1, C_time hK hC q.1 q.2.1 hr]
theorem op_opens {K : KV} {oc om : OV} (h : RK K oc om) (p0 p1 : Int32) : fX4_opens oc p0 p1 = fX5_opens om p0 p1 := by
  obtain ⟨hK, hC, hM⟩ := h
  unfold fX4_opens fX5_opens
  rw [th_eq (oc := oc) (hM.1.1.trans (hC.1 2 (by decide)).symm), pl_eq]
  by_cases g0 : fX0_isThere oc p0 = 0
  · rw [if_pos g0, if_pos g0]
  rw [if_neg g0, if_neg g0]
  by_cases g1 : fX4_isPlace p1 = 0
  · rw [if_pos g1, if_pos g1]
  rw [if_neg g1, if_neg g1]
  obtain ⟨p, hp, rfl⟩ := vp_nI (it6 g0) (by decide)
  obtain ⟨r, hr, rfl⟩ := vp_nI (ip4 g1) (by decide)
  have q := hK.2.1 p hp
  have ht : (K.1 2).testBit p = true := by
    cases e : (K.1 2).testBit p
    · exfalso
      have z := M_there hK hM hp
      rw [th_eq (oc := oc) (hM.1.1.trans (hC.1 2 (by decide)).symm), e] at z
      exact g0 z
    · rfl
  have hh := hK.1.2.2.2.1
  have hb : fX4_hasBit (oc.1 3) (nI p) = if (K.1 3).testBit p then (1 : Int32) else 0 := by rw [hC.1 3 (by decide)]; exact hb_nI (by omega) (by omega)
  have ht100 := tm_lt hK q.1 q.2.1 hr
  rw [hb, M_opens hK hM hp hr, C_open hK hC hp hr]
  unfold vo
  rw [um_tb K hp, ht]
  cases e : (K.1 3).testBit p
  · rw [if_pos (show (if false = true then (1 : Int32) else 0) = 0 from rfl), if_pos (show (true && !false) = true from rfl), if_neg (show ¬ nI (tm K (K.2 7 p) (K.2 8 p) r) = 1000 from fun z => by have := (nI_eq (b := 1000) (by omega) (by decide)).mp z; omega)]
  · rfl
theorem fp_some : ∀ b, b < 64 → b ≠ 0 → ∃ p, p < 6 ∧ b.testBit p = true ∧ fX4_firstPerson (nI b) = nI p := by decide +kernel
theorem op_rules {K : KV} {oc om : OV} (h : RK K oc om) (p0 p1 : Int32) : fX4_rules oc p0 p1 = fX5_rules om p0 p1 := by
  obtain ⟨hK, hC, hM⟩ := h
  unfold fX4_rules fX5_rules
  rw [in_wi (x := p1) (a := 0) (b := 1) (a' := 0) (b' := 1) (by decide) (by decide), pl_eq]
  by_cases g0 : fX4_isPlace p0 = 0
  · rw [if_pos g0, if_pos g0]
  rw [if_neg g0, if_neg g0]
  by_cases g1 : fX4_within p1 0 1 = 0
  · rw [if_pos g1, if_pos g1]
  rw [if_neg g1, if_neg g1]
  obtain ⟨r, hr, rfl⟩ := vp_nI (ip4 g0) (by decide)
  have hl := ru_lt K r
  have hm := mn_1000 (vo K (um K).testBit r) 6
  rw [C_rulers hK hC hr, M_first hK hM hr, M_rulers hK hM hr]
  by_cases e : ru K r = 0
  · have e2 := (rl_0 _).mp e
    rw [if_pos (show nI (ru K r) = 0 by rw [e]; rfl), if_pos (show nI (mn (vo K (um K).testBit r) 6) = 1000 by rw [e2]; rfl)]
  · have e2 : ¬ mn (vo K (um K).testBit r) 6 = 1000 := fun z => e ((rl_0 _).mpr z)
    rw [if_neg (show ¬ nI (ru K r) = 0 from fun z => e ((nI_eq (b := 0) (by omega) (by decide)).mp z)), if_neg (show ¬ nI (mn (vo K (um K).testBit r) 6) = 1000 from fun z => e2 ((nI_eq (b := 1000) (by omega) (by decide)).mp z))]
    obtain ⟨p, hp, ht, hf⟩ := fp_some _ hl e
    rw [hf, C_open hK hC hp hr]
    have t := of_decide_eq_true ((rl_tb (vo K (um K).testBit r)).symm.trans ht)
    have ev : tm K (K.2 7 p) (K.2 8 p) r = mn (vo K (um K).testBit r) 6 := by
      have t2 := t.2.1
      unfold vo at t2
      by_cases u : (um K).testBit p = true
      · rw [if_pos u] at t2; exact t2
      · rw [if_neg u] at t2
        unfold vo at e2
        omega
    rw [ev]
-- what is told
theorem tl_8 : ∀ n, n < 60 → (nI (n + 20) / 10 - 2 = nI (n / 10) ∧ nI (n + 20) - nI (n + 20) / 10 * 10 = nI (n % 10)) ∧ (nI (n + 20) - 20) / 10 = nI (n / 10) ∧ (nI (n + 20) - 20) - (nI (n + 20) - 20) / 10 * 10 = nI (n % 10) := by decide +kernel
theorem tl_p {K : KV} {oc om : OV} (hK : kok K) (hC : rC K oc) (hM : rM K om) {n : Nat} (hn : n < 60) : fX4_toldOfPerson oc (nI (n / 10)) (nI (n % 10)) = fX5_told_is9 om (nI (n + 20)) (if (fX5_isThere om ((nI (n + 20) / 10) - 2)) = 0 then (0 : Int32) else (if 4 ≤ (nI (n + 20) - nI (n + 20) / 10 * 10) then (0 : Int32) else 1)) := by
  obtain ⟨⟨e1, e2⟩, -, -⟩ := tl_8 n hn
  have hp : n / 10 < 6 := by omega
  have hq : n % 10 < 10 := Nat.mod_lt _ (by decide)
  unfold fX5_told_is9 fX4_toldOfPerson
  rw [e1, e2]
  generalize n / 10 = p at hp
  generalize n % 10 = q at hq
  have m := hM.2.1 p hp
  have c := hC.2.1 p hp
  have b4 : fX4_hasBit (oc.1 4) (nI p) = if (K.1 4).testBit p then (1 : Int32) else 0 := by
    rw [hC.1 4 (by decide)]
    have := hK.1.2.2.2.2.1
    exact hb_nI (by omega) (by omega)
  have b3 : fX4_hasBit (oc.1 3) (nI p) = if (K.1 3).testBit p then (1 : Int32) else 0 := by
    rw [hC.1 3 (by decide)]
    have := hK.1.2.2.2.1
    exact hb_nI (by omega) (by omega)
  have b5 : ((om.1 4) >>> ((nI p) &&& 31)) &&& 1 = if (K.1 3).testBit p then (1 : Int32) else 0 := by
    rw [hM.1.2.1]
    have := hK.1.2.2.2.1
    exact shr1 (by omega) (by omega)
  rw [th_eq (oc := oc) (hM.1.1.trans (hC.1 2 (by decide)).symm), nI_clamp (by omega), m.1, m.2.1, m.2.2.1, c.1, c.2.1, b3, b4, b5]
  by_cases g : fX0_isThere oc (nI p) = 0
  · rw [if_pos g, if_pos g, if_pos rfl]
  rw [if_neg g, if_neg g]
  have hz : q = 0 ∨ q = 1 ∨ q = 2 ∨ q = 3 ∨ 4 ≤ q := by omega
  rcases hz with rfl | rfl | rfl | rfl | hz
  · rfl
  · rfl
  · cases (K.1 4).testBit p <;> rfl
  · cases (K.1 3).testBit p <;> rfl
  · have z : ∀ j : Nat, j < 4 → ¬ nI q = nI j := fun j hj w => by have := (nI_eq (by omega) (by omega)).mp w; omega
    rw [if_pos (show (4 : Int32) ≤ nI q from nI_le (a := 4) hz (by omega)), if_pos rfl, if_neg (show ¬ nI q = 0 from z 0 (by decide)), if_neg (show ¬ nI q = 1 from z 1 (by decide)), if_neg (show ¬ nI q = 2 from z 2 (by decide)), if_neg (show ¬ nI q = 3 from z 3 (by decide))]
theorem op_told {K : KV} {oc om og : OV} (h : RK K oc om) (hp : rP og om) (p0 : Int32) : fX4_told oc og p0 = fX5_told om p0 := by
  obtain ⟨hK, hC, hM⟩ := h
  obtain ⟨c, -, hg1, hg2, -⟩ := hp
  unfold fX4_told fX5_told
  rw [in_wi (x := p0) (a := 10) (b := 19) (a' := 10) (b' := 19) (by decide) (by decide), in_wi (x := p0) (a := 20) (b := 79) (a' := 20) (b' := 79) (by decide) (by decide)]
  by_cases e0 : p0 = 0
  · subst e0; exact hg1.trans hg2.symm
  by_cases e1 : p0 = 1
  · subst e1; exact (hC.1 2 (by decide)).trans hM.1.1.symm
  by_cases e2 : p0 = 2
  · subst e2; exact (hC.1 0 (by decide)).trans hM.1.2.2.2.1.symm
  by_cases e3 : p0 = 3
  · subst e3; exact (hC.1 1 (by decide)).trans hM.1.2.2.2.2.1.symm
  by_cases e4 : p0 = 4
  · subst e4; exact (hC.1 5 (by decide)).trans hM.1.2.2.1.symm
  by_cases e5 : p0 = 5
  · subst e5; exact (hC.1 6 (by decide)).trans hM.1.2.2.2.2.2.symm
  rw [if_neg e0, if_neg e0, if_neg e1, if_neg e1, if_neg e2, if_neg e2, if_neg e3, if_neg e3, if_neg e4, if_neg e4, if_neg e5, if_neg e5]
  by_cases g1 : fX4_within p0 10 19 = 0
  · rw [if_pos g1, if_pos g1]
    by_cases g2 : fX4_within p0 20 79 = 0
    · rw [if_pos g2]
      by_cases l : 20 ≤ p0
      · rw [if_pos l]
        have z0 : (0 : Int32).toInt = 0 := by decide
        have z20 : (20 : Int32).toInt = 20 := by decide
        have l0 := (fa_le _ _).mp l
        obtain ⟨n, hn, rfl⟩ := nI_of (x := p0) (fun w => by have := (fa_lt _ _).mp w; omega)
        have l2 : 20 ≤ n := (nI_leI (a := 20) (by decide) hn).mp l
        have ew : fX4_within (nI n) 20 79 = if 20 ≤ n ∧ n ≤ 79 then (1 : Int32) else 0 := wi_nI (a := 20) (b := 79) hn (by decide) (by decide)
        have l3 : 79 < n := by
          by_cases z : n ≤ 79
          · rw [ew, if_pos ⟨l2, z⟩] at g2; exact absurd g2 (by decide)
          · omega
        have es : (nI n - 20) / 10 = nI ((n - 20) / 10) := by
          rw [show nI n - 20 = nI (n - 20) from pk_sub l2]
          exact pk_div (d := 10) (by omega) (by decide) (by decide)
        unfold fX4_toldOfPerson fX0_isThere
        have ew2 : fX4_within (nI ((n - 20) / 10)) 0 5 = if 0 ≤ (n - 20) / 10 ∧ (n - 20) / 10 ≤ 5 then (1 : Int32) else 0 := wi_nI (a := 0) (b := 5) (by omega) (by decide) (by decide)
        rw [es, ew2, if_neg (show ¬ (0 ≤ (n - 20) / 10 ∧ (n - 20) / 10 ≤ 5) by omega), if_pos rfl, if_pos rfl]
      · rw [if_neg l]
    · rw [if_neg g2]
      obtain ⟨n, h1, h2, rfl⟩ := wi_N (n := 20) (m := 79) (by decide) (by decide) g2
      obtain ⟨k, rfl⟩ : ∃ k, n = k + 20 := ⟨n - 20, by omega⟩
      have t := tl_8 k (by omega)
      rw [if_pos (show (20 : Int32) ≤ nI (k + 20) from nI_le (a := 20) (by omega) (by omega)), t.2.2, t.2.1]
      exact tl_p hK hC hM (by omega)
  · rw [if_neg g1, if_neg g1]
    obtain ⟨n, h1, h2, rfl⟩ := wi_N (n := 10) (m := 19) (by decide) (by decide) g1
    have es : nI n - 10 = nI (n - 10) := pk_sub h1
    rw [es, nI_clamp (by omega), hC.2.2 (n - 10) (by omega), hM.2.2 (n - 10) (by omega)]
