/-! PURE 3: the calls that change the street, and the weights -/
theorem kok_there {K : KV} (h : kok K) {n : Nat} (hn : n < 64) : kok (kus K 2 n) := ⟨⟨h.1.1, h.1.2.1, hn, h.1.2.2.2⟩, h.2⟩
theorem kok_holes {K : KV} (h : kok K) {n : Nat} (hn : n < 64) : kok (kus K 3 n) := ⟨⟨h.1.1, h.1.2.1, h.1.2.2.1, hn, h.1.2.2.2.2⟩, h.2⟩
theorem kok_cotton {K : KV} (h : kok K) {n : Nat} (hn : n < 64) : kok (kus K 4 n) := ⟨⟨h.1.1, h.1.2.1, h.1.2.2.1, h.1.2.2.2.1, hn, h.1.2.2.2.2.2⟩, h.2⟩
theorem kok_tables {K : KV} (h : kok K) {n : Nat} (hn : n < 1024) : kok (kus K 5 n) := ⟨⟨h.1.1, h.1.2.1, h.1.2.2.1, h.1.2.2.2.1, h.1.2.2.2.2.1, hn, h.1.2.2.2.2.2.2⟩, h.2⟩
theorem kok_spread {K : KV} (h : kok K) {n : Nat} (hn : n ≤ 9) : kok (kus K 0 n) := ⟨⟨hn, h.1.2⟩, h.2⟩
theorem kok_shade {K : KV} (h : kok K) {n : Nat} (hn : n ≤ 9) : kok (kus K 1 n) := ⟨⟨h.1.1, hn, h.1.2.2⟩, h.2⟩
theorem kok_sights {K : KV} (h : kok K) {n : Nat} (hn : n ≤ 6) : kok (kus K 6 n) := ⟨⟨h.1.1, h.1.2.1, h.1.2.2.1, h.1.2.2.2.1, h.1.2.2.2.2.1, h.1.2.2.2.2.2.1, hn⟩, h.2⟩
theorem kok_place {K : KV} (h : kok K) {i n : Nat} (hn : n < 10) : kok (kua K 7 i n) := by
  refine ⟨h.1, fun j hj => ?_, h.2.2⟩
  have q := h.2.1 j hj
  refine ⟨?_, q.2⟩
  show (if j = i then n else K.2 7 j) < 10
  split
  · exact hn
  · exact q.1
theorem kok_slow {K : KV} (h : kok K) {i n : Nat} (hn : n < 10) : kok (kua K 8 i n) := by
  refine ⟨h.1, fun j hj => ?_, h.2.2⟩
  have q := h.2.1 j hj
  refine ⟨q.1, ?_, q.2.2⟩
  show (if j = i then n else K.2 8 j) < 10
  split
  · exact hn
  · exact q.2.1
theorem kw_sm (K : KV) : ∀ n, kw K n = fb_sm (K.2 9) n
  | 0 => rfl
  | n + 1 => by rw [kw, fb_sm_succ, kw_sm K n]
theorem kw_up (K : KV) {i n : Nat} (v : Nat) (hi : i < n) : kw (kua K 9 i v) n + K.2 9 i = kw K n + v := by
  rw [kw_sm, kw_sm]
  exact fb_sm_upd (K.2 9) v hi
theorem kw_le {K : KV} (h : kok K) : ∀ n, n ≤ 10 → kw K n ≤ n * 9
  | 0, _ => Nat.le_refl _
  | n + 1, hn => by
    have h1 := kw_le h n (by omega)
    have h2 := h.2.2.1 n (by omega)
    show kw K n + K.2 9 n ≤ (n + 1) * 9
    omega
theorem kw_part {K : KV} {i n : Nat} (hi : i < n) : K.2 9 i ≤ kw K n := by
  rw [kw_sm]
  have := fb_sm_part (K.2 9) hi
  omega
theorem C_weights {K : KV} {oc : OV} (hC : rC K oc) : fX0_allWeights oc = nI (kw K 10) := by
  have key : ∀ n, n ≤ 10 → fX0_allWeights_L4 oc 0 n = nI (kw K n) := by
    intro n
    induction n with
    | zero => exact fun _ => rfl
    | succ n ih =>
      intro hn
      show fX0_allWeights_L4s oc n (fX0_allWeights_L4 oc 0 n) = nI (kw K n + K.2 9 n)
      rw [ih (by omega)]
      unfold fX0_allWeights_L4s
      rw [nI_clamp (by omega : n < 2 ^ 31), hC.2.2 n (by omega), nI_add]
  exact key 10 (Nat.le_refl _)
theorem M_weights {K : KV} {om : OV} (hM : rM K om) : fX5_weights om = nI (kw K 10) := by
  have key : ∀ n, n ≤ 10 → fX5_weights_L4 om 0 n = nI (kw K n) := by
    intro n
    induction n with
    | zero => exact fun _ => rfl
    | succ n ih =>
      intro hn
      show fX5_weights_L4s om n (fX5_weights_L4 om 0 n) = nI (kw K n + K.2 9 n)
      rw [ih (by omega)]
      unfold fX5_weights_L4s
      rw [nI_clamp (by omega : n < 2 ^ 31), hM.2.2 n (by omega), nI_add]
  exact key 10 (Nat.le_refl _)
theorem op_stand {K : KV} {oc om : OV} (h : RK K oc om) (p0 p1 p2 p3 p4 : Int32) : ∃ K', RK K' (fX4_stand oc p0 p1 p2 p3 p4).2 (fX5_stand om p0 p1 p2 p3 p4).2 ∧ (fX4_stand oc p0 p1 p2 p3 p4).1 = (fX5_stand om p0 p1 p2 p3 p4).1 ∧ frm om (fX5_stand om p0 p1 p2 p3 p4).2 := by
  obtain ⟨hK, hC, hM⟩ := h
  unfold fX4_stand fX5_stand
  rw [ps_eq, pl_eq, in_wi (x := p2) (a := 0) (b := 9) (by decide) (by decide), in_wi (x := p3) (a := 0) (b := 1) (by decide) (by decide)]
  by_cases g0 : fX4_within p0 0 5 = 0
  · rw [if_pos g0, if_pos g0]; exact ⟨K, ⟨hK, hC, hM⟩, rfl, frm_rf om⟩
  rw [if_neg g0, if_neg g0]
  by_cases g1 : fX4_isPlace p1 = 0
  · rw [if_pos g1, if_pos g1]; exact ⟨K, ⟨hK, hC, hM⟩, rfl, frm_rf om⟩
  rw [if_neg g1, if_neg g1]
  by_cases g2 : fX4_within p2 0 9 = 0
  · rw [if_pos g2, if_pos g2]; exact ⟨K, ⟨hK, hC, hM⟩, rfl, frm_rf om⟩
  rw [if_neg g2, if_neg g2]
  by_cases g3 : fX4_within p3 0 1 = 0
  · rw [if_pos g3, if_pos g3]; exact ⟨K, ⟨hK, hC, hM⟩, rfl, frm_rf om⟩
  rw [if_neg g3, if_neg g3]
  obtain ⟨p, hp, rfl⟩ := vp_nI (wi6 g0) (by decide)
  obtain ⟨a, ha, rfl⟩ := vp_nI (ip4 g1) (by decide)
  obtain ⟨w, hw, rfl⟩ := vp_nI (wi10 g2) (by decide)
  obtain ⟨c, hc, rfl⟩ := vp_nI (wi2' g3) (by decide)
  have ht := hK.1.2.2.1
  have hh := hK.1.2.2.2.1
  have hco := hK.1.2.2.2.2.1
  have eput : fX0_put oc (nI p) (nI a) (nI w) = ua (ua oc 7 p (nI a)) 8 p (nI w) := by
    unfold fX0_put
    rw [if_neg g0, nI_clamp (by omega : p < 2 ^ 31)]
  have eb1 : (nI (K.1 2) ||| (1 <<< ((nI p) &&& 31))) = nI (wbn (K.1 2) p 1) := or_pw hp
  have eb2 : (if p4 = 0 then (nI (K.1 3) &&& ((1 <<< ((nI p) &&& 31)) ^^^ (-1))) else (nI (K.1 3) ||| (1 <<< ((nI p) &&& 31)))) = nI (wbn (K.1 3) p p4) := wb_nI hh hp p4
  rw [eput]
  dsimp only
  rw [ua_1, ua_1, hC.1 2 (by decide), hC.1 3 (by decide), hC.1 4 (by decide), wb_nI ht hp, wb_nI hh hp, wb_nI hco hp, hM.1.1, hM.1.2.1, eb1, eb2, nI_clamp (by omega : p < 2 ^ 31)]
  generalize hon : (if nI c = 1 then (1 : Int32) else 0) = on
  refine ⟨kus (kus (kus (kua (kua K 7 p a) 8 p w) 4 (wbn (K.1 4) p on)) 3 (wbn (K.1 3) p p4)) 2 (wbn (K.1 2) p 1), ⟨?_, ?_, ?_⟩, bc_on _ (wbn_lt ht hp 1), ⟨rfl, rfl, rfl, rfl⟩⟩
  · exact kok_there (kok_holes (kok_cotton (kok_slow (kok_place hK ha) hw) (wbn_lt hco hp on)) (wbn_lt hh hp p4)) (wbn_lt ht hp 1)
  · have z := rC_us (rC_us (rC_us (rC_ua (rC_ua hC 7 p a) 8 p w) 4 (wbn (K.1 4) p on)) 3 (wbn (K.1 3) p p4)) 2 (wbn (K.1 2) p 1)
    refine ⟨fun k hk => ?_, z.2.1, z.2.2⟩
    have y := z.1 k hk
    rw [← y]
    have e5 : ∀ (o : OV) (x1 x2 x3 : Int32) (k : Nat), (us (us (us o 2 x1) 4 x2) 3 x3).1 k = (us (us (us o 4 x2) 3 x3) 2 x1).1 k := by
      intro o x1 x2 x3 k
      show (if k = 3 then x3 else if k = 4 then x2 else if k = 2 then x1 else o.1 k) = (if k = 2 then x1 else if k = 3 then x3 else if k = 4 then x2 else o.1 k)
      split
      · rename_i e; subst e; rfl
      · split
        · rename_i e; subst e; rfl
        · rfl
    exact e5 _ _ _ _ _
  · refine rM_there (rM_holes (rM_party (rM_ua (rM_ua hM p a (by decide) (by decide) (by decide) (by decide) (by decide) (by decide)) p w (by decide) (by decide) (by decide) (by decide) (by decide) (by decide)) ?_ ?_) _) _
    · rw [wbn_tb _ hp, if_pos rfl, ← hon]
      have : c = 0 ∨ c = 1 := by omega
      rcases this with rfl | rfl <;> rfl
    · intro j hj e
      rw [wbn_tb _ hj, if_neg e]
      rfl
theorem op_leave {K : KV} {oc om : OV} (h : RK K oc om) (p0 : Int32) : ∃ K', RK K' (fX4_leave oc p0).2 (fX5_leave om p0).2 ∧ (fX4_leave oc p0).1 = (fX5_leave om p0).1 ∧ frm om (fX5_leave om p0).2 := by
  obtain ⟨hK, hC, hM⟩ := h
  unfold fX4_leave fX5_leave
  rw [th_eq (oc := oc) (hM.1.1.trans (hC.1 2 (by decide)).symm)]
  by_cases g0 : fX0_isThere oc p0 = 0
  · rw [if_pos g0, if_pos g0]; exact ⟨K, ⟨hK, hC, hM⟩, rfl, frm_rf om⟩
  rw [if_neg g0, if_neg g0]
  obtain ⟨p, hp, rfl⟩ := vp_nI (it6 g0) (by decide)
  have ht := hK.1.2.2.1
  have eb1 : (nI (K.1 2) &&& ((1 <<< ((nI p) &&& 31)) ^^^ (-1))) = nI (wbn (K.1 2) p 0) := wb_nI ht hp 0
  dsimp only
  rw [hC.1 2 (by decide), wb_nI ht hp, hM.1.1, eb1]
  exact ⟨kus K 2 (wbn (K.1 2) p 0), ⟨kok_there hK (wbn_lt ht hp 0), rC_us hC 2 _, rM_there hM _⟩, bc_on _ (wbn_lt ht hp 0), ⟨rfl, rfl, rfl, rfl⟩⟩
theorem tb_some {t : Nat} (ht : t < 1024) {k : Nat} (hk : k < 10) (on : Int32) : ∃ t' : Nat, t' < 1024 ∧ fX4_withBit (nI t) (nI k) on = nI t' := by
  unfold fX4_withBit
  have pw10 : ∀ k, k < 10 → (1 : Int32) <<< (nI k &&& 31) = nI (2 ^ k) := by decide +kernel
  by_cases h : on = 0
  · rw [if_pos h]
    obtain ⟨c, -, e⟩ := wb_of32 ((1 <<< (nI k &&& 31)) ^^^ (-1))
    rw [e, fa_and]
    exact ⟨t &&& c, Nat.lt_of_le_of_lt Nat.and_le_left ht, rfl⟩
  · rw [if_neg h, pw10 k hk, fa_or]
    exact ⟨t ||| 2 ^ k, Nat.or_lt_two_pow (n := 10) ht (Nat.pow_lt_pow_right (by decide) hk), rfl⟩
theorem op_table {K : KV} {oc om : OV} (h : RK K oc om) (p0 p1 : Int32) : ∃ K', RK K' (fX4_table oc p0 p1).2 (fX5_table om p0 p1).2 ∧ (fX4_table oc p0 p1).1 = (fX5_table om p0 p1).1 ∧ frm om (fX5_table om p0 p1).2 := by
  obtain ⟨hK, hC, hM⟩ := h
  unfold fX4_table fX5_table
  rw [pl_eq]
  by_cases g0 : fX4_isPlace p0 = 0
  · rw [if_pos g0, if_pos g0]; exact ⟨K, ⟨hK, hC, hM⟩, rfl, frm_rf om⟩
  rw [if_neg g0, if_neg g0]
  obtain ⟨p, hp, rfl⟩ := vp_nI (ip4 g0) (by decide)
  obtain ⟨t', h1, h2⟩ := tb_some hK.1.2.2.2.2.2.1 hp p1
  dsimp only
  have e3 : (if p1 = 0 then (nI (K.1 5) &&& ((1 <<< ((nI p) &&& 31)) ^^^ (-1))) else (nI (K.1 5) ||| (1 <<< ((nI p) &&& 31)))) = nI t' := h2
  rw [hC.1 5 (by decide), hM.1.2.2.1, h2, e3]
  exact ⟨kus K 5 t', ⟨kok_tables hK h1, rC_us hC 5 _, rM_tables hM _⟩, rfl, ⟨rfl, rfl, rfl, rfl⟩⟩
theorem op_weight {K : KV} {oc om : OV} (h : RK K oc om) (p0 p1 : Int32) : ∃ K', RK K' (fX4_weight oc p0 p1).2 (fX5_weight om p0 p1).2 ∧ (fX4_weight oc p0 p1).1 = (fX5_weight om p0 p1).1 ∧ frm om (fX5_weight om p0 p1).2 := by
  obtain ⟨hK, hC, hM⟩ := h
  unfold fX4_weight fX5_weight
  rw [pl_eq, in_wi (x := p1) (a := 0) (b := 9) (by decide) (by decide), C_weights hC, M_weights hM]
  by_cases g0 : fX4_isPlace p0 = 0
  · rw [if_pos g0, if_pos g0]; exact ⟨K, ⟨hK, hC, hM⟩, rfl, frm_rf om⟩
  rw [if_neg g0, if_neg g0]
  by_cases g1 : fX4_within p1 0 9 = 0
  · rw [if_pos g1, if_pos g1]; exact ⟨K, ⟨hK, hC, hM⟩, rfl, frm_rf om⟩
  rw [if_neg g1, if_neg g1]
  obtain ⟨p, hp, rfl⟩ := vp_nI (ip4 g0) (by decide)
  obtain ⟨v, hv, rfl⟩ := vp_nI (wi10 g1) (by decide)
  rw [nI_clamp (by omega : p < 2 ^ 31), hC.2.2 p hp, hM.2.2 p hp]
  have h1 := kw_part (K := K) hp
  have h2 := kw_le hK 10 (Nat.le_refl _)
  rw [pk_sub h1, nI_add]
  by_cases g2 : (1 : Int32) ≤ nI (kw K 10 - K.2 9 p + v)
  · rw [if_pos g2, if_pos g2]
    have g3 : 1 ≤ kw K 10 - K.2 9 p + v := (nI_leI (a := 1) (by decide) (by omega)).mp g2
    refine ⟨kua K 9 p v, ⟨⟨hK.1, hK.2.1, fun j hj => ?_, ?_⟩, rC_ua hC 9 p v, rM_ua hM p v (by decide) (by decide) (by decide) (by decide) (by decide) (by decide)⟩, rfl, ⟨rfl, rfl, rfl, rfl⟩⟩
    · show (if j = p then v else K.2 9 j) ≤ 9
      have := hK.2.2.1 j hj
      split <;> omega
    · have := kw_up K v hp
      omega
  · rw [if_neg g2, if_neg g2]; exact ⟨K, ⟨hK, hC, hM⟩, rfl, frm_rf om⟩
