/-! PURE 11: reigns and years of a text -/
abbrev MM (p0 : Int32) (o : OV) (k : Nat) : Int32 × Int32 × OV := fX5_goParts_L44 p0 0 0 o k
theorem is_op {og : OV} {n k : Nat} (hk : k < 2 ^ 31) (hv : fX2_firstFault_L4 og (n + 1) k (xs og k) = -6) : fX5_isOpening (fX2_sign og (nI k)) (xs og k) = 0 ↔ tka og k = 0 := by
  rw [op_eq]
  by_cases e : xs og k = 0
  · rw [if_pos e]; exact Iff.rfl
  · rw [if_neg e]
    exact ⟨fun _ => ((v_step hk hv).2.2 e).2, fun _ => rfl⟩
theorem M_step {og om0 o : OV} {p0 : Int32} {n k : Nat} (hk : k < 40) (hP : rP og om0) (hv : fX2_firstFault_L4 og (n + 1) k (xs og k) = -6) (h1 : (MM p0 o k).1 = nI (pc og k)) (h2 : (MM p0 o k).2.1 = xs og k) (h3 : frm om0 (MM p0 o k).2.2) : MM p0 o (k + 1) = if tka og k = 0 then (nI (pc og k + 1), 0, if p0 < 0 then fX5_happen (MM p0 o k).2.2 (xs og k) (fX2_sign og (nI k)) else (if p0 ≤ nI (pc og k) then (MM p0 o k).2.2 else fX5_happen (MM p0 o k).2.2 (xs og k) (fX2_sign og (nI k)))) else (nI (pc og k), fX2_sign og (nI k), (MM p0 o k).2.2) := by
  show fX5_goParts_L44s p0 k (MM p0 o k).1 (MM p0 o k).2.1 (MM p0 o k).2.2 = _
  have es : ((MM p0 o k).2.2.2 12) (nI k).toNatClampNeg = fX2_sign og (nI k) := by rw [h3.2.1, sg_eq hP hk]
  have i := is_op (by omega) hv
  unfold fX5_goParts_L44s
  rw [es, h1, h2]
  by_cases t : tka og k = 0
  · rw [if_pos (i.mpr t), if_pos t, nI_1]
    by_cases a : p0 < 0
    · rw [if_pos a, if_pos a]
    · rw [if_neg a, if_neg a]
      by_cases b : p0 ≤ nI (pc og k)
      · rw [if_pos b, if_pos b]
      · rw [if_neg b, if_neg b]
  · rw [if_neg (fun z => t (i.mp z)), if_neg t]
theorem M_facts {og om0 o : OV} {p0 : Int32} {c : Nat} (hc : c ≤ 40) (hP : rP og om0) (hv : fX2_firstFault_L4 og c 0 0 = -6) (hf : frm om0 o) : ∀ k, k ≤ c → (MM p0 o k).1 = nI (pc og k) ∧ (MM p0 o k).2.1 = xs og k ∧ frm om0 (MM p0 o k).2.2 := by
  intro k
  induction k with
  | zero => intro _; exact ⟨rfl, rfl, hf⟩
  | succ k ih =>
    intro hk
    obtain ⟨h1, h2, h3⟩ := ih (by omega)
    have e := M_step (by omega) hP (v_all hc hv k (c - k - 1 + 1) (by omega)) h1 h2 h3
    rw [e]
    by_cases t : tka og k = 0
    · rw [if_pos t]
      refine ⟨?_, ?_, ?_⟩
      · show nI (pc og k + 1) = nI (if tka og k = 0 then pc og k + 1 else pc og k)
        rw [if_pos t]
      · show (0 : Int32) = if tka og k = 0 then 0 else fX2_sign og (nI k)
        rw [if_pos t]
      · show frm om0 (if p0 < 0 then fX5_happen (MM p0 o k).2.2 (xs og k) (fX2_sign og (nI k)) else (if p0 ≤ nI (pc og k) then (MM p0 o k).2.2 else fX5_happen (MM p0 o k).2.2 (xs og k) (fX2_sign og (nI k))))
        by_cases a : p0 < 0
        · rw [if_pos a]; exact fr_hap h3 _ _
        · rw [if_neg a]
          by_cases b : p0 ≤ nI (pc og k)
          · rw [if_pos b]; exact h3
          · rw [if_neg b]; exact fr_hap h3 _ _
    · rw [if_neg t]
      refine ⟨?_, ?_, h3⟩
      · show nI (pc og k) = nI (if tka og k = 0 then pc og k + 1 else pc og k)
        rw [if_neg t]
      · show fX2_sign og (nI k) = if tka og k = 0 then 0 else fX2_sign og (nI k)
        rw [if_neg t]
theorem M_stall {og om0 o : OV} {m c : Nat} (hm : m < 2 ^ 31) (hc : c ≤ 40) (hP : rP og om0) (hv : fX2_firstFault_L4 og c 0 0 = -6) (hf : frm om0 o) {k : Nat} (hmk : m ≤ pc og k) : ∀ n, k + n ≤ c → (MM (nI m) o (k + n)).2.2 = (MM (nI m) o k).2.2 := by
  intro n
  induction n with
  | zero => intro _; rfl
  | succ n ih =>
    intro hn
    obtain ⟨h1, h2, h3⟩ := M_facts (p0 := nI m) hc hP hv hf (k + n) (by omega)
    have e := M_step (by omega) hP (v_all hc hv (k + n) (c - (k + n) - 1 + 1) (by omega)) h1 h2 h3
    have hp := pc_up og n k
    have hq := pc_le og (k + n)
    show (MM (nI m) o (k + n + 1)).2.2 = _
    rw [e]
    by_cases t : tka og (k + n) = 0
    · rw [if_pos t]
      show (if nI m < 0 then fX5_happen (MM (nI m) o (k + n)).2.2 (xs og (k + n)) (fX2_sign og (nI (k + n))) else (if nI m ≤ nI (pc og (k + n)) then (MM (nI m) o (k + n)).2.2 else fX5_happen (MM (nI m) o (k + n)).2.2 (xs og (k + n)) (fX2_sign og (nI (k + n))))) = _
      have hz : ¬ nI m < 0 := fun z => by
        have := (fa_lt _ _).mp z
        rw [nI_toInt hm, show (0 : Int32).toInt = 0 by decide] at this
        omega
      rw [if_neg hz, if_pos (nI_le (by omega) (by omega))]
      exact ih (by omega)
    · rw [if_neg t]
      exact ih (by omega)
theorem run_L {K : KV} {og om0 o : OV} (hK : kok K) {p0 lim : Int32} {c : Nat} (hc : c ≤ 40) (hcc : og.1 1 = nI c) (hP : rP og om0) (hv : fX2_firstFault_L4 og c 0 0 = -6) (hf : frm om0 o) (hl : (p0 < 0 ∧ lim = nI (pc og c)) ∨ ∃ m, m < 2 ^ 31 ∧ p0 = nI m ∧ lim = nI m) : ∀ n k, k + n = c → ∀ od oy, rY K od oy (MM p0 o k).2.2 → rY K (fX1_play_L14 og lim n k (nI (pc og k)) (xs og k) od oy).1 (fX1_play_L14 og lim n k (nI (pc og k)) (xs og k) od oy).2 (MM p0 o c).2.2 := by
  intro n
  induction n with
  | zero =>
    intro k hk od oy hY
    have : k = c := by omega
    subst this
    exact hY
  | succ n ih =>
    intro k hk od oy hY
    have hvk := v_all hc hv k (n + 1) hk
    obtain ⟨h1, h2, h3⟩ := M_facts (p0 := p0) hc hP hv hf k (by omega)
    have e := M_step (by omega) hP hvk h1 h2 h3
    have vs := v_step (by omega) hvk
    have i2 := ih (k + 1) (by omega)
    have hq := pc_le og k
    rw [e] at i2
    have ez : fX1_play_L14 og lim (n + 1) k (nI (pc og k)) (xs og k) od oy = (if lim ≤ nI (pc og k) then (od, oy) else (if tka og k = 0 then fX1_play_L14 og lim n (k + 1) (nI (pc og k) + 1) 0 ((fX1_happen oy od (xs og k) (fX2_sign og (nI k))).1) ((fX1_happen oy od (xs og k) (fX2_sign og (nI k))).2) else fX1_play_L14 og lim n (k + 1) (nI (pc og k)) (fX2_sign og (nI k)) od oy)) := rfl
    rw [ez]
    by_cases l : lim ≤ nI (pc og k)
    · rw [if_pos l]
      rcases hl with ⟨-, e1⟩ | ⟨m, hm, rfl, e1⟩
      · exfalso
        have := pc_lt hc hcc hv (k := k) (by omega)
        have hq2 := pc_le og c
        rw [e1] at l
        have := (nI_leI (by omega) (by omega)).mp l
        omega
      · rw [e1] at l
        have l2 := (nI_leI hm (by omega)).mp l
        have st := M_stall (o := o) hm hc hP hv hf l2 (n + 1) (by omega)
        rw [hk] at st
        rw [st]
        exact hY
    · rw [if_neg l]
      have ex : xs og (k + 1) = if tka og k = 0 then 0 else fX2_sign og (nI k) := rfl
      have ep : pc og (k + 1) = if tka og k = 0 then pc og k + 1 else pc og k := rfl
      by_cases t : tka og k = 0
      · rw [if_pos t] at ex ep i2 ⊢
        rw [ex, ep] at i2
        rw [nI_1]
        refine i2 _ _ ?_
        have hh := Y_happen hK hY (xs_tk og k) (fun z => ⟨vs.2.1 z, t⟩) (fun z => (vs.2.2 z).1)
        show rY K _ _ (if p0 < 0 then fX5_happen (MM p0 o k).2.2 (xs og k) (fX2_sign og (nI k)) else (if p0 ≤ nI (pc og k) then (MM p0 o k).2.2 else fX5_happen (MM p0 o k).2.2 (xs og k) (fX2_sign og (nI k))))
        rcases hl with ⟨a, -⟩ | ⟨m, hm, e0, e1⟩
        · rw [if_pos a]; exact hh
        · by_cases a : p0 < 0
          · rw [if_pos a]; exact hh
          · rw [if_neg a, if_neg (fun z => l (by rw [e1, ← e0]; exact z))]; exact hh
      · rw [if_neg t] at ex ep i2 ⊢
        rw [ex, ep] at i2
        exact i2 od oy hY
