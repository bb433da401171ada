/-! PURE 10: the history of a text -/
theorem frm_usn {o om : OV} (h : frm o om) {k : Nat} (hk : k ≠ 13) (v : Int32) : frm o (us om k v) := ⟨(us_n (fun z => hk z.symm)).trans h.1, h.2⟩
theorem frm_ua14 {o om : OV} (h : frm o om) (i : Nat) (v : Int32) : frm o (ua om 14 i v) := ⟨h.1, (ua_n (by decide)).trans h.2.1, (ua_n (by decide)).trans h.2.2.1, (ua_n (by decide)).trans h.2.2.2⟩
theorem fr_rule {o om : OV} (h : frm o om) (p : Int32) : frm o (fX5_rule om p) := frm_usn (frm_usn h (by decide) _) (by decide) _
theorem fr_goL {o om : OV} (h : frm o om) (y : Int32) : ∀ k, frm o (fX5_goYears_L4 y 0 om k).2
  | 0 => h
  | k + 1 => frm_ua14 (fr_goL h y k) _ _
theorem fr_go {o om : OV} (h : frm o om) (y : Int32) : frm o (fX5_goYears om y) := frm_ua14 (frm_ua14 (frm_ua14 (fr_goL h y 6) _ _) _ _) _ _
theorem fr_hap {o om : OV} (h : frm o om) (x s : Int32) : frm o (fX5_happen om x s) := by
  have hw : frm o (if (fX5_isThere om (s - 65)) = 0 then om else (fX5_rule (us om 4 ((om.1 4) ||| (1 <<< ((s - 65) &&& 31)))) ((om.1 16) &&& ((1 <<< ((s - 65) &&& 31)) ^^^ (-1))))) := by
    by_cases e : fX5_isThere om (s - 65) = 0
    · rw [if_pos e]; exact h
    · rw [if_neg e]; exact fr_rule (frm_usn h (by decide) _) _
  unfold fX5_happen
  by_cases e0 : x = 0
  · rw [if_pos e0]
    by_cases e1 : s = 46
    · rw [if_pos e1]; exact fr_go h _
    · rw [if_neg e1]
      by_cases e2 : x = 45
      · rw [if_pos e2]; exact fr_go (fr_rule h _) _
      · rw [if_neg e2]
        by_cases e3 : x = 126
        · rw [if_pos e3]; exact hw
        · rw [if_neg e3]; exact fr_rule h _
  · rw [if_neg e0]
    by_cases e2 : x = 45
    · rw [if_pos e2]; exact fr_go (fr_rule h _) _
    · rw [if_neg e2]
      by_cases e3 : x = 126
      · rw [if_pos e3]; exact hw
      · rw [if_neg e3]; exact fr_rule h _
theorem dg {s : Int32} (h : ¬ fX4_within s 48 57 = 0) : ∃ r, r < 10 ∧ s - 48 = nI r := by
  obtain ⟨v, h1, h2, rfl⟩ := wi_N (n := 48) (m := 57) (by decide) (by decide) h
  exact ⟨v - 48, by omega, pk_sub h1⟩
theorem Y_happen {K : KV} {od oy om : OV} (hK : kok K) (hY : rY K od oy om) {x s : Int32} (hx : tk3 x) (h0 : x = 0 → ¬ fX2_canBegin s = 0 ∧ fX2_takesAnother s = 0) (h1 : ¬ x = 0 → ¬ fX2_canFollow x s = 0) : rY K (fX1_happen oy od x s).1 (fX1_happen oy od x s).2 (fX5_happen om x s) := by
  unfold fX1_happen fX5_happen
  rcases hx with rfl | rfl | rfl | rfl
  · rw [if_neg (show ¬ (0 : Int32) = 33 by decide), if_neg (show ¬ (0 : Int32) = 45 by decide), if_neg (show ¬ (0 : Int32) = 126 by decide), if_pos rfl]
    obtain ⟨a, b⟩ := h0 rfl
    by_cases e : s = 46
    · rw [if_pos e, if_pos e]; exact Y_pass hK hY 1
    · rw [if_neg e, if_neg e, if_neg (show ¬ (0 : Int32) = 45 by decide), if_neg (show ¬ (0 : Int32) = 126 by decide), if_pos rfl]
      have hw : ¬ fX4_within s 48 57 = 0 := fun z => by
        unfold fX2_canBegin at a
        rw [if_pos z, if_neg e, if_pos b] at a
        exact a rfl
      obtain ⟨r, hr, es⟩ := dg hw
      rw [es]
      exact Y_rain hK hY hr
  · have a := h1 (by decide)
    unfold fX2_canFollow at a
    rw [if_pos rfl] at a
    obtain ⟨r, hr, es⟩ := dg a
    rw [if_pos rfl, if_neg (show ¬ (33 : Int32) = 0 by decide), if_neg (show ¬ (33 : Int32) = 45 by decide), if_neg (show ¬ (33 : Int32) = 126 by decide), if_neg (show ¬ (33 : Int32) = 0 by decide), es]
    exact Y_sprinkle hK hY hr
  · rw [if_neg (show ¬ (45 : Int32) = 33 by decide), if_pos rfl, if_neg (show ¬ (45 : Int32) = 0 by decide), if_pos rfl]
    exact Y_pass hK (Y_rule hY (s := 0) (by decide) (fun j _ t => absurd t (by simp))) _
  · have a := h1 (by decide)
    unfold fX2_canFollow at a
    rw [if_neg (show ¬ (126 : Int32) = 33 by decide), if_neg (show ¬ (126 : Int32) = 45 by decide)] at a
    obtain ⟨v, b1, b2, rfl⟩ := wi_N (n := 65) (m := 70) (by decide) (by decide) a
    have es : nI v - 65 = nI (v - 65) := pk_sub b1
    rw [if_neg (show ¬ (126 : Int32) = 33 by decide), if_neg (show ¬ (126 : Int32) = 45 by decide), if_pos rfl, if_neg (show ¬ (126 : Int32) = 0 by decide), if_neg (show ¬ (126 : Int32) = 45 by decide), if_pos rfl, es]
    exact Y_break hK hY (by omega)
-- a text without fault
def tka (og : OV) (k : Nat) : Int32 := fX2_takesAnother (fX2_sign og (nI k))
def xs (og : OV) : Nat → Int32
  | 0 => 0
  | k + 1 => if tka og k = 0 then 0 else fX2_sign og (nI k)
def pc (og : OV) : Nat → Nat
  | 0 => 0
  | k + 1 => if tka og k = 0 then pc og k + 1 else pc og k
theorem pc_le (og : OV) : ∀ k, pc og k ≤ k
  | 0 => Nat.le_refl _
  | k + 1 => by
    have := pc_le og k
    unfold pc
    split <;> omega
theorem pc_up (og : OV) : ∀ n k, pc og k ≤ pc og (k + n)
  | 0, _ => Nat.le_refl _
  | n + 1, k => by
    have := pc_up og n k
    show pc og k ≤ if tka og (k + n) = 0 then pc og (k + n) + 1 else pc og (k + n)
    split <;> omega
theorem pc_parts (og : OV) : ∀ k, fX2_parts_L4 og 0 k = nI (pc og k)
  | 0 => rfl
  | k + 1 => by
    show (if tka og k = 0 then (fX2_parts_L4 og 0 k + 1) else fX2_parts_L4 og 0 k) = nI (if tka og k = 0 then pc og k + 1 else pc og k)
    rw [pc_parts og k]
    split
    · exact nI_1 _
    · rfl
theorem nn6 {k : Nat} (h : k < 2 ^ 31) : ¬ nI k = -6 := fun z => by
  have := congrArg Int32.toInt z
  rw [nI_toInt h, show (-6 : Int32).toInt = -6 by decide] at this
  omega
theorem fol_tk {x s : Int32} (h : ¬ fX2_canFollow x s = 0) : fX2_takesAnother s = 0 := by
  unfold fX2_takesAnother
  by_cases e1 : s = 33
  · exfalso; subst e1; unfold fX2_canFollow at h
    by_cases a : x = 33
    · rw [if_pos a] at h; exact h (by decide)
    · rw [if_neg a] at h
      by_cases b : x = 45
      · rw [if_pos b] at h; exact h (by decide)
      · rw [if_neg b] at h; exact h (by decide)
  · by_cases e2 : s = 45
    · exfalso; subst e2; unfold fX2_canFollow at h
      by_cases a : x = 33
      · rw [if_pos a] at h; exact h (by decide)
      · rw [if_neg a] at h
        by_cases b : x = 45
        · rw [if_pos b] at h; exact h (by decide)
        · rw [if_neg b] at h; exact h (by decide)
    · by_cases e3 : s = 126
      · exfalso; subst e3; unfold fX2_canFollow at h
        by_cases a : x = 33
        · rw [if_pos a] at h; exact h (by decide)
        · rw [if_neg a] at h
          by_cases b : x = 45
          · rw [if_pos b] at h; exact h (by decide)
          · rw [if_neg b] at h; exact h (by decide)
      · rw [if_neg e1, if_neg e2, if_neg e3]
theorem v_step {og : OV} {n k : Nat} (hk : k < 2 ^ 31) (hv : fX2_firstFault_L4 og (n + 1) k (xs og k) = -6) : fX2_firstFault_L4 og n (k + 1) (xs og (k + 1)) = -6 ∧ (xs og k = 0 → ¬ fX2_canBegin (fX2_sign og (nI k)) = 0) ∧ (¬ xs og k = 0 → ¬ fX2_canFollow (xs og k) (fX2_sign og (nI k)) = 0 ∧ tka og k = 0) := by
  have hv' : (if (if xs og k = 0 then (fX2_canBegin (fX2_sign og (nI k))) else (fX2_canFollow (xs og k) (fX2_sign og (nI k)))) = 0 then nI k else fX2_firstFault_L4 og n (k + 1) (if xs og k = 0 then (if tka og k = 0 then (0 : Int32) else (fX2_sign og (nI k))) else 0)) = -6 := hv
  show fX2_firstFault_L4 og n (k + 1) (if tka og k = 0 then 0 else fX2_sign og (nI k)) = -6 ∧ _
  by_cases e : xs og k = 0
  · rw [if_pos e, if_pos e] at hv'
    by_cases g : fX2_canBegin (fX2_sign og (nI k)) = 0
    · rw [if_pos g] at hv'; exact absurd hv' (nn6 hk)
    · rw [if_neg g] at hv'
      exact ⟨hv', fun _ => g, fun z => absurd e z⟩
  · rw [if_neg e, if_neg e] at hv'
    by_cases g : fX2_canFollow (xs og k) (fX2_sign og (nI k)) = 0
    · rw [if_pos g] at hv'; exact absurd hv' (nn6 hk)
    · rw [if_neg g] at hv'
      have t : tka og k = 0 := fol_tk g
      rw [if_pos t]
      exact ⟨hv', fun z => absurd z e, fun _ => ⟨g, t⟩⟩
theorem v_all {og : OV} {c : Nat} (hc : c ≤ 40) (hv : fX2_firstFault_L4 og c 0 0 = -6) : ∀ k n, k + n = c → fX2_firstFault_L4 og n k (xs og k) = -6 := by
  intro k
  induction k with
  | zero =>
    intro n hn
    have : n = c := by omega
    subst this
    exact hv
  | succ k ih =>
    intro n hn
    exact (v_step (by omega) (ih (n + 1) (by omega))).1
theorem xs_tk (og : OV) : ∀ k, tk3 (xs og k)
  | 0 => Or.inl rfl
  | k + 1 => by
    show tk3 (if tka og k = 0 then 0 else fX2_sign og (nI k))
    by_cases e : tka og k = 0
    · rw [if_pos e]; exact Or.inl rfl
    · rw [if_neg e]; exact ta_c _ e
theorem pc_lt {og : OV} {c k : Nat} (hc : c ≤ 40) (hcc : og.1 1 = nI c) (hv : fX2_firstFault_L4 og c 0 0 = -6) (hk : k < c) : pc og k < pc og c := by
  obtain ⟨d, rfl⟩ : ∃ d, c = d + 1 := ⟨c - 1, by omega⟩
  have e := v_all hc hv (d + 1) 0 rfl
  have e2 : (if xs og (d + 1) = 0 then ((-6) : Int32) else (og.1 1)) = -6 := e
  have e3 : xs og (d + 1) = 0 := by
    by_cases z : xs og (d + 1) = 0
    · exact z
    · rw [if_neg z, hcc] at e2; exact absurd e2 (nn6 (by omega))
  have e4 : (if tka og d = 0 then 0 else fX2_sign og (nI d)) = 0 := e3
  have e5 : tka og d = 0 := by
    by_cases z : tka og d = 0
    · exact z
    · rw [if_neg z] at e4
      unfold tka
      rw [e4]
      rfl
  show pc og k < if tka og d = 0 then pc og d + 1 else pc og d
  rw [if_pos e5]
  have := pc_up og (d - k) k
  rw [show k + (d - k) = d by omega] at this
  omega
