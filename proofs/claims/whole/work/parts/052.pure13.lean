/-! PURE 13: years by draws -/
theorem dr_C {v : Nat} (h : v < 65537) : ((75 * nI v) + 74) - ((75 * nI v) + 74) / 65537 * 65537 = nI ((75 * v + 74) % 65537) := by
  rw [show (75 : Int32) = nI 75 from rfl, show (74 : Int32) = nI 74 from rfl, pk_mul, nI_add]
  exact pk_rem (d := 65537) (by omega) (by decide) (by decide)
theorem dr_M {v : Nat} (h : v < 65537) : (((75 * (nI v).toInt64) + 74) - ((75 * (nI v).toInt64) + 74) / 65537 * 65537).toInt32 = nI ((75 * v + 74) % 65537) := by
  rw [w64 (by omega), show (75 : Int64) = lN 75 from rfl, show (74 : Int64) = lN 74 from rfl, lN_mul, lN_add]
  rw [show lN (75 * v + 74) - lN (75 * v + 74) / 65537 * 65537 = lN ((75 * v + 74) % 65537) from pk_lRem (b := 65537) (by omega) (by decide) (by decide)]
  exact lN_i _
theorem dr_10 {v : Nat} (h : v < 65537) : nI v - nI v / 10 * 10 = nI (v % 10) := pk_rem (d := 10) (by omega) (by decide) (by decide)
def dr (a : Nat) : Nat → Nat
  | 0 => a
  | k + 1 => (75 * dr a k + 74) % 65537
theorem dr_lt {a : Nat} (h : a < 65537) : ∀ k, dr a k < 65537
  | 0 => h
  | k + 1 => Nat.mod_lt _ (by decide)
/-- the street of the history alone, without its years -/
def rZ (K : KV) (od oy om : OV) : Prop := rY K od (oy.1, fun _ => om.2 14) om
theorem rain_1 (oy od : OV) (r : Int32) (f : Nat → Nat → Int32) : (fX1_rain oy od r).1 = (fX1_rain (oy.1, f) od r).1 ∧ (fX1_rain oy od r).2 = oy.2 := by
  unfold fX1_rain
  generalize fX0_firstOf od (fX0_umbrellas od) r = s
  unfold fX1_opened
  by_cases e0 : s = 0
  · rw [if_pos e0, if_pos e0]; exact ⟨rfl, rfl⟩
  · rw [if_neg e0, if_neg e0, bec, bec]; exact ⟨rfl, rfl⟩
theorem pL_1 (oy : OV) (y : Int32) : ∀ k, (fX1_pass_L2 y oy k).1 = oy.1
  | 0 => rfl
  | k + 1 => pL_1 oy y k
theorem pass_1 (oy od : OV) (y : Int32) : (fX1_pass oy od y).1 = oy.1 := pL_1 oy y 6
theorem pass_p {oy od : OV} {y : Int32} {g j : Nat} (hg : g < 64) (h4 : oy.1 2 = nI g) (hj : j < 6) : (fX1_pass oy od y).2 1 j = oy.2 1 j + (if g.testBit j then y else 0) := by
  obtain ⟨i1, i2⟩ := P_L (p0 := y) hg h4 6 (Nat.le_refl _)
  unfold fX1_pass
  rw [show (6 : Int32).toNatClampNeg = 6 from rfl, show (7 : Int32).toNatClampNeg = 7 from rfl, show (8 : Int32).toNatClampNeg = 8 from rfl]
  simp only [ua_rd]
  rw [if_neg (show ¬ j = 8 by omega), if_neg (show ¬ j = 7 by omega), if_neg (show ¬ j = 6 by omega), i2, if_pos hj]
theorem pass_8 {oy od : OV} {y : Int32} {g : Nat} (hg : g < 64) (h4 : oy.1 2 = nI g) : (fX1_pass oy od y).2 1 8 = oy.2 1 8 + (if nI g = 0 then y else 0) := by
  obtain ⟨i1, i2⟩ := P_L (p0 := y) hg h4 6 (Nat.le_refl _)
  unfold fX1_pass
  rw [show (6 : Int32).toNatClampNeg = 6 from rfl, show (7 : Int32).toNatClampNeg = 7 from rfl, show (8 : Int32).toNatClampNeg = 8 from rfl, i1, h4]
  simp only [ua_rd]
  rw [if_pos trivial, if_neg (show ¬ (8 : Nat) = 7 by decide), if_neg (show ¬ (8 : Nat) = 6 by decide), i2, if_neg (show ¬ (8 : Nat) < 6 by decide)]
theorem yr_L {K : KV} {oc om oy od : OV} (hK : kok K) (hC : rC K oc) (hM : rM K om) {a w : Nat} (ha : a < 10000) (hw : w < 8) : ∀ k, (fX4_year_L51 oc oy od (nI a) (fX1_begin oy od oc).2 k).1 = nI (dr a k) ∧ (fX5_year_L58 (nI w) 0 (nI a) (us (us om 15 0) 16 0) k).2.1 = nI (dr a k) ∧ rZ K (fX1_begin oy od oc).1 (fX4_year_L51 oc oy od (nI a) (fX1_begin oy od oc).2 k).2 (fX5_year_L58 (nI w) 0 (nI a) (us (us om 15 0) 16 0) k).2.2 ∧ rM K (fX5_year_L58 (nI w) 0 (nI a) (us (us om 15 0) 16 0) k).2.2 ∧ frm om (fX5_year_L58 (nI w) 0 (nI a) (us (us om 15 0) 16 0) k).2.2 ∧ (w < 6 → (fX4_year_L51 oc oy od (nI a) (fX1_begin oy od oc).2 k).2.2 1 w = (fX5_year_L58 (nI w) 0 (nI a) (us (us om 15 0) 16 0) k).1) ∧ (w = 6 → (fX4_year_L51 oc oy od (nI a) (fX1_begin oy od oc).2 k).2.2 1 8 = (fX5_year_L58 (nI w) 0 (nI a) (us (us om 15 0) 16 0) k).1) := by
  intro k
  induction k with
  | zero =>
    refine ⟨rfl, rfl, ?_, rM_free (rM_free hM (by decide) _) (by decide) _, frm_usn (frm_usn (frm_rf om) (by decide) _) (by decide) _, fun h6 => ?_, fun _ => ?_⟩
    · refine ⟨K.1 3, K.1 3, 0, ⟨hK.1.2.2.2.1, hK.1.2.2.2.1, by decide⟩, ?_, ?_, rfl, rfl, us_s _ _ _, fun j _ t => absurd t (by simp), ?_, fun j hj => rfl⟩
      · rw [kus_id]
        exact rC_copy od hC
      · rw [kus_id]
        exact rM_free (rM_free hM (by decide) _) (by decide) _
      · show (0 : Int32) = (us (us om 15 0) 16 0).1 15
        rw [us_n (by decide), us_s]
    · exact fl_in (p := 0) (f := oy.2 1) (n := 9) (j := w) (by decide) (by omega)
    · exact fl_in (p := 0) (f := oy.2 1) (n := 9) (j := 8) (by decide) (by decide)
  | succ k ih =>
    obtain ⟨i1, i2, i3, i4, i5, i6, i7⟩ := ih
    have hd := dr_lt (a := a) (by omega) k
    have hd1 : (75 * dr a k + 74) % 65537 < 65537 := Nat.mod_lt _ (by decide)
    show (fX4_year_L51s oc oy od k (fX4_year_L51 oc oy od (nI a) (fX1_begin oy od oc).2 k).1 (fX4_year_L51 oc oy od (nI a) (fX1_begin oy od oc).2 k).2).1 = _ ∧ (fX5_year_L58s (nI w) k (fX5_year_L58 (nI w) 0 (nI a) (us (us om 15 0) 16 0) k).1 (fX5_year_L58 (nI w) 0 (nI a) (us (us om 15 0) 16 0) k).2.1 (fX5_year_L58 (nI w) 0 (nI a) (us (us om 15 0) 16 0) k).2.2).2.1 = _ ∧ rZ K (fX1_begin oy od oc).1 (fX4_year_L51s oc oy od k (fX4_year_L51 oc oy od (nI a) (fX1_begin oy od oc).2 k).1 (fX4_year_L51 oc oy od (nI a) (fX1_begin oy od oc).2 k).2).2 (fX5_year_L58s (nI w) k (fX5_year_L58 (nI w) 0 (nI a) (us (us om 15 0) 16 0) k).1 (fX5_year_L58 (nI w) 0 (nI a) (us (us om 15 0) 16 0) k).2.1 (fX5_year_L58 (nI w) 0 (nI a) (us (us om 15 0) 16 0) k).2.2).2.2 ∧ rM K (fX5_year_L58s (nI w) k (fX5_year_L58 (nI w) 0 (nI a) (us (us om 15 0) 16 0) k).1 (fX5_year_L58 (nI w) 0 (nI a) (us (us om 15 0) 16 0) k).2.1 (fX5_year_L58 (nI w) 0 (nI a) (us (us om 15 0) 16 0) k).2.2).2.2 ∧ frm om (fX5_year_L58s (nI w) k (fX5_year_L58 (nI w) 0 (nI a) (us (us om 15 0) 16 0) k).1 (fX5_year_L58 (nI w) 0 (nI a) (us (us om 15 0) 16 0) k).2.1 (fX5_year_L58 (nI w) 0 (nI a) (us (us om 15 0) 16 0) k).2.2).2.2 ∧ (w < 6 → (fX4_year_L51s oc oy od k (fX4_year_L51 oc oy od (nI a) (fX1_begin oy od oc).2 k).1 (fX4_year_L51 oc oy od (nI a) (fX1_begin oy od oc).2 k).2).2.2 1 w = (fX5_year_L58s (nI w) k (fX5_year_L58 (nI w) 0 (nI a) (us (us om 15 0) 16 0) k).1 (fX5_year_L58 (nI w) 0 (nI a) (us (us om 15 0) 16 0) k).2.1 (fX5_year_L58 (nI w) 0 (nI a) (us (us om 15 0) 16 0) k).2.2).1) ∧ (w = 6 → (fX4_year_L51s oc oy od k (fX4_year_L51 oc oy od (nI a) (fX1_begin oy od oc).2 k).1 (fX4_year_L51 oc oy od (nI a) (fX1_begin oy od oc).2 k).2).2.2 1 8 = (fX5_year_L58s (nI w) k (fX5_year_L58 (nI w) 0 (nI a) (us (us om 15 0) 16 0) k).1 (fX5_year_L58 (nI w) 0 (nI a) (us (us om 15 0) 16 0) k).2.1 (fX5_year_L58 (nI w) 0 (nI a) (us (us om 15 0) 16 0) k).2.2).1)
    generalize fX4_year_L51 oc oy od (nI a) (fX1_begin oy od oc).2 k = u at i1 i3 i6 i7 ⊢
    generalize fX5_year_L58 (nI w) 0 (nI a) (us (us om 15 0) 16 0) k = m at i2 i3 i4 i5 i6 i7 ⊢
    obtain ⟨u1, y⟩ := u
    obtain ⟨m1, m2, o⟩ := m
    dsimp only at i1 i2 i3 i4 i5 i6 i7 ⊢
    subst i1 i2
    unfold fX4_year_L51s fX5_year_L58s fX5_year_L58s_x6 fX5_year_L58s_x6_x13
    rw [dr_C hd, dr_M hd, dr_10 hd1]
    have r10 : (75 * dr a k + 74) % 65537 % 10 < 10 := Nat.mod_lt _ (by decide)
    generalize hr : (75 * dr a k + 74) % 65537 % 10 = r at r10
    generalize (fX1_begin oy od oc).1 = d at i3 ⊢
    have hy2 := Y_rain hK i3 r10
    obtain ⟨q1, q2⟩ := rain_1 y d (nI r) (fun _ => o.2 14)
    generalize (if (fX5_rulersBy o (nI r)) = 0 then (o.1 16) else (fX5_rulersBy o (nI r))) = s at hy2 ⊢
    generalize fX1_rain y d (nI r) = z at q1 q2 ⊢
    obtain ⟨b, h, g, hb, h1, h2, h3, h4, h5, h6, h7, h8⟩ := id hy2
    rw [← q1] at h4 h7
    refine ⟨rfl, rfl, ?_, rM_free (rM_free i4 (by decide) _) (by decide) _, fr_rule i5 _, fun h6' => ?_, fun h6' => ?_⟩
    · show rY K d ((fX1_pass z d 1).1, fun _ => (fX5_rule o s).2 14) (fX5_rule o s)
      rw [pass_1]
      exact ⟨b, h, g, hb, h1, h2, h3, h4, h5, h6, h7, fun _ _ => rfl⟩
    · rw [pass_p hb.2.2 h4 h6', q2, i6 h6', if_neg (nl6 w h6'), h5, shr1 (by omega) (by omega)]
    · subst h6'
      rw [pass_8 hb.2.2 h4, q2, i7 rfl, h5, if_pos (show (6 : Int32) ≤ nI 6 by decide)]
theorem op_year {K : KV} {oc om : OV} (oy od : OV) (h : RK K oc om) (p0 p1 p2 : Int32) : RK K oc (fX5_year om p0 p1 p2).2 ∧ (fX4_year oc oy od p0 p1 p2).1 = (fX5_year om p0 p1 p2).1 ∧ frm om (fX5_year om p0 p1 p2).2 := by
  unfold fX4_year fX5_year
  rw [in_wi (x := p0) (a := 0) (b := 9999) (a' := 0) (b' := 9999) (by decide) (by decide), in_wi (x := p1) (a := 1) (b := 99) (a' := 1) (b' := 99) (by decide) (by decide), in_wi (x := p2) (a := 0) (b := 7) (a' := 0) (b' := 7) (by decide) (by decide)]
  by_cases g0 : fX4_within p0 0 9999 = 0
  · rw [if_pos g0, if_pos g0]; exact ⟨h, rfl, frm_rf om⟩
  rw [if_neg g0, if_neg g0]
  by_cases g1 : fX4_within p1 1 99 = 0
  · rw [if_pos g1, if_pos g1]; exact ⟨h, rfl, frm_rf om⟩
  rw [if_neg g1, if_neg g1]
  by_cases g2 : fX4_within p2 0 7 = 0
  · rw [if_pos g2, if_pos g2]; exact ⟨h, rfl, frm_rf om⟩
  rw [if_neg g2, if_neg g2]
  obtain ⟨a, -, ha, rfl⟩ := wi_N (n := 0) (m := 9999) (by decide) (by decide) g0
  obtain ⟨w, -, hw, rfl⟩ := wi_N (n := 0) (m := 7) (by decide) (by decide) g2
  obtain ⟨i1, i2, i3, i4, i5, i6, i7⟩ := yr_L (oy := oy) (od := od) h.1 h.2.1 h.2.2 (a := a) (w := w) (by omega) (by omega) p1.toNatClampNeg
  generalize fX4_year_L51 oc oy od (nI a) (fX1_begin oy od oc).2 p1.toNatClampNeg = u at i1 i3 i6 i7 ⊢
  generalize fX5_year_L58 (nI w) 0 (nI a) (us (us om 15 0) 16 0) p1.toNatClampNeg = m at i2 i3 i4 i5 i6 i7 ⊢
  by_cases e7 : nI w = 7
  · rw [if_pos e7, if_pos e7]
    obtain ⟨b, hh, g, hb, h1, h2, h3, h4, h5, h6, h7, h8⟩ := i3
    exact ⟨⟨h.1, h.2.1, i4⟩, h7, i5⟩
  rw [if_neg e7, if_neg e7]
  refine ⟨⟨h.1, h.2.1, i4⟩, ?_, i5⟩
  dsimp only
  have hw7 : w ≤ 6 := by
    by_cases z : w = 7
    · subst z; exact absurd rfl e7
    · omega
  unfold fX1_yearsOf
  by_cases e6 : w = 6
  · subst e6
    rw [if_pos (show nI 6 = 6 from rfl), if_neg (show ¬ fX4_within 8 0 8 = 0 by decide)]
    exact i7 rfl
  · have ew : fX4_within (nI w) 0 8 = 1 := (wi_nI (v := w) (a := 0) (b := 8) (by omega) (by decide) (by decide)).trans (if_pos (by omega))
    rw [if_neg (show ¬ nI w = 6 from fun z => e6 ((nI_eq (b := 6) (by omega) (by decide)).mp z)), ew, if_neg (show ¬ (1 : Int32) = 0 by decide), nI_clamp (by omega)]
    exact i6 (by omega)
