/-! THE LAW, its cases: laid by wip/whole/gen/law.py -/
set_option maxHeartbeats 4000000 in
set_option maxRecDepth 100000 in
theorem lc_23 {p : Program} {l : Launch} {e : Env} {s : State} {m : MethodId} {below : List Frame} {meth : Method} {c : Code} {D : va_G} {cI cZ cC : ClassId} {b L : Nat} {xs : Nat → Int32} {hq hc hu hi hg hy hw hm hd : Nat} {ac au ag ay aw am ad : Nat → Nat} {f : Nat → Option Nat} {oc ou og oy ow om od : OV} {x : xV} {H : Heap} {locs : List Loc} {cells slots : Nat} {ls : Array Slot} {i : Nat} (C0 : lw_At p s m meth c b L xs) (hts : ∀ w ∈ wsL_law, w.before #[Value.ref b] s = true) (hL : L ≤ 3072) (hi6 : i + 6 ≤ L) (hK : va_K D vwCl (tyv cI cZ cC) s) (hN : nwk s) (hl : lv_has ls 4 [(0, .ref b), (1, .ref hq), (2, .ref hm), (3, .int (nI i))]) (hv : vI oc og om f x) (hP : va_P D vwCl (List.flatten (wB cI cZ cC hq hc hu hi hg hy hw hm hd ac au ag ay aw am ad f oc ou og oy ow om od x)) H) (hD : va_D (fun q : Nat => s.heap.size ≤ q) (List.flatten (wB cI cZ cC hq hc hu hi hg hy hw hm hd ac au ag ay aw am ad f oc ou og oy ow om od x))) (hS : va_S (fun q : Nat => s.heap.size ≤ q) s.heap H locs) (hcl : cells ≤ 599000 ∧ slots ≤ 7300000) (kk : ∀ (oc ou og oy ow om od : OV) (f : Nat → Option Nat) (x : xV) (H : Heap) (locs : List Loc), vI oc og om f x → va_P D vwCl (List.flatten (wB cI cZ cC hq hc hu hi hg hy hw hm hd ac au ag ay aw am ad f oc ou og oy ow om od x)) H → va_D (fun q : Nat => s.heap.size ≤ q) (List.flatten (wB cI cZ cC hq hc hu hi hg hy hw hm hd ac au ag ay aw am ad f oc ou og oy ow om od x)) → va_S (fun q : Nat => s.heap.size ≤ q) s.heap H locs → W p l e room_1 s m #[Value.ref b] below meth c H locs (cells + 6) (slots + 46) (lw_Z below #[Value.ref b] s) (F0 m 894 ls [])) : W p l e room_1 s m #[Value.ref b] below meth c H locs cells slots (lw_Z below #[Value.ref b] s) (F0 m 825 ls []) := by
  obtain ⟨hx, hb, hr, hml, hown, -, hX, hbl, hlocks, hgv⟩ := C0
  have hA : ∀ q : Nat, s.heap.size ≤ q → (fun q : Nat => s.heap.size ≤ q) q := fun _ h => h
  have hbA : ¬ (fun q : Nat => s.heap.size ≤ q) b := Nat.not_le.mpr hbl
  have hSF : CallFix p m c code 4 s #[Value.ref b] wsL_law RL := ⟨hx, hb, hml, hown, hts⟩
  have hr1 : cells ≤ room_1.cells ∧ slots ≤ room_1.slots := ⟨show cells ≤ 600000 by omega, show slots ≤ 7302250 by omega⟩
  have h0 := lv_at hl 0 rfl
  have h3 := lv_at hl 3 rfl
  obtain ⟨K, g, hR, hp, hI, hQ⟩ := hv
  by_cases h9 : fX4_within (xs (i + 1)) 0 1 = 0
  · skip
    have e9 : fX5_image om (xs (i + 1)) = (-2, om) := by
      unfold fX5_image
      rw [in_wi (x := xs (i + 1)) (a := 0) (b := 1) (a' := 0) (b' := 1) (by decide) (by decide), if_pos h9]
    refine lv_aload_n hx hb dL_law_825 rfl (lv_at hl 1 rfl) ?_
    refine lw_arg (k := 1) hx hb hX hbl hbA hS hL h0 h3 (by omega) (by decide) dL_law_826 dL_law_827 dL_law_828 dL_law_829 dL_law_830 ?_
    refine rcVi (b := hq) (As := [.int (xs (i + 1))]) (rest := []) hSF (kX4_image_bad l D cI cZ cC hq hc hu hi hg hy hw (xs (i + 1)) h9) (cwV 1 hts gL_law_X4_image rfl rfl rfl (by decide +kernel) ⟨Nat.le_of_ble_eq_true rfl, Nat.le_of_ble_eq_true rfl⟩) (va_recv hK (va_Pb (wc := wX4 hq hc hu hi hg hy hw) (bs := [wX4 hq hc hu hi hg hy hw]) hP [0] rfl rfl) (ci := 4) (q0 := 0) rfl rfl) (va_Pb (wc := []) (bs := []) hP [] rfl rfl) hK hN rfl rfl hl.1 (Nat.le_of_ble_eq_true rfl) dL_law_831 hr1 ?_
    refine lv_aload_n hx hb dL_law_834 rfl (lv_at hl 2 rfl) ?_
    refine lw_arg (k := 1) hx hb hX hbl hbA hS hL h0 h3 (by omega) (by decide) dL_law_835 dL_law_836 dL_law_837 dL_law_838 dL_law_839 ?_
    refine wcViB (b := hm) (As := [.int (xs (i + 1))]) (rest := [.int (-2)]) (Bs := [wX4 hq hc hu hi hg hy hw, wX0 cI hc ac oc, wX0 cI hu au ou, wXi cC hi f, wX2 cI hg ag og, wX1 cI hd hy ay oy ++ wX0 cI hd ad od, wX3 cI hw aw ow, wX5 cI cZ hm am om, pk cI (x 0), pk cI (x 1)]) (bsC := [wX5 cI cZ hm am om]) (bsR := [wX4 hq hc hu hi hg hy hw, wX0 cI hc ac oc, wX0 cI hu au ou, wXi cC hi f, wX2 cI hg ag og, wX1 cI hd hy ay oy ++ wX0 cI hd ad od, wX3 cI hw aw ow, pk cI (x 0), pk cI (x 1)]) (Bs' := [wX4 hq hc hu hi hg hy hw, wX0 cI hc ac oc, wX0 cI hu au ou, wXi cC hi f, wX2 cI hg ag og, wX1 cI hd hy ay oy ++ wX0 cI hd ad od, wX3 cI hw aw ow, wX5 cI cZ hm am (fX5_image om (xs (i + 1))).2, pk cI (x 0), pk cI (x 1)]) hSF (kX5_image l D cI cZ cC hm am om (xs (i + 1))) (cwV 1 hts gL_law_X5_image rfl rfl rfl (by decide +kernel) ⟨Nat.le_of_ble_eq_true rfl, Nat.le_of_ble_eq_true rfl⟩) (va_recv hK (va_Pb (wc := wX5 cI cZ hm am om) (bs := [wX5 cI cZ hm am om]) hP [7] rfl rfl) (ci := 5) (q0 := 0) rfl rfl) hP hD hS hA hK hN [7, 0, 1, 2, 3, 4, 5, 6, 8, 9] [1, 2, 3, 4, 5, 6, 7, 0, 8, 9] [wX5 cI cZ hm am (fX5_image om (xs (i + 1))).2] rfl (by decide) rfl rfl rfl (by decide) rfl rfl rfl rfl hl.1 (Nat.le_of_ble_eq_true rfl) dL_law_840 hr1 (fun H locs hP hD hS => ?_)
    refine lw_same hx hb (show (-2 : Int32) = (fX5_image om (xs (i + 1))).1 by rw [e9]) dL_law_843 (by decide) ?_
    refine W.widen (k := cells + 6) (n := slots + 46) (by omega) (by omega) ?_
    exact kk _ _ _ _ _ _ _ _ (x) _ _ (by rw [e9]; exact ⟨K, g, hR, hp, hI, hQ⟩) hP hD hS
  obtain ⟨n, hn, ep⟩ := vp_nI (wi2 h9) (by decide)
  rw [ep] at h9
  have en : (nI n).toNatClampNeg = n := nI_clamp (by omega)
  obtain ⟨q1, q2, q3⟩ := hQ n hn
  cases hxn : x n with
  | none =>
    rw [hxn] at q1
    have q1 : f (nI n).toNatClampNeg = none := by rw [en]; exact q1
    obtain ⟨j1, j2, j3, j4, j5⟩ := op_imageM hR.1 hR.2.2 hI hn
    refine lv_aload_n hx hb dL_law_825 rfl (lv_at hl 1 rfl) ?_
    refine lw_arg (k := 1) hx hb hX hbl hbA hS hL h0 h3 (by omega) (by decide) dL_law_826 dL_law_827 dL_law_828 dL_law_829 dL_law_830 ?_
    rw [ep]
    have hP := va_P_p hP (fl_perm (pool_out (x := x) hn))
    have hD := va_D_pm hD (fl_perm (pool_out (x := x) hn))
    have ex0 : pk cI (x n) = [] := by rw [hxn]; rfl
    rw [ex0] at hP hD
    have hP : va_P D vwCl (List.flatten [wX4 hq hc hu hi hg hy hw, wX0 cI hc ac oc, wX0 cI hu au ou, wXi cC hi f, wX2 cI hg ag og, wX1 cI hd hy ay oy ++ wX0 cI hd ad od, wX3 cI hw aw ow, wX5 cI cZ hm am om, pk cI (x (1 - n))]) H := hP
    have hD : va_D (fun q : Nat => s.heap.size ≤ q) (List.flatten [wX4 hq hc hu hi hg hy hw, wX0 cI hc ac oc, wX0 cI hu au ou, wXi cC hi f, wX2 cI hg ag og, wX1 cI hd hy ay oy ++ wX0 cI hd ad od, wX3 cI hw aw ow, wX5 cI cZ hm am om, pk cI (x (1 - n))]) := hD
    refine wcVeB (b := hq) (As := [.int (nI n)]) (rest := []) (Bs := [wX4 hq hc hu hi hg hy hw, wX0 cI hc ac oc, wX0 cI hu au ou, wXi cC hi f, wX2 cI hg ag og, wX1 cI hd hy ay oy ++ wX0 cI hd ad od, wX3 cI hw aw ow, wX5 cI cZ hm am om, pk cI (x (1 - n))]) (bsC := [wX4 hq hc hu hi hg hy hw, wX0 cI hc ac oc, wXi cC hi f]) (bsR := [wX0 cI hu au ou, wX2 cI hg ag og, wX1 cI hd hy ay oy ++ wX0 cI hd ad od, wX3 cI hw aw ow, wX5 cI cZ hm am om, pk cI (x (1 - n))]) (Bs' := fun u => [wX4 hq hc hu hi hg hy hw, wX0 cI hc ac oc, wX0 cI hu au ou, wXi cC hi (va_up f (nI n).toNatClampNeg (some u.1)), wX2 cI hg ag og, wX1 cI hd hy ay oy ++ wX0 cI hd ad od, wX3 cI hw aw ow, wX5 cI cZ hm am om, pk cI (some (u.1, u.2, fX0_copyFrom iX0 oc)), pk cI (x (1 - n))]) hSF (kX4_image_none l D cI cZ cC hq hc hu hi hg hy hw ac oc f (nI n) h9 q1) (cwV 1 hts gL_law_X4_image rfl rfl rfl (by decide +kernel) ⟨Nat.le_of_ble_eq_true rfl, Nat.le_of_ble_eq_true rfl⟩) (va_recv hK (va_Pb (wc := wX4 hq hc hu hi hg hy hw) (bs := [wX4 hq hc hu hi hg hy hw]) hP [0] rfl rfl) (ci := 4) (q0 := 0) rfl rfl) hP hD hS hA hK hN [0, 1, 3, 2, 4, 5, 6, 7, 8] [0, 1, 4, 2, 5, 6, 7, 8, 3, 9] (fun u => [wX4 hq hc hu hi hg hy hw, wX0 cI hc ac oc, wXi cC hi (va_up f (nI n).toNatClampNeg (some u.1)), pk cI (some (u.1, u.2, fX0_copyFrom iX0 oc))]) rfl (by decide) rfl rfl (fun _ => rfl) (by decide) (fun _ => rfl) (fun _ => rfl) rfl rfl hl.1 (Nat.le_of_ble_eq_true rfl) dL_law_831 ⟨show cells + 6 ≤ 600000 by omega, show slots + 46 ≤ 7302250 by omega⟩ (fun u H locs hP hD hS => ?_)
    have hP := va_P_p hP (fl_perm (pool_in (x := x) hn))
    have hD := va_D_pm hD (fl_perm (pool_in (x := x) hn))
    refine lv_aload_n hx hb dL_law_834 rfl (lv_at hl 2 rfl) ?_
    refine lw_arg (k := 1) hx hb hX hbl hbA hS hL h0 h3 (by omega) (by decide) dL_law_835 dL_law_836 dL_law_837 dL_law_838 dL_law_839 ?_
    rw [ep]
    refine wcViB (b := hm) (As := [.int (nI n)]) (rest := [.int 1]) (Bs := [wX4 hq hc hu hi hg hy hw, wX0 cI hc ac oc, wX0 cI hu au ou, wXi cC hi (va_up f (nI n).toNatClampNeg (some u.1)), wX2 cI hg ag og, wX1 cI hd hy ay oy ++ wX0 cI hd ad od, wX3 cI hw aw ow, wX5 cI cZ hm am om, pk cI ((fun j => if j = n then (some (u.1, u.2, fX0_copyFrom iX0 oc)) else x j : xV) 0), pk cI ((fun j => if j = n then (some (u.1, u.2, fX0_copyFrom iX0 oc)) else x j : xV) 1)]) (bsC := [wX5 cI cZ hm am om]) (bsR := [wX4 hq hc hu hi hg hy hw, wX0 cI hc ac oc, wX0 cI hu au ou, wXi cC hi (va_up f (nI n).toNatClampNeg (some u.1)), wX2 cI hg ag og, wX1 cI hd hy ay oy ++ wX0 cI hd ad od, wX3 cI hw aw ow, pk cI ((fun j => if j = n then (some (u.1, u.2, fX0_copyFrom iX0 oc)) else x j : xV) 0), pk cI ((fun j => if j = n then (some (u.1, u.2, fX0_copyFrom iX0 oc)) else x j : xV) 1)]) (Bs' := [wX4 hq hc hu hi hg hy hw, wX0 cI hc ac oc, wX0 cI hu au ou, wXi cC hi (va_up f (nI n).toNatClampNeg (some u.1)), wX2 cI hg ag og, wX1 cI hd hy ay oy ++ wX0 cI hd ad od, wX3 cI hw aw ow, wX5 cI cZ hm am (fX5_image om (nI n)).2, pk cI ((fun j => if j = n then (some (u.1, u.2, fX0_copyFrom iX0 oc)) else x j : xV) 0), pk cI ((fun j => if j = n then (some (u.1, u.2, fX0_copyFrom iX0 oc)) else x j : xV) 1)]) hSF (kX5_image l D cI cZ cC hm am om (nI n)) (cwV 1 hts gL_law_X5_image rfl rfl rfl (by decide +kernel) ⟨Nat.le_of_ble_eq_true rfl, Nat.le_of_ble_eq_true rfl⟩) (va_recv hK (va_Pb (wc := wX5 cI cZ hm am om) (bs := [wX5 cI cZ hm am om]) hP [7] rfl rfl) (ci := 5) (q0 := 0) rfl rfl) hP hD hS hA hK hN [7, 0, 1, 2, 3, 4, 5, 6, 8, 9] [1, 2, 3, 4, 5, 6, 7, 0, 8, 9] [wX5 cI cZ hm am (fX5_image om (nI n)).2] rfl (by decide) rfl rfl rfl (by decide) rfl rfl rfl rfl hl.1 (Nat.le_of_ble_eq_true rfl) dL_law_840 ⟨show cells + 6 + 0 ≤ 600000 by omega, show slots + 46 + 0 ≤ 7302250 by omega⟩ (fun H locs hP hD hS => ?_)
    refine lw_same hx hb j1.symm dL_law_843 (by decide) ?_
    refine W.widen (k := cells + 6) (n := slots + 46) (by omega) (by omega) ?_
    exact kk _ _ _ _ _ _ _ _ ((fun j => if j = n then (some (u.1, u.2, fX0_copyFrom iX0 oc)) else x j : xV)) _ _ ⟨K, _, ⟨hR.1, hR.2.1, j2⟩, rP_eq hp j4 j5, j3, rQ_set (y := (u.1, u.2, fX0_copyFrom iX0 oc)) hQ (rC_copy iX0 hR.2.1) (by rw [en]; exact va_up_self _ _ _) (fun j hj => by rw [en]; exact va_up_ne _ _ hj)⟩ hP hD hS
  | some y =>
    obtain ⟨hk, ak, ok⟩ := y
    rw [hxn] at q1
    have q1 : f (nI n).toNatClampNeg = some hk := by rw [en]; exact q1
    obtain ⟨K2, g1, g2⟩ := q3 _ hxn
    obtain ⟨j1, j2, j3, j4, j5⟩ := op_imageM hR.1 hR.2.2 hI hn
    refine lv_aload_n hx hb dL_law_825 rfl (lv_at hl 1 rfl) ?_
    refine lw_arg (k := 1) hx hb hX hbl hbA hS hL h0 h3 (by omega) (by decide) dL_law_826 dL_law_827 dL_law_828 dL_law_829 dL_law_830 ?_
    rw [ep]
    have hP := va_P_p hP (fl_perm (pool_out (x := x) hn))
    have hD := va_D_pm hD (fl_perm (pool_out (x := x) hn))
    rw [hxn] at hP hD
    refine wcViB (b := hq) (As := [.int (nI n)]) (rest := []) (Bs := [wX4 hq hc hu hi hg hy hw, wX0 cI hc ac oc, wX0 cI hu au ou, wXi cC hi f, wX2 cI hg ag og, wX1 cI hd hy ay oy ++ wX0 cI hd ad od, wX3 cI hw aw ow, wX5 cI cZ hm am om, pk cI (some (hk, ak, ok)), pk cI (x (1 - n))]) (bsC := [wX4 hq hc hu hi hg hy hw, wX0 cI hc ac oc, wXi cC hi f, pk cI (some (hk, ak, ok))]) (bsR := [wX0 cI hu au ou, wX2 cI hg ag og, wX1 cI hd hy ay oy ++ wX0 cI hd ad od, wX3 cI hw aw ow, wX5 cI cZ hm am om, pk cI (x (1 - n))]) (Bs' := [wX4 hq hc hu hi hg hy hw, wX0 cI hc ac oc, wX0 cI hu au ou, wXi cC hi f, wX2 cI hg ag og, wX1 cI hd hy ay oy ++ wX0 cI hd ad od, wX3 cI hw aw ow, wX5 cI cZ hm am om, pk cI (some (hk, ak, (fX0_copyFrom ok oc))), pk cI (x (1 - n))]) hSF (kX4_image_some l D cI cZ cC hq hc hu hi hg hy hw ac oc f hk ak ok (nI n) h9 q1) (cwV 1 hts gL_law_X4_image rfl rfl rfl (by decide +kernel) ⟨Nat.le_of_ble_eq_true rfl, Nat.le_of_ble_eq_true rfl⟩) (va_recv hK (va_Pb (wc := wX4 hq hc hu hi hg hy hw) (bs := [wX4 hq hc hu hi hg hy hw]) hP [0] rfl rfl) (ci := 4) (q0 := 0) rfl rfl) hP hD hS hA hK hN [0, 1, 3, 8, 2, 4, 5, 6, 7, 9] [0, 1, 4, 2, 5, 6, 7, 8, 3, 9] [wX4 hq hc hu hi hg hy hw, wX0 cI hc ac oc, wXi cC hi f, pk cI (some (hk, ak, (fX0_copyFrom ok oc)))] rfl (by decide) rfl rfl rfl (by decide) rfl rfl rfl rfl hl.1 (Nat.le_of_ble_eq_true rfl) dL_law_831 hr1 (fun H locs hP hD hS => ?_)
    have hP := va_P_p hP (fl_perm (pool_in (x := x) hn))
    have hD := va_D_pm hD (fl_perm (pool_in (x := x) hn))
    refine lv_aload_n hx hb dL_law_834 rfl (lv_at hl 2 rfl) ?_
    refine lw_arg (k := 1) hx hb hX hbl hbA hS hL h0 h3 (by omega) (by decide) dL_law_835 dL_law_836 dL_law_837 dL_law_838 dL_law_839 ?_
    rw [ep]
    refine wcViB (b := hm) (As := [.int (nI n)]) (rest := [.int 1]) (Bs := [wX4 hq hc hu hi hg hy hw, wX0 cI hc ac oc, wX0 cI hu au ou, wXi cC hi f, wX2 cI hg ag og, wX1 cI hd hy ay oy ++ wX0 cI hd ad od, wX3 cI hw aw ow, wX5 cI cZ hm am om, pk cI ((fun j => if j = n then (some (hk, ak, (fX0_copyFrom ok oc))) else x j : xV) 0), pk cI ((fun j => if j = n then (some (hk, ak, (fX0_copyFrom ok oc))) else x j : xV) 1)]) (bsC := [wX5 cI cZ hm am om]) (bsR := [wX4 hq hc hu hi hg hy hw, wX0 cI hc ac oc, wX0 cI hu au ou, wXi cC hi f, wX2 cI hg ag og, wX1 cI hd hy ay oy ++ wX0 cI hd ad od, wX3 cI hw aw ow, pk cI ((fun j => if j = n then (some (hk, ak, (fX0_copyFrom ok oc))) else x j : xV) 0), pk cI ((fun j => if j = n then (some (hk, ak, (fX0_copyFrom ok oc))) else x j : xV) 1)]) (Bs' := [wX4 hq hc hu hi hg hy hw, wX0 cI hc ac oc, wX0 cI hu au ou, wXi cC hi f, wX2 cI hg ag og, wX1 cI hd hy ay oy ++ wX0 cI hd ad od, wX3 cI hw aw ow, wX5 cI cZ hm am (fX5_image om (nI n)).2, pk cI ((fun j => if j = n then (some (hk, ak, (fX0_copyFrom ok oc))) else x j : xV) 0), pk cI ((fun j => if j = n then (some (hk, ak, (fX0_copyFrom ok oc))) else x j : xV) 1)]) hSF (kX5_image l D cI cZ cC hm am om (nI n)) (cwV 1 hts gL_law_X5_image rfl rfl rfl (by decide +kernel) ⟨Nat.le_of_ble_eq_true rfl, Nat.le_of_ble_eq_true rfl⟩) (va_recv hK (va_Pb (wc := wX5 cI cZ hm am om) (bs := [wX5 cI cZ hm am om]) hP [7] rfl rfl) (ci := 5) (q0 := 0) rfl rfl) hP hD hS hA hK hN [7, 0, 1, 2, 3, 4, 5, 6, 8, 9] [1, 2, 3, 4, 5, 6, 7, 0, 8, 9] [wX5 cI cZ hm am (fX5_image om (nI n)).2] rfl (by decide) rfl rfl rfl (by decide) rfl rfl rfl rfl hl.1 (Nat.le_of_ble_eq_true rfl) dL_law_840 hr1 (fun H locs hP hD hS => ?_)
    refine lw_same hx hb j1.symm dL_law_843 (by decide) ?_
    refine W.widen (k := cells + 6) (n := slots + 46) (by omega) (by omega) ?_
    exact kk _ _ _ _ _ _ _ _ ((fun j => if j = n then (some (hk, ak, (fX0_copyFrom ok oc))) else x j : xV)) _ _ ⟨K, _, ⟨hR.1, hR.2.1, j2⟩, rP_eq hp j4 j5, j3, rQ_set (y := (hk, ak, fX0_copyFrom ok oc)) hQ (rC_copy ok hR.2.1) (by rw [← q1, en]) (fun _ _ => rfl)⟩ hP hD hS
set_option maxHeartbeats 4000000 in
set_option maxRecDepth 100000 in
theorem lc_24 {p : Program} {l : Launch} {e : Env} {s : State} {m : MethodId} {below : List Frame} {meth : Method} {c : Code} {D : va_G} {cI cZ cC : ClassId} {b L : Nat} {xs : Nat → Int32} {hq hc hu hi hg hy hw hm hd : Nat} {ac au ag ay aw am ad : Nat → Nat} {f : Nat → Option Nat} {oc ou og oy ow om od : OV} {x : xV} {H : Heap} {locs : List Loc} {cells slots : Nat} {ls : Array Slot} {i : Nat} (C0 : lw_At p s m meth c b L xs) (hts : ∀ w ∈ wsL_law, w.before #[Value.ref b] s = true) (hL : L ≤ 3072) (hi6 : i + 6 ≤ L) (hK : va_K D vwCl (tyv cI cZ cC) s) (hN : nwk s) (hl : lv_has ls 4 [(0, .ref b), (1, .ref hq), (2, .ref hm), (3, .int (nI i))]) (hv : vI oc og om f x) (hP : va_P D vwCl (List.flatten (wB cI cZ cC hq hc hu hi hg hy hw hm hd ac au ag ay aw am ad f oc ou og oy ow om od x)) H) (hD : va_D (fun q : Nat => s.heap.size ≤ q) (List.flatten (wB cI cZ cC hq hc hu hi hg hy hw hm hd ac au ag ay aw am ad f oc ou og oy ow om od x))) (hS : va_S (fun q : Nat => s.heap.size ≤ q) s.heap H locs) (hcl : cells ≤ 599000 ∧ slots ≤ 7300000) (kk : ∀ (oc ou og oy ow om od : OV) (f : Nat → Option Nat) (x : xV) (H : Heap) (locs : List Loc), vI oc og om f x → va_P D vwCl (List.flatten (wB cI cZ cC hq hc hu hi hg hy hw hm hd ac au ag ay aw am ad f oc ou og oy ow om od x)) H → va_D (fun q : Nat => s.heap.size ≤ q) (List.flatten (wB cI cZ cC hq hc hu hi hg hy hw hm hd ac au ag ay aw am ad f oc ou og oy ow om od x)) → va_S (fun q : Nat => s.heap.size ≤ q) s.heap H locs → W p l e room_1 s m #[Value.ref b] below meth c H locs (cells + 6) (slots + 46) (lw_Z below #[Value.ref b] s) (F0 m 894 ls [])) : W p l e room_1 s m #[Value.ref b] below meth c H locs cells slots (lw_Z below #[Value.ref b] s) (F0 m 848 ls []) := by
  obtain ⟨hx, hb, hr, hml, hown, -, hX, hbl, hlocks, hgv⟩ := C0
  have hA : ∀ q : Nat, s.heap.size ≤ q → (fun q : Nat => s.heap.size ≤ q) q := fun _ h => h
  have hbA : ¬ (fun q : Nat => s.heap.size ≤ q) b := Nat.not_le.mpr hbl
  have hSF : CallFix p m c code 4 s #[Value.ref b] wsL_law RL := ⟨hx, hb, hml, hown, hts⟩
  have hr1 : cells ≤ room_1.cells ∧ slots ≤ room_1.slots := ⟨show cells ≤ 600000 by omega, show slots ≤ 7302250 by omega⟩
  have h0 := lv_at hl 0 rfl
  have h3 := lv_at hl 3 rfl
  obtain ⟨K, g, hR, hp, hI, hQ⟩ := hv
  by_cases h9 : fX4_within (xs (i + 1)) 0 1 = 0
  · skip
    have e9 : fX5_restore om (xs (i + 1)) = (-2, om) := by
      unfold fX5_restore
      rw [in_wi (x := xs (i + 1)) (a := 0) (b := 1) (a' := 0) (b' := 1) (by decide) (by decide), if_pos h9]
    refine lv_aload_n hx hb dL_law_848 rfl (lv_at hl 1 rfl) ?_
    refine lw_arg (k := 1) hx hb hX hbl hbA hS hL h0 h3 (by omega) (by decide) dL_law_849 dL_law_850 dL_law_851 dL_law_852 dL_law_853 ?_
    refine rcVi (b := hq) (As := [.int (xs (i + 1))]) (rest := []) hSF (kX4_restore_bad l D cI cZ cC hq hc hu hi hg hy hw (xs (i + 1)) h9) (cwV 1 hts gL_law_X4_restore rfl rfl rfl (by decide +kernel) ⟨Nat.le_of_ble_eq_true rfl, Nat.le_of_ble_eq_true rfl⟩) (va_recv hK (va_Pb (wc := wX4 hq hc hu hi hg hy hw) (bs := [wX4 hq hc hu hi hg hy hw]) hP [0] rfl rfl) (ci := 4) (q0 := 0) rfl rfl) (va_Pb (wc := []) (bs := []) hP [] rfl rfl) hK hN rfl rfl hl.1 (Nat.le_of_ble_eq_true rfl) dL_law_854 hr1 ?_
    refine lv_aload_n hx hb dL_law_857 rfl (lv_at hl 2 rfl) ?_
    refine lw_arg (k := 1) hx hb hX hbl hbA hS hL h0 h3 (by omega) (by decide) dL_law_858 dL_law_859 dL_law_860 dL_law_861 dL_law_862 ?_
    refine wcViB (b := hm) (As := [.int (xs (i + 1))]) (rest := [.int (-2)]) (Bs := [wX4 hq hc hu hi hg hy hw, wX0 cI hc ac oc, wX0 cI hu au ou, wXi cC hi f, wX2 cI hg ag og, wX1 cI hd hy ay oy ++ wX0 cI hd ad od, wX3 cI hw aw ow, wX5 cI cZ hm am om, pk cI (x 0), pk cI (x 1)]) (bsC := [wX5 cI cZ hm am om]) (bsR := [wX4 hq hc hu hi hg hy hw, wX0 cI hc ac oc, wX0 cI hu au ou, wXi cC hi f, wX2 cI hg ag og, wX1 cI hd hy ay oy ++ wX0 cI hd ad od, wX3 cI hw aw ow, pk cI (x 0), pk cI (x 1)]) (Bs' := [wX4 hq hc hu hi hg hy hw, wX0 cI hc ac oc, wX0 cI hu au ou, wXi cC hi f, wX2 cI hg ag og, wX1 cI hd hy ay oy ++ wX0 cI hd ad od, wX3 cI hw aw ow, wX5 cI cZ hm am (fX5_restore om (xs (i + 1))).2, pk cI (x 0), pk cI (x 1)]) hSF (kX5_restore l D cI cZ cC hm am om (xs (i + 1))) (cwV 1 hts gL_law_X5_restore rfl rfl rfl (by decide +kernel) ⟨Nat.le_of_ble_eq_true rfl, Nat.le_of_ble_eq_true rfl⟩) (va_recv hK (va_Pb (wc := wX5 cI cZ hm am om) (bs := [wX5 cI cZ hm am om]) hP [7] rfl rfl) (ci := 5) (q0 := 0) rfl rfl) hP hD hS hA hK hN [7, 0, 1, 2, 3, 4, 5, 6, 8, 9] [1, 2, 3, 4, 5, 6, 7, 0, 8, 9] [wX5 cI cZ hm am (fX5_restore om (xs (i + 1))).2] rfl (by decide) rfl rfl rfl (by decide) rfl rfl rfl rfl hl.1 (Nat.le_of_ble_eq_true rfl) dL_law_863 hr1 (fun H locs hP hD hS => ?_)
    refine lw_same hx hb (show (-2 : Int32) = (fX5_restore om (xs (i + 1))).1 by rw [e9]) dL_law_866 (by decide) ?_
    refine W.widen (k := cells + 6) (n := slots + 46) (by omega) (by omega) ?_
    exact kk _ _ _ _ _ _ _ _ (x) _ _ (by rw [e9]; exact ⟨K, g, hR, hp, hI, hQ⟩) hP hD hS
  obtain ⟨n, hn, ep⟩ := vp_nI (wi2 h9) (by decide)
  rw [ep] at h9
  have en : (nI n).toNatClampNeg = n := nI_clamp (by omega)
  obtain ⟨q1, q2, q3⟩ := hQ n hn
  cases hxn : x n with
  | none =>
    rw [hxn] at q1
    have q1 : f (nI n).toNatClampNeg = none := by rw [en]; exact q1
    have e9 := op_restoreN hI hn (q2 hxn)
    refine lv_aload_n hx hb dL_law_848 rfl (lv_at hl 1 rfl) ?_
    refine lw_arg (k := 1) hx hb hX hbl hbA hS hL h0 h3 (by omega) (by decide) dL_law_849 dL_law_850 dL_law_851 dL_law_852 dL_law_853 ?_
    rw [ep]
    refine rcVi (b := hq) (As := [.int (nI n)]) (rest := []) hSF (kX4_restore_none l D cI cZ cC hq hc hu hi hg hy hw f (nI n) h9 q1) (cwV 1 hts gL_law_X4_restore rfl rfl rfl (by decide +kernel) ⟨Nat.le_of_ble_eq_true rfl, Nat.le_of_ble_eq_true rfl⟩) (va_recv hK (va_Pb (wc := wX4 hq hc hu hi hg hy hw) (bs := [wX4 hq hc hu hi hg hy hw]) hP [0] rfl rfl) (ci := 4) (q0 := 0) rfl rfl) (va_Pb (wc := wX4 hq hc hu hi hg hy hw ++ wXi cC hi f) (bs := [wX4 hq hc hu hi hg hy hw, wXi cC hi f]) hP [0, 3] rfl rfl) hK hN rfl rfl hl.1 (Nat.le_of_ble_eq_true rfl) dL_law_854 hr1 ?_
    refine lv_aload_n hx hb dL_law_857 rfl (lv_at hl 2 rfl) ?_
    refine lw_arg (k := 1) hx hb hX hbl hbA hS hL h0 h3 (by omega) (by decide) dL_law_858 dL_law_859 dL_law_860 dL_law_861 dL_law_862 ?_
    rw [ep]
    refine wcViB (b := hm) (As := [.int (nI n)]) (rest := [.int (-3)]) (Bs := [wX4 hq hc hu hi hg hy hw, wX0 cI hc ac oc, wX0 cI hu au ou, wXi cC hi f, wX2 cI hg ag og, wX1 cI hd hy ay oy ++ wX0 cI hd ad od, wX3 cI hw aw ow, wX5 cI cZ hm am om, pk cI (x 0), pk cI (x 1)]) (bsC := [wX5 cI cZ hm am om]) (bsR := [wX4 hq hc hu hi hg hy hw, wX0 cI hc ac oc, wX0 cI hu au ou, wXi cC hi f, wX2 cI hg ag og, wX1 cI hd hy ay oy ++ wX0 cI hd ad od, wX3 cI hw aw ow, pk cI (x 0), pk cI (x 1)]) (Bs' := [wX4 hq hc hu hi hg hy hw, wX0 cI hc ac oc, wX0 cI hu au ou, wXi cC hi f, wX2 cI hg ag og, wX1 cI hd hy ay oy ++ wX0 cI hd ad od, wX3 cI hw aw ow, wX5 cI cZ hm am (fX5_restore om (nI n)).2, pk cI (x 0), pk cI (x 1)]) hSF (kX5_restore l D cI cZ cC hm am om (nI n)) (cwV 1 hts gL_law_X5_restore rfl rfl rfl (by decide +kernel) ⟨Nat.le_of_ble_eq_true rfl, Nat.le_of_ble_eq_true rfl⟩) (va_recv hK (va_Pb (wc := wX5 cI cZ hm am om) (bs := [wX5 cI cZ hm am om]) hP [7] rfl rfl) (ci := 5) (q0 := 0) rfl rfl) hP hD hS hA hK hN [7, 0, 1, 2, 3, 4, 5, 6, 8, 9] [1, 2, 3, 4, 5, 6, 7, 0, 8, 9] [wX5 cI cZ hm am (fX5_restore om (nI n)).2] rfl (by decide) rfl rfl rfl (by decide) rfl rfl rfl rfl hl.1 (Nat.le_of_ble_eq_true rfl) dL_law_863 hr1 (fun H locs hP hD hS => ?_)
    refine lw_same hx hb (show (-3 : Int32) = (fX5_restore om (nI n)).1 by rw [e9]) dL_law_866 (by decide) ?_
    refine W.widen (k := cells + 6) (n := slots + 46) (by omega) (by omega) ?_
    exact kk _ _ _ _ _ _ _ _ (x) _ _ (by rw [e9]; exact ⟨K, g, hR, hp, hI, hQ⟩) hP hD hS
  | some y =>
    obtain ⟨hk, ak, ok⟩ := y
    rw [hxn] at q1
    have q1 : f (nI n).toNatClampNeg = some hk := by rw [en]; exact q1
    obtain ⟨K2, g1, g2⟩ := q3 _ hxn
    obtain ⟨j1, j2, j3, j4, j5⟩ := op_restoreM hI hn g1
    have j6 := ((hI n hn).2 K2 g1).2.1
    refine lv_aload_n hx hb dL_law_848 rfl (lv_at hl 1 rfl) ?_
    refine lw_arg (k := 1) hx hb hX hbl hbA hS hL h0 h3 (by omega) (by decide) dL_law_849 dL_law_850 dL_law_851 dL_law_852 dL_law_853 ?_
    rw [ep]
    have hP := va_P_p hP (fl_perm (pool_out (x := x) hn))
    have hD := va_D_pm hD (fl_perm (pool_out (x := x) hn))
    rw [hxn] at hP hD
    refine wcViB (b := hq) (As := [.int (nI n)]) (rest := []) (Bs := [wX4 hq hc hu hi hg hy hw, wX0 cI hc ac oc, wX0 cI hu au ou, wXi cC hi f, wX2 cI hg ag og, wX1 cI hd hy ay oy ++ wX0 cI hd ad od, wX3 cI hw aw ow, wX5 cI cZ hm am om, pk cI (some (hk, ak, ok)), pk cI (x (1 - n))]) (bsC := [wX4 hq hc hu hi hg hy hw, wX0 cI hc ac oc, wXi cC hi f, pk cI (some (hk, ak, ok))]) (bsR := [wX0 cI hu au ou, wX2 cI hg ag og, wX1 cI hd hy ay oy ++ wX0 cI hd ad od, wX3 cI hw aw ow, wX5 cI cZ hm am om, pk cI (x (1 - n))]) (Bs' := [wX4 hq hc hu hi hg hy hw, wX0 cI hc ac (fX0_copyFrom oc ok), wX0 cI hu au ou, wXi cC hi f, wX2 cI hg ag og, wX1 cI hd hy ay oy ++ wX0 cI hd ad od, wX3 cI hw aw ow, wX5 cI cZ hm am om, pk cI (some (hk, ak, ok)), pk cI (x (1 - n))]) hSF (kX4_restore_some l D cI cZ cC hq hc hu hi hg hy hw ac oc f hk ak ok (nI n) h9 q1) (cwV 1 hts gL_law_X4_restore rfl rfl rfl (by decide +kernel) ⟨Nat.le_of_ble_eq_true rfl, Nat.le_of_ble_eq_true rfl⟩) (va_recv hK (va_Pb (wc := wX4 hq hc hu hi hg hy hw) (bs := [wX4 hq hc hu hi hg hy hw]) hP [0] rfl rfl) (ci := 4) (q0 := 0) rfl rfl) hP hD hS hA hK hN [0, 1, 3, 8, 2, 4, 5, 6, 7, 9] [0, 1, 4, 2, 5, 6, 7, 8, 3, 9] [wX4 hq hc hu hi hg hy hw, wX0 cI hc ac (fX0_copyFrom oc ok), wXi cC hi f, pk cI (some (hk, ak, ok))] rfl (by decide) rfl rfl rfl (by decide) rfl rfl rfl rfl hl.1 (Nat.le_of_ble_eq_true rfl) dL_law_854 hr1 (fun H locs hP hD hS => ?_)
    have hP := va_P_p hP (fl_perm (pool_in (x := x) hn))
    have hD := va_D_pm hD (fl_perm (pool_in (x := x) hn))
    refine lv_aload_n hx hb dL_law_857 rfl (lv_at hl 2 rfl) ?_
    refine lw_arg (k := 1) hx hb hX hbl hbA hS hL h0 h3 (by omega) (by decide) dL_law_858 dL_law_859 dL_law_860 dL_law_861 dL_law_862 ?_
    rw [ep]
    refine wcViB (b := hm) (As := [.int (nI n)]) (rest := [.int 1]) (Bs := [wX4 hq hc hu hi hg hy hw, wX0 cI hc ac (fX0_copyFrom oc ok), wX0 cI hu au ou, wXi cC hi f, wX2 cI hg ag og, wX1 cI hd hy ay oy ++ wX0 cI hd ad od, wX3 cI hw aw ow, wX5 cI cZ hm am om, pk cI ((fun j => if j = n then (some (hk, ak, ok)) else x j : xV) 0), pk cI ((fun j => if j = n then (some (hk, ak, ok)) else x j : xV) 1)]) (bsC := [wX5 cI cZ hm am om]) (bsR := [wX4 hq hc hu hi hg hy hw, wX0 cI hc ac (fX0_copyFrom oc ok), wX0 cI hu au ou, wXi cC hi f, wX2 cI hg ag og, wX1 cI hd hy ay oy ++ wX0 cI hd ad od, wX3 cI hw aw ow, pk cI ((fun j => if j = n then (some (hk, ak, ok)) else x j : xV) 0), pk cI ((fun j => if j = n then (some (hk, ak, ok)) else x j : xV) 1)]) (Bs' := [wX4 hq hc hu hi hg hy hw, wX0 cI hc ac (fX0_copyFrom oc ok), wX0 cI hu au ou, wXi cC hi f, wX2 cI hg ag og, wX1 cI hd hy ay oy ++ wX0 cI hd ad od, wX3 cI hw aw ow, wX5 cI cZ hm am (fX5_restore om (nI n)).2, pk cI ((fun j => if j = n then (some (hk, ak, ok)) else x j : xV) 0), pk cI ((fun j => if j = n then (some (hk, ak, ok)) else x j : xV) 1)]) hSF (kX5_restore l D cI cZ cC hm am om (nI n)) (cwV 1 hts gL_law_X5_restore rfl rfl rfl (by decide +kernel) ⟨Nat.le_of_ble_eq_true rfl, Nat.le_of_ble_eq_true rfl⟩) (va_recv hK (va_Pb (wc := wX5 cI cZ hm am om) (bs := [wX5 cI cZ hm am om]) hP [7] rfl rfl) (ci := 5) (q0 := 0) rfl rfl) hP hD hS hA hK hN [7, 0, 1, 2, 3, 4, 5, 6, 8, 9] [1, 2, 3, 4, 5, 6, 7, 0, 8, 9] [wX5 cI cZ hm am (fX5_restore om (nI n)).2] rfl (by decide) rfl rfl rfl (by decide) rfl rfl rfl rfl hl.1 (Nat.le_of_ble_eq_true rfl) dL_law_863 hr1 (fun H locs hP hD hS => ?_)
    refine lw_same hx hb j1.symm dL_law_866 (by decide) ?_
    refine W.widen (k := cells + 6) (n := slots + 46) (by omega) (by omega) ?_
    exact kk _ _ _ _ _ _ _ _ ((fun j => if j = n then (some (hk, ak, ok)) else x j : xV)) _ _ ⟨K2, g, ⟨j6, rC_copy oc g2, j2⟩, rP_eq hp j4 j5, j3, rQ_id hQ hxn⟩ hP hD hS
