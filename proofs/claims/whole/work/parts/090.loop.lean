/-! THE LAW: its loop (laid by wip/whole/gen/loop.py) -/
theorem in_le {i L : Nat} (hL : L ≤ 3072) (hi : i ≤ 3072) (h : ¬ nI L - 6 < nI i) : i + 6 ≤ L := by
  have e6 : (6 : Int32).toInt = 6 := by decide
  have eL := nI_toInt (n := L) (by omega)
  have ei := nI_toInt (n := i) (by omega)
  have e : (nI L - 6).toInt = (L : Int) - 6 := by
    rw [fb_subI (by rw [eL, e6]; omega) (by rw [eL, e6]; omega), eL, e6]
  rw [Int32.lt_iff_toInt_lt, e, ei] at h
  omega
set_option maxHeartbeats 4000000 in
set_option maxRecDepth 100000 in
theorem law_loop {p : Program} {l : Launch} {e : Env} {s : State} {m : MethodId} {below : List Frame} {meth : Method} {c : Code} {D : va_G} {cI cZ cC : ClassId} {b L : Nat} {xs : Nat → Int32} {hq hc hu hi hg hy hw hm hd : Nat} {ac au ag ay aw am ad : Nat → Nat} (C0 : lw_At p s m meth c b L xs) (hts : ∀ w ∈ wsL_law, w.before #[Value.ref b] s = true) (hL : L ≤ 3072) (hK : va_K D vwCl (tyv cI cZ cC) s) (hN : nwk s) : ∀ (n i : Nat), i ≤ L → L + 1 ≤ i + n → ∀ (cells slots : Nat), cells ≤ 100 + i → slots ≤ 5000 + 8 * i → ∀ (oc ou og oy ow om od : OV) (f : Nat → Option Nat) (x : xV) (H : Heap) (locs : List Loc) (ls : Array Slot), vI oc og om f x → va_P D vwCl (List.flatten (wB cI cZ cC hq hc hu hi hg hy hw hm hd ac au ag ay aw am ad f oc ou og oy ow om od x)) H → va_D (fun q : Nat => s.heap.size ≤ q) (List.flatten (wB cI cZ cC hq hc hu hi hg hy hw hm hd ac au ag ay aw am ad f oc ou og oy ow om od x)) → va_S (fun q : Nat => s.heap.size ≤ q) s.heap H locs → lv_has ls 4 [(0, .ref b), (1, .ref hq), (2, .ref hm), (3, .int (nI i))] → W p l e room_1 s m #[Value.ref b] below meth c H locs cells slots (lw_Z below #[Value.ref b] s) (F0 m 18 ls []) := by
  intro n
  induction n with
  | zero => intro i h1 h2; exact absurd h2 (by omega)
  | succ n ih =>
    intro i hiL hin cells slots hc1 hs1 oc ou og oy ow om od f x H locs ls hv hP hD hS hl
    obtain ⟨hx, hb, hr, hml, hown, -, hX, hbl, hlocks, hgv⟩ := id C0
    have hbA : ¬ (fun q : Nat => s.heap.size ≤ q) b := Nat.not_le.mpr hbl
    refine lv_iload_n hx hb dL_law_18 rfl (lv_at hl 3 rfl) ?_
    refine lv_aload_n hx hb dL_law_19 rfl (lv_at hl 0 rfl) ?_
    refine va_slen hx hb hX hbl hbA hS dL_law_20 ?_
    refine lv_bipush (v := 6) hx hb dL_law_21 (by decide) ?_
    refine lv_isub hx hb dL_law_23 ?_
    refine lv_icmp_gt (tgt := 900) hx hb dL_law_24 (by decide) (fun _ => ?_) (fun c1 => ?_)
    · refine lv_iconst (v := 1) hx hb dL_law_900 (by decide) ?_
      refine va_forget (fun q hq => hS.2.2 q hq) ?_
      refine W.widen (k := 600000) (n := 7302250) (by omega) (by omega) ?_
      exact lw_ret hx hb hr hlocks dL_law_901
    · have hi6 : i + 6 ≤ L := in_le hL (by omega) c1
      have hcl : cells ≤ 599000 ∧ slots ≤ 7300000 := ⟨by omega, by omega⟩
      have kk : ∀ (oc ou og oy ow om od : OV) (f : Nat → Option Nat) (x : xV) (H : Heap) (locs : List Loc), vI oc og om f x → va_P D vwCl (List.flatten (wB cI cZ cC hq hc hu hi hg hy hw hm hd ac au ag ay aw am ad f oc ou og oy ow om od x)) H → va_D (fun q : Nat => s.heap.size ≤ q) (List.flatten (wB cI cZ cC hq hc hu hi hg hy hw hm hd ac au ag ay aw am ad f oc ou og oy ow om od x)) → va_S (fun q : Nat => s.heap.size ≤ q) s.heap H locs → W p l e room_1 s m #[Value.ref b] below meth c H locs (cells + 6) (slots + 46) (lw_Z below #[Value.ref b] s) (F0 m 894 ls []) := by
        intro oc ou og oy ow om od f x H locs hv hP hD hS
        refine lv_iinc (v := nI (i + 6)) (lv' := [(3, .int (nI (i + 6))), (0, .ref b), (1, .ref hq), (2, .ref hm)]) hx hb dL_law_894 hl (k := 3) rfl (nI_add i 6) (by decide) rfl (fun ls hl => ?_)
        refine lv_goto (tgt := 18) hx hb dL_law_897 (by decide) ?_
        exact ih (i + 6) hi6 (by omega) (cells + 6) (slots + 46) (by omega) (by omega) oc ou og oy ow om od f x H locs ls hv hP hD hS (lv_sub hl [1, 2, 3, 0] rfl)
      refine lv_aload_n hx hb dL_law_27 rfl (lv_at hl 0 rfl) ?_
      refine lv_iload_n hx hb dL_law_28 rfl (lv_at hl 3 rfl) ?_
      refine va_sld hx hb hX hbl hbA hS (vp_in_nI (show i < L by omega) (by omega)) dL_law_29 ?_
      refine lv_bipush (v := 31) hx hb dL_law_30 (by decide) ?_
      refine lv_iand hx hb dL_law_32 ?_
      obtain ⟨t, ht, et⟩ := pk_andE (xs (nI i).toNatClampNeg) (m := 31) 5 (by decide)
      rw [et]
      by_cases e0 : t = 0
      · rw [e0]
        refine lv_tableIn (off := 119) (tgt := 152) hx hb dL_law_33 (by decide) (by decide) (by decide) (by decide) ?_
        exact lc_0 C0 hts hL hi6 hK hN hl hv hP hD hS hcl kk
      by_cases e1 : t = 1
      · rw [e1]
        refine lv_tableIn (off := 198) (tgt := 231) hx hb dL_law_33 (by decide) (by decide) (by decide) (by decide) ?_
        exact lc_1 C0 hts hL hi6 hK hN hl hv hP hD hS hcl kk
      by_cases e2 : t = 2
      · rw [e2]
        refine lv_tableIn (off := 221) (tgt := 254) hx hb dL_law_33 (by decide) (by decide) (by decide) (by decide) ?_
        exact lc_2 C0 hts hL hi6 hK hN hl hv hP hD hS hcl kk
      by_cases e3 : t = 3
      · rw [e3]
        refine lv_tableIn (off := 270) (tgt := 303) hx hb dL_law_33 (by decide) (by decide) (by decide) (by decide) ?_
        exact lc_3 C0 hts hL hi6 hK hN hl hv hP hD hS hcl kk
      by_cases e4 : t = 4
      · rw [e4]
        refine lv_tableIn (off := 303) (tgt := 336) hx hb dL_law_33 (by decide) (by decide) (by decide) (by decide) ?_
        exact lc_4 C0 hts hL hi6 hK hN hl hv hP hD hS hcl kk
      by_cases e5 : t = 5
      · rw [e5]
        refine lv_tableIn (off := 326) (tgt := 359) hx hb dL_law_33 (by decide) (by decide) (by decide) (by decide) ?_
        exact lc_5 C0 hts hL hi6 hK hN hl hv hP hD hS hcl kk
      by_cases e6 : t = 6
      · rw [e6]
        refine lv_tableIn (off := 339) (tgt := 372) hx hb dL_law_33 (by decide) (by decide) (by decide) (by decide) ?_
        exact lc_6 C0 hts hL hi6 hK hN hl hv hP hD hS hcl kk
      by_cases e7 : t = 7
      · rw [e7]
        refine lv_tableIn (off := 352) (tgt := 385) hx hb dL_law_33 (by decide) (by decide) (by decide) (by decide) ?_
        exact lc_7 C0 hts hL hi6 hK hN hl hv hP hD hS hcl kk
      by_cases e8 : t = 8
      · rw [e8]
        refine lv_tableIn (off := 385) (tgt := 418) hx hb dL_law_33 (by decide) (by decide) (by decide) (by decide) ?_
        exact lc_8 C0 hts hL hi6 hK hN hl hv hP hD hS hcl kk
      by_cases e9 : t = 9
      · rw [e9]
        refine lv_tableIn (off := 418) (tgt := 451) hx hb dL_law_33 (by decide) (by decide) (by decide) (by decide) ?_
        exact lc_9 C0 hts hL hi6 hK hN hl hv hP hD hS hcl kk
      by_cases e10 : t = 10
      · rw [e10]
        refine lv_tableIn (off := 431) (tgt := 464) hx hb dL_law_33 (by decide) (by decide) (by decide) (by decide) ?_
        exact lc_10 C0 hts hL hi6 hK hN hl hv hP hD hS hcl kk
      by_cases e11 : t = 11
      · rw [e11]
        refine lv_tableIn (off := 454) (tgt := 487) hx hb dL_law_33 (by decide) (by decide) (by decide) (by decide) ?_
        exact lc_11 C0 hts hL hi6 hK hN hl hv hP hD hS hcl kk
      by_cases e12 : t = 12
      · rw [e12]
        refine lv_tableIn (off := 477) (tgt := 510) hx hb dL_law_33 (by decide) (by decide) (by decide) (by decide) ?_
        exact lc_12 C0 hts hL hi6 hK hN hl hv hP hD hS hcl kk
      by_cases e13 : t = 13
      · rw [e13]
        refine lv_tableIn (off := 510) (tgt := 543) hx hb dL_law_33 (by decide) (by decide) (by decide) (by decide) ?_
        exact lc_13 C0 hts hL hi6 hK hN hl hv hP hD hS hcl kk
      by_cases e14 : t = 14
      · rw [e14]
        refine lv_tableIn (off := 544) (tgt := 577) hx hb dL_law_33 (by decide) (by decide) (by decide) (by decide) ?_
        exact lc_14 C0 hts hL hi6 hK hN hl hv hP hD hS hcl kk
      by_cases e15 : t = 15
      · rw [e15]
        refine lv_tableIn (off := 567) (tgt := 600) hx hb dL_law_33 (by decide) (by decide) (by decide) (by decide) ?_
        exact lc_15 C0 hts hL hi6 hK hN hl hv hP hD hS hcl kk
      by_cases e16 : t = 16
      · rw [e16]
        refine lv_tableIn (off := 601) (tgt := 634) hx hb dL_law_33 (by decide) (by decide) (by decide) (by decide) ?_
        exact lc_16 C0 hts hL hi6 hK hN hl hv hP hD hS hcl kk
      by_cases e17 : t = 17
      · rw [e17]
        refine lv_tableIn (off := 624) (tgt := 657) hx hb dL_law_33 (by decide) (by decide) (by decide) (by decide) ?_
        exact lc_17 C0 hts hL hi6 hK hN hl hv hP hD hS hcl kk
      by_cases e18 : t = 18
      · rw [e18]
        refine lv_tableIn (off := 647) (tgt := 680) hx hb dL_law_33 (by decide) (by decide) (by decide) (by decide) ?_
        exact lc_18 C0 hts hL hi6 hK hN hl hv hP hD hS hcl kk
      by_cases e19 : t = 19
      · rw [e19]
        refine lv_tableIn (off := 690) (tgt := 723) hx hb dL_law_33 (by decide) (by decide) (by decide) (by decide) ?_
        exact lc_19 C0 hts hL hi6 hK hN hl hv hP hD hS hcl kk
      by_cases e20 : t = 20
      · rw [e20]
        refine lv_tableIn (off := 723) (tgt := 756) hx hb dL_law_33 (by decide) (by decide) (by decide) (by decide) ?_
        exact lc_20 C0 hts hL hi6 hK hN hl hv hP hD hS hcl kk
      by_cases e21 : t = 21
      · rw [e21]
        refine lv_tableIn (off := 736) (tgt := 769) hx hb dL_law_33 (by decide) (by decide) (by decide) (by decide) ?_
        exact lc_21 C0 hts hL hi6 hK hN hl hv hP hD hS hcl kk
      by_cases e22 : t = 22
      · rw [e22]
        refine lv_tableIn (off := 749) (tgt := 782) hx hb dL_law_33 (by decide) (by decide) (by decide) (by decide) ?_
        exact lc_22 C0 hts hL hi6 hK hN hl hv hP hD hS hcl kk
      by_cases e23 : t = 23
      · rw [e23]
        refine lv_tableIn (off := 792) (tgt := 825) hx hb dL_law_33 (by decide) (by decide) (by decide) (by decide) ?_
        exact lc_23 C0 hts hL hi6 hK hN hl hv hP hD hS hcl kk
      by_cases e24 : t = 24
      · rw [e24]
        refine lv_tableIn (off := 815) (tgt := 848) hx hb dL_law_33 (by decide) (by decide) (by decide) (by decide) ?_
        exact lc_24 C0 hts hL hi6 hK hN hl hv hP hD hS hcl kk
      by_cases e25 : t = 25
      · rw [e25]
        refine lv_tableIn (off := 838) (tgt := 871) hx hb dL_law_33 (by decide) (by decide) (by decide) (by decide) ?_
        exact lc_25 C0 hts hL hi6 hK hN hl hv hP hD hS hcl kk
      refine lv_tableOut (tgt := 894) hx hb dL_law_33 (Or.inr (by rw [nI_toInt (by omega)]; omega)) (by decide) ?_
      refine W.widen (k := cells + 6) (n := slots + 46) (Nat.le_add_right _ 6) (Nat.le_add_right _ 46) ?_
      exact kk oc ou og oy ow om od f x H locs hv hP hD hS
